theorem md_fb_s {S : hr_S} {e9 : Nat} {f9 : Int32} {k : Nat} (h : 8 ≤ k) : md_fb S e9 f9 (k + 1 - 8) = (md_fb S e9 f9 (k - 8) && decide (S 26 0 (e9 + k) = md_fk k)) := by
  rw [show k + 1 - 8 = (k - 8) + 1 by omega, md_fb, show 8 + (k - 8) = k by omega]
theorem nb_07 {x : Int32} (h : 0 ≤ x ∧ x ≤ 7) : nb x 8 := nb_le (N := 7) (Int32.not_lt.mpr h.1) h.2 rfl (by decide)
theorem md_fk_lo {k : Nat} (h : ¬ 11 ≤ k) : md_fk k = 255 := by unfold md_fk; rw [if_pos (by omega)]
theorem md_fk_hi {k : Nat} (h : 11 ≤ k) : md_fk k = 0 := by unfold md_fk; rw [if_neg (by omega)]
set_option maxHeartbeats 4000000 in
set_option maxRecDepth 100000 in
theorem ct_X4_isFilled (l : Launch) (E : hr_E) (S : hr_S) (o : Int64) (e9 : Nat) (he : e9 + 20 ≤ 164) (f9 : Int32) : hr_Mi l E yX4_isFilled (Cond.code yX4_isFilled cX4_isFilled 5 (some .boolean) :: hr_W) ({ frames := 0, cells := 0, slots := 0, locals := 0 } : Room) [.ref (hr_ad E 14 0), .int (nI e9), .int f9] S o (fun r u => r = (if md_fb S e9 f9 11 = true then 1 else 0) ∧ u = S) := by
  refine hr_of (by decide) (Nat.le_of_ble_eq_true rfl) (fun p e s m below meth c C hr => ?_)
  refine hr_aload_n C dX4_isFilled_0 rfl 0 rfl ?_
  refine hr_get (k := 14) (i := 0) (fld := 19) C (by decide) rfl rfl (by decide) kU_X4 kF_X4_45 rfl rfl dX4_isFilled_1 ?_
  refine hr_iload_n C dX4_isFilled_4 rfl 1 rfl ?_
  refine hr_iald (k := 26) (i := 0) e9 C (by decide) rfl rfl (show e9 < 164 by omega) (by decide) dX4_isFilled_5 ?_
  refine hr_if_ne C 47 dX4_isFilled_6 (by decide) (fun c6 => ?_) (fun c6 => ?_)
  · skip
    refine hr_iconst (v := 0) C dX4_isFilled_47 (by decide) ?_
    refine hr_istore_n C [(3, .int 0), (0, .ref (hr_ad E 14 0)), (1, .int (nI e9)), (2, .int f9)] dX4_isFilled_48 rfl (by decide) rfl ?_
    refine hr_iload_n C dX4_isFilled_49 rfl 0 rfl ?_
    refine hr_if_eq C 93 dX4_isFilled_50 (by decide) (fun c50 => ?_) (fun c50 => ?_)
    · skip
      have c50 : 0 = 0 := (nI_eq (a := 0) (b := 0) (by omega) (by omega)).mp c50
      refine hr_iconst (v := 0) C dX4_isFilled_93 (by decide) ?_
      refine hr_istore_n C [(3, .int 0), (0, .ref (hr_ad E 14 0)), (1, .int (nI e9)), (2, .int f9)] dX4_isFilled_94 rfl (by decide) rfl ?_
      refine hr_bipush (v := 8) C dX4_isFilled_95 (by decide) ?_
      refine hr_istore C [(4, .int 8), (3, .int 0), (0, .ref (hr_ad E 14 0)), (1, .int (nI e9)), (2, .int f9)] dX4_isFilled_97 (by decide) rfl ?_
      have LP99 : ∀ (n k9 : Nat) , k9 ≤ 19 → 19 + 1 ≤ k9 + n → 8 ≤ k9 → hr_G p l e ({ frames := 0, cells := 0, slots := 0, locals := 0 } : Room) s m #[.ref (hr_ad E 14 0), .int (nI e9), .int f9] below meth c (MQ below (va_Qi (fun r u => r = (if md_fb S e9 f9 11 = true then 1 else 0) ∧ u = S) (fun u t => hr_P E u o t.heap) (hr_A E)) #[.ref (hr_ad E 14 0), .int (nI e9), .int f9] s 0 0 (hr_A E)) E 5 0 0 S o [(0, .ref (hr_ad E 14 0)), (1, .int (nI e9)), (2, .int f9), (3, .int (if md_fb S e9 f9 (k9 - 8) = true then 1 else 0)), (4, .int (nI k9))] 99 [] := by
        intro n
        induction n with
        | zero => intro k9  h1 h2; omega
        | succ n ih =>
          intro k9  hv1 hv2 h8
          refine hr_iload C dX4_isFilled_99 4 rfl ?_
          refine hr_bipush (v := 19) C dX4_isFilled_101 (by decide) ?_
          refine hr_icmp_ge C 148 dX4_isFilled_103 (by decide) (fun c103 => ?_) (fun c103 => ?_)
          · skip
            have c103 : 19 ≤ k9 := (nI_leI (a := 19) (b := k9) (by omega) (by omega)).mp c103
            have c103n : ¬ k9 < 19 := Nat.not_lt.mpr c103
            refine hr_iload_n C dX4_isFilled_148 rfl 3 rfl ?_
            exact hr_zret C hr (by split <;> rfl) dX4_isFilled_149 ⟨by rw [show k9 = 19 by omega], rfl⟩
          · skip
            have c103 : ¬ 19 ≤ k9 := fun h => c103 ((nI_leI (a := 19) (b := k9) (by omega) (by omega)).mpr h)
            have c103n : k9 < 19 := Nat.not_le.mp c103
            refine hr_iload_n C dX4_isFilled_106 rfl 3 rfl ?_
            refine hr_if_eq C 140 dX4_isFilled_107 (by decide) (fun c107 => ?_) (fun c107 => ?_)
            · skip
              have c107 := hr_bz.mp c107
              have c107 : ¬ (md_fb S e9 f9 (k9 - 8) = true) := c107
              refine hr_iconst (v := 0) C dX4_isFilled_140 (by decide) ?_
              refine hr_istore_n C [(3, .int 0), (0, .ref (hr_ad E 14 0)), (1, .int (nI e9)), (2, .int f9), (4, .int (nI k9))] dX4_isFilled_141 rfl (by decide) rfl ?_
              refine hr_iinc (v := nI (k9 + 1)) C [(4, .int (nI (k9 + 1))), (3, .int 0), (0, .ref (hr_ad E 14 0)), (1, .int (nI e9)), (2, .int f9)] dX4_isFilled_142 4 rfl (nI_add k9 1) (by decide) rfl ?_
              refine hr_goto C 99 dX4_isFilled_145 (by decide) ?_
              refine hr_sub [2, 3, 4, 1, 0] rfl ?_
              refine hr_lve (lv2 := [(0, .ref (hr_ad E 14 0)), (1, .int (nI e9)), (2, .int f9), (3, .int (if md_fb S e9 f9 ((k9 + 1) - 8) = true then 1 else 0)), (4, .int (nI (k9 + 1)))]) (by rw [md_fb_s h8, Bool.eq_false_iff.mpr c107]; rfl) ?_
              refine hr_st (S1 := S) rfl ?_
              exact ih (k9 + 1)  (by omega) (by omega) (by omega)
            · skip
              have c107 := hr_bn.mp c107
              have c107 : md_fb S e9 f9 (k9 - 8) = true := c107
              refine hr_aload_n C dX4_isFilled_110 rfl 0 rfl ?_
              refine hr_get (k := 14) (i := 0) (fld := 19) C (by decide) rfl rfl (by decide) kU_X4 kF_X4_45 rfl rfl dX4_isFilled_111 ?_
              refine hr_iload_n C dX4_isFilled_114 rfl 1 rfl ?_
              refine hr_iload C dX4_isFilled_115 4 rfl ?_
              refine hr_iadd (v := nI (e9 + k9)) C dX4_isFilled_117 (nI_add e9 k9) ?_
              refine hr_iald (k := 26) (i := 0) (e9 + k9) C (by decide) rfl rfl (show e9 + k9 < 164 by omega) (by decide) dX4_isFilled_118 ?_
              refine hr_iload C dX4_isFilled_119 4 rfl ?_
              refine hr_bipush (v := 11) C dX4_isFilled_121 (by decide) ?_
              refine hr_icmp_ge C 132 dX4_isFilled_123 (by decide) (fun c123 => ?_) (fun c123 => ?_)
              · skip
                have c123 : 11 ≤ k9 := (nI_leI (a := 11) (b := k9) (by omega) (by omega)).mp c123
                have c123n : ¬ k9 < 11 := Nat.not_lt.mpr c123
                refine hr_iconst (v := 0) C dX4_isFilled_132 (by decide) ?_
                refine hr_icmp_ne C 140 dX4_isFilled_133 (by decide) (fun c133 => ?_) (fun c133 => ?_)
                · skip
                  refine hr_iconst (v := 0) C dX4_isFilled_140 (by decide) ?_
                  refine hr_istore_n C [(3, .int 0), (0, .ref (hr_ad E 14 0)), (1, .int (nI e9)), (2, .int f9), (4, .int (nI k9))] dX4_isFilled_141 rfl (by decide) rfl ?_
                  refine hr_iinc (v := nI (k9 + 1)) C [(4, .int (nI (k9 + 1))), (3, .int 0), (0, .ref (hr_ad E 14 0)), (1, .int (nI e9)), (2, .int f9)] dX4_isFilled_142 4 rfl (nI_add k9 1) (by decide) rfl ?_
                  refine hr_goto C 99 dX4_isFilled_145 (by decide) ?_
                  refine hr_sub [2, 3, 4, 1, 0] rfl ?_
                  refine hr_lve (lv2 := [(0, .ref (hr_ad E 14 0)), (1, .int (nI e9)), (2, .int f9), (3, .int (if md_fb S e9 f9 ((k9 + 1) - 8) = true then 1 else 0)), (4, .int (nI (k9 + 1)))]) (by rw [md_fb_s h8, c107, decide_eq_false (fun h => c133 (h.trans (md_fk_hi c123)))]; rfl) ?_
                  refine hr_st (S1 := S) rfl ?_
                  exact ih (k9 + 1)  (by omega) (by omega) (by omega)
                · skip
                  refine hr_iconst (v := 1) C dX4_isFilled_136 (by decide) ?_
                  refine hr_goto C 141 dX4_isFilled_137 (by decide) ?_
                  refine hr_istore_n C [(3, .int 1), (0, .ref (hr_ad E 14 0)), (1, .int (nI e9)), (2, .int f9), (4, .int (nI k9))] dX4_isFilled_141 rfl (by decide) rfl ?_
                  refine hr_iinc (v := nI (k9 + 1)) C [(4, .int (nI (k9 + 1))), (3, .int 1), (0, .ref (hr_ad E 14 0)), (1, .int (nI e9)), (2, .int f9)] dX4_isFilled_142 4 rfl (nI_add k9 1) (by decide) rfl ?_
                  refine hr_goto C 99 dX4_isFilled_145 (by decide) ?_
                  refine hr_sub [2, 3, 4, 1, 0] rfl ?_
                  refine hr_lve (lv2 := [(0, .ref (hr_ad E 14 0)), (1, .int (nI e9)), (2, .int f9), (3, .int (if md_fb S e9 f9 ((k9 + 1) - 8) = true then 1 else 0)), (4, .int (nI (k9 + 1)))]) (by rw [md_fb_s h8, c107, decide_eq_true (c133.trans (md_fk_hi c123).symm)]; rfl) ?_
                  refine hr_st (S1 := S) rfl ?_
                  exact ih (k9 + 1)  (by omega) (by omega) (by omega)
              · skip
                have c123 : ¬ 11 ≤ k9 := fun h => c123 ((nI_leI (a := 11) (b := k9) (by omega) (by omega)).mpr h)
                have c123n : k9 < 11 := Nat.not_le.mp c123
                refine hr_sipush (v := 255) C dX4_isFilled_126 (by decide) ?_
                refine hr_goto C 133 dX4_isFilled_129 (by decide) ?_
                refine hr_icmp_ne C 140 dX4_isFilled_133 (by decide) (fun c133 => ?_) (fun c133 => ?_)
                · skip
                  refine hr_iconst (v := 0) C dX4_isFilled_140 (by decide) ?_
                  refine hr_istore_n C [(3, .int 0), (0, .ref (hr_ad E 14 0)), (1, .int (nI e9)), (2, .int f9), (4, .int (nI k9))] dX4_isFilled_141 rfl (by decide) rfl ?_
                  refine hr_iinc (v := nI (k9 + 1)) C [(4, .int (nI (k9 + 1))), (3, .int 0), (0, .ref (hr_ad E 14 0)), (1, .int (nI e9)), (2, .int f9)] dX4_isFilled_142 4 rfl (nI_add k9 1) (by decide) rfl ?_
                  refine hr_goto C 99 dX4_isFilled_145 (by decide) ?_
                  refine hr_sub [2, 3, 4, 1, 0] rfl ?_
                  refine hr_lve (lv2 := [(0, .ref (hr_ad E 14 0)), (1, .int (nI e9)), (2, .int f9), (3, .int (if md_fb S e9 f9 ((k9 + 1) - 8) = true then 1 else 0)), (4, .int (nI (k9 + 1)))]) (by rw [md_fb_s h8, c107, decide_eq_false (fun h => c133 (h.trans (md_fk_lo c123)))]; rfl) ?_
                  refine hr_st (S1 := S) rfl ?_
                  exact ih (k9 + 1)  (by omega) (by omega) (by omega)
                · skip
                  refine hr_iconst (v := 1) C dX4_isFilled_136 (by decide) ?_
                  refine hr_goto C 141 dX4_isFilled_137 (by decide) ?_
                  refine hr_istore_n C [(3, .int 1), (0, .ref (hr_ad E 14 0)), (1, .int (nI e9)), (2, .int f9), (4, .int (nI k9))] dX4_isFilled_141 rfl (by decide) rfl ?_
                  refine hr_iinc (v := nI (k9 + 1)) C [(4, .int (nI (k9 + 1))), (3, .int 1), (0, .ref (hr_ad E 14 0)), (1, .int (nI e9)), (2, .int f9)] dX4_isFilled_142 4 rfl (nI_add k9 1) (by decide) rfl ?_
                  refine hr_goto C 99 dX4_isFilled_145 (by decide) ?_
                  refine hr_sub [2, 3, 4, 1, 0] rfl ?_
                  refine hr_lve (lv2 := [(0, .ref (hr_ad E 14 0)), (1, .int (nI e9)), (2, .int f9), (3, .int (if md_fb S e9 f9 ((k9 + 1) - 8) = true then 1 else 0)), (4, .int (nI (k9 + 1)))]) (by rw [md_fb_s h8, c107, decide_eq_true (c133.trans (md_fk_lo c123).symm)]; rfl) ?_
                  refine hr_st (S1 := S) rfl ?_
                  exact ih (k9 + 1)  (by omega) (by omega) (by omega)
      refine hr_sub [2, 3, 4, 1, 0] rfl ?_
      refine hr_lve (lv2 := [(0, .ref (hr_ad E 14 0)), (1, .int (nI e9)), (2, .int f9), (3, .int (if md_fb S e9 f9 (8 - 8) = true then 1 else 0)), (4, .int (nI 8))]) (by rw [show md_fb S e9 f9 (8 - 8) = false from md_f00 _ _ _ (fun h => c6 h.1.1)]; rfl) ?_
      refine hr_st (S1 := S) rfl ?_
      exact LP99 (19 + 1) 8  (by omega) (by omega) (by omega)
    · skip
      exact absurd c50 (by decide)
  · skip
    refine hr_aload_n C dX4_isFilled_9 rfl 0 rfl ?_
    refine hr_get (k := 14) (i := 0) (fld := 19) C (by decide) rfl rfl (by decide) kU_X4 kF_X4_45 rfl rfl dX4_isFilled_10 ?_
    refine hr_iload_n C dX4_isFilled_13 rfl 1 rfl ?_
    refine hr_iconst (v := 1) C dX4_isFilled_14 (by decide) ?_
    refine hr_iadd (v := nI (e9 + 1)) C dX4_isFilled_15 (nI_add e9 1) ?_
    refine hr_iald (k := 26) (i := 0) (e9 + 1) C (by decide) rfl rfl (show e9 + 1 < 164 by omega) (by decide) dX4_isFilled_16 ?_
    refine hr_iload_n C dX4_isFilled_17 rfl 2 rfl ?_
    refine hr_icmp_ne C 47 dX4_isFilled_18 (by decide) (fun c18 => ?_) (fun c18 => ?_)
    · skip
      refine hr_iconst (v := 0) C dX4_isFilled_47 (by decide) ?_
      refine hr_istore_n C [(3, .int 0), (0, .ref (hr_ad E 14 0)), (1, .int (nI e9)), (2, .int f9)] dX4_isFilled_48 rfl (by decide) rfl ?_
      refine hr_iload_n C dX4_isFilled_49 rfl 0 rfl ?_
      refine hr_if_eq C 93 dX4_isFilled_50 (by decide) (fun c50 => ?_) (fun c50 => ?_)
      · skip
        have c50 : 0 = 0 := (nI_eq (a := 0) (b := 0) (by omega) (by omega)).mp c50
        refine hr_iconst (v := 0) C dX4_isFilled_93 (by decide) ?_
        refine hr_istore_n C [(3, .int 0), (0, .ref (hr_ad E 14 0)), (1, .int (nI e9)), (2, .int f9)] dX4_isFilled_94 rfl (by decide) rfl ?_
        refine hr_bipush (v := 8) C dX4_isFilled_95 (by decide) ?_
        refine hr_istore C [(4, .int 8), (3, .int 0), (0, .ref (hr_ad E 14 0)), (1, .int (nI e9)), (2, .int f9)] dX4_isFilled_97 (by decide) rfl ?_
        have LP99 : ∀ (n k9 : Nat) , k9 ≤ 19 → 19 + 1 ≤ k9 + n → 8 ≤ k9 → hr_G p l e ({ frames := 0, cells := 0, slots := 0, locals := 0 } : Room) s m #[.ref (hr_ad E 14 0), .int (nI e9), .int f9] below meth c (MQ below (va_Qi (fun r u => r = (if md_fb S e9 f9 11 = true then 1 else 0) ∧ u = S) (fun u t => hr_P E u o t.heap) (hr_A E)) #[.ref (hr_ad E 14 0), .int (nI e9), .int f9] s 0 0 (hr_A E)) E 5 0 0 S o [(0, .ref (hr_ad E 14 0)), (1, .int (nI e9)), (2, .int f9), (3, .int (if md_fb S e9 f9 (k9 - 8) = true then 1 else 0)), (4, .int (nI k9))] 99 [] := by
          intro n
          induction n with
          | zero => intro k9  h1 h2; omega
          | succ n ih =>
            intro k9  hv1 hv2 h8
            refine hr_iload C dX4_isFilled_99 4 rfl ?_
            refine hr_bipush (v := 19) C dX4_isFilled_101 (by decide) ?_
            refine hr_icmp_ge C 148 dX4_isFilled_103 (by decide) (fun c103 => ?_) (fun c103 => ?_)
            · skip
              have c103 : 19 ≤ k9 := (nI_leI (a := 19) (b := k9) (by omega) (by omega)).mp c103
              have c103n : ¬ k9 < 19 := Nat.not_lt.mpr c103
              refine hr_iload_n C dX4_isFilled_148 rfl 3 rfl ?_
              exact hr_zret C hr (by split <;> rfl) dX4_isFilled_149 ⟨by rw [show k9 = 19 by omega], rfl⟩
            · skip
              have c103 : ¬ 19 ≤ k9 := fun h => c103 ((nI_leI (a := 19) (b := k9) (by omega) (by omega)).mpr h)
              have c103n : k9 < 19 := Nat.not_le.mp c103
              refine hr_iload_n C dX4_isFilled_106 rfl 3 rfl ?_
              refine hr_if_eq C 140 dX4_isFilled_107 (by decide) (fun c107 => ?_) (fun c107 => ?_)
              · skip
                have c107 := hr_bz.mp c107
                have c107 : ¬ (md_fb S e9 f9 (k9 - 8) = true) := c107
                refine hr_iconst (v := 0) C dX4_isFilled_140 (by decide) ?_
                refine hr_istore_n C [(3, .int 0), (0, .ref (hr_ad E 14 0)), (1, .int (nI e9)), (2, .int f9), (4, .int (nI k9))] dX4_isFilled_141 rfl (by decide) rfl ?_
                refine hr_iinc (v := nI (k9 + 1)) C [(4, .int (nI (k9 + 1))), (3, .int 0), (0, .ref (hr_ad E 14 0)), (1, .int (nI e9)), (2, .int f9)] dX4_isFilled_142 4 rfl (nI_add k9 1) (by decide) rfl ?_
                refine hr_goto C 99 dX4_isFilled_145 (by decide) ?_
                refine hr_sub [2, 3, 4, 1, 0] rfl ?_
                refine hr_lve (lv2 := [(0, .ref (hr_ad E 14 0)), (1, .int (nI e9)), (2, .int f9), (3, .int (if md_fb S e9 f9 ((k9 + 1) - 8) = true then 1 else 0)), (4, .int (nI (k9 + 1)))]) (by rw [md_fb_s h8, Bool.eq_false_iff.mpr c107]; rfl) ?_
                refine hr_st (S1 := S) rfl ?_
                exact ih (k9 + 1)  (by omega) (by omega) (by omega)
              · skip
                have c107 := hr_bn.mp c107
                have c107 : md_fb S e9 f9 (k9 - 8) = true := c107
                refine hr_aload_n C dX4_isFilled_110 rfl 0 rfl ?_
                refine hr_get (k := 14) (i := 0) (fld := 19) C (by decide) rfl rfl (by decide) kU_X4 kF_X4_45 rfl rfl dX4_isFilled_111 ?_
                refine hr_iload_n C dX4_isFilled_114 rfl 1 rfl ?_
                refine hr_iload C dX4_isFilled_115 4 rfl ?_
                refine hr_iadd (v := nI (e9 + k9)) C dX4_isFilled_117 (nI_add e9 k9) ?_
                refine hr_iald (k := 26) (i := 0) (e9 + k9) C (by decide) rfl rfl (show e9 + k9 < 164 by omega) (by decide) dX4_isFilled_118 ?_
                refine hr_iload C dX4_isFilled_119 4 rfl ?_
                refine hr_bipush (v := 11) C dX4_isFilled_121 (by decide) ?_
                refine hr_icmp_ge C 132 dX4_isFilled_123 (by decide) (fun c123 => ?_) (fun c123 => ?_)
                · skip
                  have c123 : 11 ≤ k9 := (nI_leI (a := 11) (b := k9) (by omega) (by omega)).mp c123
                  have c123n : ¬ k9 < 11 := Nat.not_lt.mpr c123
                  refine hr_iconst (v := 0) C dX4_isFilled_132 (by decide) ?_
                  refine hr_icmp_ne C 140 dX4_isFilled_133 (by decide) (fun c133 => ?_) (fun c133 => ?_)
                  · skip
                    refine hr_iconst (v := 0) C dX4_isFilled_140 (by decide) ?_
                    refine hr_istore_n C [(3, .int 0), (0, .ref (hr_ad E 14 0)), (1, .int (nI e9)), (2, .int f9), (4, .int (nI k9))] dX4_isFilled_141 rfl (by decide) rfl ?_
                    refine hr_iinc (v := nI (k9 + 1)) C [(4, .int (nI (k9 + 1))), (3, .int 0), (0, .ref (hr_ad E 14 0)), (1, .int (nI e9)), (2, .int f9)] dX4_isFilled_142 4 rfl (nI_add k9 1) (by decide) rfl ?_
                    refine hr_goto C 99 dX4_isFilled_145 (by decide) ?_
                    refine hr_sub [2, 3, 4, 1, 0] rfl ?_
                    refine hr_lve (lv2 := [(0, .ref (hr_ad E 14 0)), (1, .int (nI e9)), (2, .int f9), (3, .int (if md_fb S e9 f9 ((k9 + 1) - 8) = true then 1 else 0)), (4, .int (nI (k9 + 1)))]) (by rw [md_fb_s h8, c107, decide_eq_false (fun h => c133 (h.trans (md_fk_hi c123)))]; rfl) ?_
                    refine hr_st (S1 := S) rfl ?_
                    exact ih (k9 + 1)  (by omega) (by omega) (by omega)
                  · skip
                    refine hr_iconst (v := 1) C dX4_isFilled_136 (by decide) ?_
                    refine hr_goto C 141 dX4_isFilled_137 (by decide) ?_
                    refine hr_istore_n C [(3, .int 1), (0, .ref (hr_ad E 14 0)), (1, .int (nI e9)), (2, .int f9), (4, .int (nI k9))] dX4_isFilled_141 rfl (by decide) rfl ?_
                    refine hr_iinc (v := nI (k9 + 1)) C [(4, .int (nI (k9 + 1))), (3, .int 1), (0, .ref (hr_ad E 14 0)), (1, .int (nI e9)), (2, .int f9)] dX4_isFilled_142 4 rfl (nI_add k9 1) (by decide) rfl ?_
                    refine hr_goto C 99 dX4_isFilled_145 (by decide) ?_
                    refine hr_sub [2, 3, 4, 1, 0] rfl ?_
                    refine hr_lve (lv2 := [(0, .ref (hr_ad E 14 0)), (1, .int (nI e9)), (2, .int f9), (3, .int (if md_fb S e9 f9 ((k9 + 1) - 8) = true then 1 else 0)), (4, .int (nI (k9 + 1)))]) (by rw [md_fb_s h8, c107, decide_eq_true (c133.trans (md_fk_hi c123).symm)]; rfl) ?_
                    refine hr_st (S1 := S) rfl ?_
                    exact ih (k9 + 1)  (by omega) (by omega) (by omega)
                · skip
                  have c123 : ¬ 11 ≤ k9 := fun h => c123 ((nI_leI (a := 11) (b := k9) (by omega) (by omega)).mpr h)
                  have c123n : k9 < 11 := Nat.not_le.mp c123
                  refine hr_sipush (v := 255) C dX4_isFilled_126 (by decide) ?_
                  refine hr_goto C 133 dX4_isFilled_129 (by decide) ?_
                  refine hr_icmp_ne C 140 dX4_isFilled_133 (by decide) (fun c133 => ?_) (fun c133 => ?_)
                  · skip
                    refine hr_iconst (v := 0) C dX4_isFilled_140 (by decide) ?_
                    refine hr_istore_n C [(3, .int 0), (0, .ref (hr_ad E 14 0)), (1, .int (nI e9)), (2, .int f9), (4, .int (nI k9))] dX4_isFilled_141 rfl (by decide) rfl ?_
                    refine hr_iinc (v := nI (k9 + 1)) C [(4, .int (nI (k9 + 1))), (3, .int 0), (0, .ref (hr_ad E 14 0)), (1, .int (nI e9)), (2, .int f9)] dX4_isFilled_142 4 rfl (nI_add k9 1) (by decide) rfl ?_
                    refine hr_goto C 99 dX4_isFilled_145 (by decide) ?_
                    refine hr_sub [2, 3, 4, 1, 0] rfl ?_
                    refine hr_lve (lv2 := [(0, .ref (hr_ad E 14 0)), (1, .int (nI e9)), (2, .int f9), (3, .int (if md_fb S e9 f9 ((k9 + 1) - 8) = true then 1 else 0)), (4, .int (nI (k9 + 1)))]) (by rw [md_fb_s h8, c107, decide_eq_false (fun h => c133 (h.trans (md_fk_lo c123)))]; rfl) ?_
                    refine hr_st (S1 := S) rfl ?_
                    exact ih (k9 + 1)  (by omega) (by omega) (by omega)
                  · skip
                    refine hr_iconst (v := 1) C dX4_isFilled_136 (by decide) ?_
                    refine hr_goto C 141 dX4_isFilled_137 (by decide) ?_
                    refine hr_istore_n C [(3, .int 1), (0, .ref (hr_ad E 14 0)), (1, .int (nI e9)), (2, .int f9), (4, .int (nI k9))] dX4_isFilled_141 rfl (by decide) rfl ?_
                    refine hr_iinc (v := nI (k9 + 1)) C [(4, .int (nI (k9 + 1))), (3, .int 1), (0, .ref (hr_ad E 14 0)), (1, .int (nI e9)), (2, .int f9)] dX4_isFilled_142 4 rfl (nI_add k9 1) (by decide) rfl ?_
                    refine hr_goto C 99 dX4_isFilled_145 (by decide) ?_
                    refine hr_sub [2, 3, 4, 1, 0] rfl ?_
                    refine hr_lve (lv2 := [(0, .ref (hr_ad E 14 0)), (1, .int (nI e9)), (2, .int f9), (3, .int (if md_fb S e9 f9 ((k9 + 1) - 8) = true then 1 else 0)), (4, .int (nI (k9 + 1)))]) (by rw [md_fb_s h8, c107, decide_eq_true (c133.trans (md_fk_lo c123).symm)]; rfl) ?_
                    refine hr_st (S1 := S) rfl ?_
                    exact ih (k9 + 1)  (by omega) (by omega) (by omega)
        refine hr_sub [2, 3, 4, 1, 0] rfl ?_
        refine hr_lve (lv2 := [(0, .ref (hr_ad E 14 0)), (1, .int (nI e9)), (2, .int f9), (3, .int (if md_fb S e9 f9 (8 - 8) = true then 1 else 0)), (4, .int (nI 8))]) (by rw [show md_fb S e9 f9 (8 - 8) = false from md_f00 _ _ _ (fun h => c18 h.1.2.1)]; rfl) ?_
        refine hr_st (S1 := S) rfl ?_
        exact LP99 (19 + 1) 8  (by omega) (by omega) (by omega)
      · skip
        exact absurd c50 (by decide)
    · skip
      refine hr_aload_n C dX4_isFilled_21 rfl 0 rfl ?_
      refine hr_get (k := 14) (i := 0) (fld := 19) C (by decide) rfl rfl (by decide) kU_X4 kF_X4_45 rfl rfl dX4_isFilled_22 ?_
      refine hr_iload_n C dX4_isFilled_25 rfl 1 rfl ?_
      refine hr_iconst (v := 2) C dX4_isFilled_26 (by decide) ?_
      refine hr_iadd (v := nI (e9 + 2)) C dX4_isFilled_27 (nI_add e9 2) ?_
      refine hr_iald (k := 26) (i := 0) (e9 + 2) C (by decide) rfl rfl (show e9 + 2 < 164 by omega) (by decide) dX4_isFilled_28 ?_
      refine hr_if_ne C 47 dX4_isFilled_29 (by decide) (fun c29 => ?_) (fun c29 => ?_)
      · skip
        refine hr_iconst (v := 0) C dX4_isFilled_47 (by decide) ?_
        refine hr_istore_n C [(3, .int 0), (0, .ref (hr_ad E 14 0)), (1, .int (nI e9)), (2, .int f9)] dX4_isFilled_48 rfl (by decide) rfl ?_
        refine hr_iload_n C dX4_isFilled_49 rfl 0 rfl ?_
        refine hr_if_eq C 93 dX4_isFilled_50 (by decide) (fun c50 => ?_) (fun c50 => ?_)
        · skip
          have c50 : 0 = 0 := (nI_eq (a := 0) (b := 0) (by omega) (by omega)).mp c50
          refine hr_iconst (v := 0) C dX4_isFilled_93 (by decide) ?_
          refine hr_istore_n C [(3, .int 0), (0, .ref (hr_ad E 14 0)), (1, .int (nI e9)), (2, .int f9)] dX4_isFilled_94 rfl (by decide) rfl ?_
          refine hr_bipush (v := 8) C dX4_isFilled_95 (by decide) ?_
          refine hr_istore C [(4, .int 8), (3, .int 0), (0, .ref (hr_ad E 14 0)), (1, .int (nI e9)), (2, .int f9)] dX4_isFilled_97 (by decide) rfl ?_
          have LP99 : ∀ (n k9 : Nat) , k9 ≤ 19 → 19 + 1 ≤ k9 + n → 8 ≤ k9 → hr_G p l e ({ frames := 0, cells := 0, slots := 0, locals := 0 } : Room) s m #[.ref (hr_ad E 14 0), .int (nI e9), .int f9] below meth c (MQ below (va_Qi (fun r u => r = (if md_fb S e9 f9 11 = true then 1 else 0) ∧ u = S) (fun u t => hr_P E u o t.heap) (hr_A E)) #[.ref (hr_ad E 14 0), .int (nI e9), .int f9] s 0 0 (hr_A E)) E 5 0 0 S o [(0, .ref (hr_ad E 14 0)), (1, .int (nI e9)), (2, .int f9), (3, .int (if md_fb S e9 f9 (k9 - 8) = true then 1 else 0)), (4, .int (nI k9))] 99 [] := by
            intro n
            induction n with
            | zero => intro k9  h1 h2; omega
            | succ n ih =>
              intro k9  hv1 hv2 h8
              refine hr_iload C dX4_isFilled_99 4 rfl ?_
              refine hr_bipush (v := 19) C dX4_isFilled_101 (by decide) ?_
              refine hr_icmp_ge C 148 dX4_isFilled_103 (by decide) (fun c103 => ?_) (fun c103 => ?_)
              · skip
                have c103 : 19 ≤ k9 := (nI_leI (a := 19) (b := k9) (by omega) (by omega)).mp c103
                have c103n : ¬ k9 < 19 := Nat.not_lt.mpr c103
                refine hr_iload_n C dX4_isFilled_148 rfl 3 rfl ?_
                exact hr_zret C hr (by split <;> rfl) dX4_isFilled_149 ⟨by rw [show k9 = 19 by omega], rfl⟩
              · skip
                have c103 : ¬ 19 ≤ k9 := fun h => c103 ((nI_leI (a := 19) (b := k9) (by omega) (by omega)).mpr h)
                have c103n : k9 < 19 := Nat.not_le.mp c103
                refine hr_iload_n C dX4_isFilled_106 rfl 3 rfl ?_
                refine hr_if_eq C 140 dX4_isFilled_107 (by decide) (fun c107 => ?_) (fun c107 => ?_)
                · skip
                  have c107 := hr_bz.mp c107
                  have c107 : ¬ (md_fb S e9 f9 (k9 - 8) = true) := c107
                  refine hr_iconst (v := 0) C dX4_isFilled_140 (by decide) ?_
                  refine hr_istore_n C [(3, .int 0), (0, .ref (hr_ad E 14 0)), (1, .int (nI e9)), (2, .int f9), (4, .int (nI k9))] dX4_isFilled_141 rfl (by decide) rfl ?_
                  refine hr_iinc (v := nI (k9 + 1)) C [(4, .int (nI (k9 + 1))), (3, .int 0), (0, .ref (hr_ad E 14 0)), (1, .int (nI e9)), (2, .int f9)] dX4_isFilled_142 4 rfl (nI_add k9 1) (by decide) rfl ?_
                  refine hr_goto C 99 dX4_isFilled_145 (by decide) ?_
                  refine hr_sub [2, 3, 4, 1, 0] rfl ?_
                  refine hr_lve (lv2 := [(0, .ref (hr_ad E 14 0)), (1, .int (nI e9)), (2, .int f9), (3, .int (if md_fb S e9 f9 ((k9 + 1) - 8) = true then 1 else 0)), (4, .int (nI (k9 + 1)))]) (by rw [md_fb_s h8, Bool.eq_false_iff.mpr c107]; rfl) ?_
                  refine hr_st (S1 := S) rfl ?_
                  exact ih (k9 + 1)  (by omega) (by omega) (by omega)
                · skip
                  have c107 := hr_bn.mp c107
                  have c107 : md_fb S e9 f9 (k9 - 8) = true := c107
                  refine hr_aload_n C dX4_isFilled_110 rfl 0 rfl ?_
                  refine hr_get (k := 14) (i := 0) (fld := 19) C (by decide) rfl rfl (by decide) kU_X4 kF_X4_45 rfl rfl dX4_isFilled_111 ?_
                  refine hr_iload_n C dX4_isFilled_114 rfl 1 rfl ?_
                  refine hr_iload C dX4_isFilled_115 4 rfl ?_
                  refine hr_iadd (v := nI (e9 + k9)) C dX4_isFilled_117 (nI_add e9 k9) ?_
                  refine hr_iald (k := 26) (i := 0) (e9 + k9) C (by decide) rfl rfl (show e9 + k9 < 164 by omega) (by decide) dX4_isFilled_118 ?_
                  refine hr_iload C dX4_isFilled_119 4 rfl ?_
                  refine hr_bipush (v := 11) C dX4_isFilled_121 (by decide) ?_
                  refine hr_icmp_ge C 132 dX4_isFilled_123 (by decide) (fun c123 => ?_) (fun c123 => ?_)
                  · skip
                    have c123 : 11 ≤ k9 := (nI_leI (a := 11) (b := k9) (by omega) (by omega)).mp c123
                    have c123n : ¬ k9 < 11 := Nat.not_lt.mpr c123
                    refine hr_iconst (v := 0) C dX4_isFilled_132 (by decide) ?_
                    refine hr_icmp_ne C 140 dX4_isFilled_133 (by decide) (fun c133 => ?_) (fun c133 => ?_)
                    · skip
                      refine hr_iconst (v := 0) C dX4_isFilled_140 (by decide) ?_
                      refine hr_istore_n C [(3, .int 0), (0, .ref (hr_ad E 14 0)), (1, .int (nI e9)), (2, .int f9), (4, .int (nI k9))] dX4_isFilled_141 rfl (by decide) rfl ?_
                      refine hr_iinc (v := nI (k9 + 1)) C [(4, .int (nI (k9 + 1))), (3, .int 0), (0, .ref (hr_ad E 14 0)), (1, .int (nI e9)), (2, .int f9)] dX4_isFilled_142 4 rfl (nI_add k9 1) (by decide) rfl ?_
                      refine hr_goto C 99 dX4_isFilled_145 (by decide) ?_
                      refine hr_sub [2, 3, 4, 1, 0] rfl ?_
                      refine hr_lve (lv2 := [(0, .ref (hr_ad E 14 0)), (1, .int (nI e9)), (2, .int f9), (3, .int (if md_fb S e9 f9 ((k9 + 1) - 8) = true then 1 else 0)), (4, .int (nI (k9 + 1)))]) (by rw [md_fb_s h8, c107, decide_eq_false (fun h => c133 (h.trans (md_fk_hi c123)))]; rfl) ?_
                      refine hr_st (S1 := S) rfl ?_
                      exact ih (k9 + 1)  (by omega) (by omega) (by omega)
                    · skip
                      refine hr_iconst (v := 1) C dX4_isFilled_136 (by decide) ?_
                      refine hr_goto C 141 dX4_isFilled_137 (by decide) ?_
                      refine hr_istore_n C [(3, .int 1), (0, .ref (hr_ad E 14 0)), (1, .int (nI e9)), (2, .int f9), (4, .int (nI k9))] dX4_isFilled_141 rfl (by decide) rfl ?_
                      refine hr_iinc (v := nI (k9 + 1)) C [(4, .int (nI (k9 + 1))), (3, .int 1), (0, .ref (hr_ad E 14 0)), (1, .int (nI e9)), (2, .int f9)] dX4_isFilled_142 4 rfl (nI_add k9 1) (by decide) rfl ?_
                      refine hr_goto C 99 dX4_isFilled_145 (by decide) ?_
                      refine hr_sub [2, 3, 4, 1, 0] rfl ?_
                      refine hr_lve (lv2 := [(0, .ref (hr_ad E 14 0)), (1, .int (nI e9)), (2, .int f9), (3, .int (if md_fb S e9 f9 ((k9 + 1) - 8) = true then 1 else 0)), (4, .int (nI (k9 + 1)))]) (by rw [md_fb_s h8, c107, decide_eq_true (c133.trans (md_fk_hi c123).symm)]; rfl) ?_
                      refine hr_st (S1 := S) rfl ?_
                      exact ih (k9 + 1)  (by omega) (by omega) (by omega)
                  · skip
                    have c123 : ¬ 11 ≤ k9 := fun h => c123 ((nI_leI (a := 11) (b := k9) (by omega) (by omega)).mpr h)
                    have c123n : k9 < 11 := Nat.not_le.mp c123
                    refine hr_sipush (v := 255) C dX4_isFilled_126 (by decide) ?_
                    refine hr_goto C 133 dX4_isFilled_129 (by decide) ?_
                    refine hr_icmp_ne C 140 dX4_isFilled_133 (by decide) (fun c133 => ?_) (fun c133 => ?_)
                    · skip
                      refine hr_iconst (v := 0) C dX4_isFilled_140 (by decide) ?_
                      refine hr_istore_n C [(3, .int 0), (0, .ref (hr_ad E 14 0)), (1, .int (nI e9)), (2, .int f9), (4, .int (nI k9))] dX4_isFilled_141 rfl (by decide) rfl ?_
                      refine hr_iinc (v := nI (k9 + 1)) C [(4, .int (nI (k9 + 1))), (3, .int 0), (0, .ref (hr_ad E 14 0)), (1, .int (nI e9)), (2, .int f9)] dX4_isFilled_142 4 rfl (nI_add k9 1) (by decide) rfl ?_
                      refine hr_goto C 99 dX4_isFilled_145 (by decide) ?_
                      refine hr_sub [2, 3, 4, 1, 0] rfl ?_
                      refine hr_lve (lv2 := [(0, .ref (hr_ad E 14 0)), (1, .int (nI e9)), (2, .int f9), (3, .int (if md_fb S e9 f9 ((k9 + 1) - 8) = true then 1 else 0)), (4, .int (nI (k9 + 1)))]) (by rw [md_fb_s h8, c107, decide_eq_false (fun h => c133 (h.trans (md_fk_lo c123)))]; rfl) ?_
                      refine hr_st (S1 := S) rfl ?_
                      exact ih (k9 + 1)  (by omega) (by omega) (by omega)
                    · skip
                      refine hr_iconst (v := 1) C dX4_isFilled_136 (by decide) ?_
                      refine hr_goto C 141 dX4_isFilled_137 (by decide) ?_
                      refine hr_istore_n C [(3, .int 1), (0, .ref (hr_ad E 14 0)), (1, .int (nI e9)), (2, .int f9), (4, .int (nI k9))] dX4_isFilled_141 rfl (by decide) rfl ?_
                      refine hr_iinc (v := nI (k9 + 1)) C [(4, .int (nI (k9 + 1))), (3, .int 1), (0, .ref (hr_ad E 14 0)), (1, .int (nI e9)), (2, .int f9)] dX4_isFilled_142 4 rfl (nI_add k9 1) (by decide) rfl ?_
                      refine hr_goto C 99 dX4_isFilled_145 (by decide) ?_
                      refine hr_sub [2, 3, 4, 1, 0] rfl ?_
                      refine hr_lve (lv2 := [(0, .ref (hr_ad E 14 0)), (1, .int (nI e9)), (2, .int f9), (3, .int (if md_fb S e9 f9 ((k9 + 1) - 8) = true then 1 else 0)), (4, .int (nI (k9 + 1)))]) (by rw [md_fb_s h8, c107, decide_eq_true (c133.trans (md_fk_lo c123).symm)]; rfl) ?_
                      refine hr_st (S1 := S) rfl ?_
                      exact ih (k9 + 1)  (by omega) (by omega) (by omega)
          refine hr_sub [2, 3, 4, 1, 0] rfl ?_
          refine hr_lve (lv2 := [(0, .ref (hr_ad E 14 0)), (1, .int (nI e9)), (2, .int f9), (3, .int (if md_fb S e9 f9 (8 - 8) = true then 1 else 0)), (4, .int (nI 8))]) (by rw [show md_fb S e9 f9 (8 - 8) = false from md_f00 _ _ _ (fun h => c29 h.1.2.2.1)]; rfl) ?_
          refine hr_st (S1 := S) rfl ?_
          exact LP99 (19 + 1) 8  (by omega) (by omega) (by omega)
        · skip
          exact absurd c50 (by decide)
      · skip
        refine hr_aload_n C dX4_isFilled_32 rfl 0 rfl ?_
        refine hr_get (k := 14) (i := 0) (fld := 19) C (by decide) rfl rfl (by decide) kU_X4 kF_X4_45 rfl rfl dX4_isFilled_33 ?_
        refine hr_iload_n C dX4_isFilled_36 rfl 1 rfl ?_
        refine hr_iconst (v := 3) C dX4_isFilled_37 (by decide) ?_
        refine hr_iadd (v := nI (e9 + 3)) C dX4_isFilled_38 (nI_add e9 3) ?_
        refine hr_iald (k := 26) (i := 0) (e9 + 3) C (by decide) rfl rfl (show e9 + 3 < 164 by omega) (by decide) dX4_isFilled_39 ?_
        refine hr_if_ne C 47 dX4_isFilled_40 (by decide) (fun c40 => ?_) (fun c40 => ?_)
        · skip
          refine hr_iconst (v := 0) C dX4_isFilled_47 (by decide) ?_
          refine hr_istore_n C [(3, .int 0), (0, .ref (hr_ad E 14 0)), (1, .int (nI e9)), (2, .int f9)] dX4_isFilled_48 rfl (by decide) rfl ?_
          refine hr_iload_n C dX4_isFilled_49 rfl 0 rfl ?_
          refine hr_if_eq C 93 dX4_isFilled_50 (by decide) (fun c50 => ?_) (fun c50 => ?_)
          · skip
            have c50 : 0 = 0 := (nI_eq (a := 0) (b := 0) (by omega) (by omega)).mp c50
            refine hr_iconst (v := 0) C dX4_isFilled_93 (by decide) ?_
            refine hr_istore_n C [(3, .int 0), (0, .ref (hr_ad E 14 0)), (1, .int (nI e9)), (2, .int f9)] dX4_isFilled_94 rfl (by decide) rfl ?_
            refine hr_bipush (v := 8) C dX4_isFilled_95 (by decide) ?_
            refine hr_istore C [(4, .int 8), (3, .int 0), (0, .ref (hr_ad E 14 0)), (1, .int (nI e9)), (2, .int f9)] dX4_isFilled_97 (by decide) rfl ?_
            have LP99 : ∀ (n k9 : Nat) , k9 ≤ 19 → 19 + 1 ≤ k9 + n → 8 ≤ k9 → hr_G p l e ({ frames := 0, cells := 0, slots := 0, locals := 0 } : Room) s m #[.ref (hr_ad E 14 0), .int (nI e9), .int f9] below meth c (MQ below (va_Qi (fun r u => r = (if md_fb S e9 f9 11 = true then 1 else 0) ∧ u = S) (fun u t => hr_P E u o t.heap) (hr_A E)) #[.ref (hr_ad E 14 0), .int (nI e9), .int f9] s 0 0 (hr_A E)) E 5 0 0 S o [(0, .ref (hr_ad E 14 0)), (1, .int (nI e9)), (2, .int f9), (3, .int (if md_fb S e9 f9 (k9 - 8) = true then 1 else 0)), (4, .int (nI k9))] 99 [] := by
              intro n
              induction n with
              | zero => intro k9  h1 h2; omega
              | succ n ih =>
                intro k9  hv1 hv2 h8
                refine hr_iload C dX4_isFilled_99 4 rfl ?_
                refine hr_bipush (v := 19) C dX4_isFilled_101 (by decide) ?_
                refine hr_icmp_ge C 148 dX4_isFilled_103 (by decide) (fun c103 => ?_) (fun c103 => ?_)
                · skip
                  have c103 : 19 ≤ k9 := (nI_leI (a := 19) (b := k9) (by omega) (by omega)).mp c103
                  have c103n : ¬ k9 < 19 := Nat.not_lt.mpr c103
                  refine hr_iload_n C dX4_isFilled_148 rfl 3 rfl ?_
                  exact hr_zret C hr (by split <;> rfl) dX4_isFilled_149 ⟨by rw [show k9 = 19 by omega], rfl⟩
                · skip
                  have c103 : ¬ 19 ≤ k9 := fun h => c103 ((nI_leI (a := 19) (b := k9) (by omega) (by omega)).mpr h)
                  have c103n : k9 < 19 := Nat.not_le.mp c103
                  refine hr_iload_n C dX4_isFilled_106 rfl 3 rfl ?_
                  refine hr_if_eq C 140 dX4_isFilled_107 (by decide) (fun c107 => ?_) (fun c107 => ?_)
                  · skip
                    have c107 := hr_bz.mp c107
                    have c107 : ¬ (md_fb S e9 f9 (k9 - 8) = true) := c107
                    refine hr_iconst (v := 0) C dX4_isFilled_140 (by decide) ?_
                    refine hr_istore_n C [(3, .int 0), (0, .ref (hr_ad E 14 0)), (1, .int (nI e9)), (2, .int f9), (4, .int (nI k9))] dX4_isFilled_141 rfl (by decide) rfl ?_
                    refine hr_iinc (v := nI (k9 + 1)) C [(4, .int (nI (k9 + 1))), (3, .int 0), (0, .ref (hr_ad E 14 0)), (1, .int (nI e9)), (2, .int f9)] dX4_isFilled_142 4 rfl (nI_add k9 1) (by decide) rfl ?_
                    refine hr_goto C 99 dX4_isFilled_145 (by decide) ?_
                    refine hr_sub [2, 3, 4, 1, 0] rfl ?_
                    refine hr_lve (lv2 := [(0, .ref (hr_ad E 14 0)), (1, .int (nI e9)), (2, .int f9), (3, .int (if md_fb S e9 f9 ((k9 + 1) - 8) = true then 1 else 0)), (4, .int (nI (k9 + 1)))]) (by rw [md_fb_s h8, Bool.eq_false_iff.mpr c107]; rfl) ?_
                    refine hr_st (S1 := S) rfl ?_
                    exact ih (k9 + 1)  (by omega) (by omega) (by omega)
                  · skip
                    have c107 := hr_bn.mp c107
                    have c107 : md_fb S e9 f9 (k9 - 8) = true := c107
                    refine hr_aload_n C dX4_isFilled_110 rfl 0 rfl ?_
                    refine hr_get (k := 14) (i := 0) (fld := 19) C (by decide) rfl rfl (by decide) kU_X4 kF_X4_45 rfl rfl dX4_isFilled_111 ?_
                    refine hr_iload_n C dX4_isFilled_114 rfl 1 rfl ?_
                    refine hr_iload C dX4_isFilled_115 4 rfl ?_
                    refine hr_iadd (v := nI (e9 + k9)) C dX4_isFilled_117 (nI_add e9 k9) ?_
                    refine hr_iald (k := 26) (i := 0) (e9 + k9) C (by decide) rfl rfl (show e9 + k9 < 164 by omega) (by decide) dX4_isFilled_118 ?_
                    refine hr_iload C dX4_isFilled_119 4 rfl ?_
                    refine hr_bipush (v := 11) C dX4_isFilled_121 (by decide) ?_
                    refine hr_icmp_ge C 132 dX4_isFilled_123 (by decide) (fun c123 => ?_) (fun c123 => ?_)
                    · skip
                      have c123 : 11 ≤ k9 := (nI_leI (a := 11) (b := k9) (by omega) (by omega)).mp c123
                      have c123n : ¬ k9 < 11 := Nat.not_lt.mpr c123
                      refine hr_iconst (v := 0) C dX4_isFilled_132 (by decide) ?_
                      refine hr_icmp_ne C 140 dX4_isFilled_133 (by decide) (fun c133 => ?_) (fun c133 => ?_)
                      · skip
                        refine hr_iconst (v := 0) C dX4_isFilled_140 (by decide) ?_
                        refine hr_istore_n C [(3, .int 0), (0, .ref (hr_ad E 14 0)), (1, .int (nI e9)), (2, .int f9), (4, .int (nI k9))] dX4_isFilled_141 rfl (by decide) rfl ?_
                        refine hr_iinc (v := nI (k9 + 1)) C [(4, .int (nI (k9 + 1))), (3, .int 0), (0, .ref (hr_ad E 14 0)), (1, .int (nI e9)), (2, .int f9)] dX4_isFilled_142 4 rfl (nI_add k9 1) (by decide) rfl ?_
                        refine hr_goto C 99 dX4_isFilled_145 (by decide) ?_
                        refine hr_sub [2, 3, 4, 1, 0] rfl ?_
                        refine hr_lve (lv2 := [(0, .ref (hr_ad E 14 0)), (1, .int (nI e9)), (2, .int f9), (3, .int (if md_fb S e9 f9 ((k9 + 1) - 8) = true then 1 else 0)), (4, .int (nI (k9 + 1)))]) (by rw [md_fb_s h8, c107, decide_eq_false (fun h => c133 (h.trans (md_fk_hi c123)))]; rfl) ?_
                        refine hr_st (S1 := S) rfl ?_
                        exact ih (k9 + 1)  (by omega) (by omega) (by omega)
                      · skip
                        refine hr_iconst (v := 1) C dX4_isFilled_136 (by decide) ?_
                        refine hr_goto C 141 dX4_isFilled_137 (by decide) ?_
                        refine hr_istore_n C [(3, .int 1), (0, .ref (hr_ad E 14 0)), (1, .int (nI e9)), (2, .int f9), (4, .int (nI k9))] dX4_isFilled_141 rfl (by decide) rfl ?_
                        refine hr_iinc (v := nI (k9 + 1)) C [(4, .int (nI (k9 + 1))), (3, .int 1), (0, .ref (hr_ad E 14 0)), (1, .int (nI e9)), (2, .int f9)] dX4_isFilled_142 4 rfl (nI_add k9 1) (by decide) rfl ?_
                        refine hr_goto C 99 dX4_isFilled_145 (by decide) ?_
                        refine hr_sub [2, 3, 4, 1, 0] rfl ?_
                        refine hr_lve (lv2 := [(0, .ref (hr_ad E 14 0)), (1, .int (nI e9)), (2, .int f9), (3, .int (if md_fb S e9 f9 ((k9 + 1) - 8) = true then 1 else 0)), (4, .int (nI (k9 + 1)))]) (by rw [md_fb_s h8, c107, decide_eq_true (c133.trans (md_fk_hi c123).symm)]; rfl) ?_
                        refine hr_st (S1 := S) rfl ?_
                        exact ih (k9 + 1)  (by omega) (by omega) (by omega)
                    · skip
                      have c123 : ¬ 11 ≤ k9 := fun h => c123 ((nI_leI (a := 11) (b := k9) (by omega) (by omega)).mpr h)
                      have c123n : k9 < 11 := Nat.not_le.mp c123
                      refine hr_sipush (v := 255) C dX4_isFilled_126 (by decide) ?_
                      refine hr_goto C 133 dX4_isFilled_129 (by decide) ?_
                      refine hr_icmp_ne C 140 dX4_isFilled_133 (by decide) (fun c133 => ?_) (fun c133 => ?_)
                      · skip
                        refine hr_iconst (v := 0) C dX4_isFilled_140 (by decide) ?_
                        refine hr_istore_n C [(3, .int 0), (0, .ref (hr_ad E 14 0)), (1, .int (nI e9)), (2, .int f9), (4, .int (nI k9))] dX4_isFilled_141 rfl (by decide) rfl ?_
                        refine hr_iinc (v := nI (k9 + 1)) C [(4, .int (nI (k9 + 1))), (3, .int 0), (0, .ref (hr_ad E 14 0)), (1, .int (nI e9)), (2, .int f9)] dX4_isFilled_142 4 rfl (nI_add k9 1) (by decide) rfl ?_
                        refine hr_goto C 99 dX4_isFilled_145 (by decide) ?_
                        refine hr_sub [2, 3, 4, 1, 0] rfl ?_
                        refine hr_lve (lv2 := [(0, .ref (hr_ad E 14 0)), (1, .int (nI e9)), (2, .int f9), (3, .int (if md_fb S e9 f9 ((k9 + 1) - 8) = true then 1 else 0)), (4, .int (nI (k9 + 1)))]) (by rw [md_fb_s h8, c107, decide_eq_false (fun h => c133 (h.trans (md_fk_lo c123)))]; rfl) ?_
                        refine hr_st (S1 := S) rfl ?_
                        exact ih (k9 + 1)  (by omega) (by omega) (by omega)
                      · skip
                        refine hr_iconst (v := 1) C dX4_isFilled_136 (by decide) ?_
                        refine hr_goto C 141 dX4_isFilled_137 (by decide) ?_
                        refine hr_istore_n C [(3, .int 1), (0, .ref (hr_ad E 14 0)), (1, .int (nI e9)), (2, .int f9), (4, .int (nI k9))] dX4_isFilled_141 rfl (by decide) rfl ?_
                        refine hr_iinc (v := nI (k9 + 1)) C [(4, .int (nI (k9 + 1))), (3, .int 1), (0, .ref (hr_ad E 14 0)), (1, .int (nI e9)), (2, .int f9)] dX4_isFilled_142 4 rfl (nI_add k9 1) (by decide) rfl ?_
                        refine hr_goto C 99 dX4_isFilled_145 (by decide) ?_
                        refine hr_sub [2, 3, 4, 1, 0] rfl ?_
                        refine hr_lve (lv2 := [(0, .ref (hr_ad E 14 0)), (1, .int (nI e9)), (2, .int f9), (3, .int (if md_fb S e9 f9 ((k9 + 1) - 8) = true then 1 else 0)), (4, .int (nI (k9 + 1)))]) (by rw [md_fb_s h8, c107, decide_eq_true (c133.trans (md_fk_lo c123).symm)]; rfl) ?_
                        refine hr_st (S1 := S) rfl ?_
                        exact ih (k9 + 1)  (by omega) (by omega) (by omega)
            refine hr_sub [2, 3, 4, 1, 0] rfl ?_
            refine hr_lve (lv2 := [(0, .ref (hr_ad E 14 0)), (1, .int (nI e9)), (2, .int f9), (3, .int (if md_fb S e9 f9 (8 - 8) = true then 1 else 0)), (4, .int (nI 8))]) (by rw [show md_fb S e9 f9 (8 - 8) = false from md_f00 _ _ _ (fun h => c40 h.1.2.2.2)]; rfl) ?_
            refine hr_st (S1 := S) rfl ?_
            exact LP99 (19 + 1) 8  (by omega) (by omega) (by omega)
          · skip
            exact absurd c50 (by decide)
        · skip
          refine hr_iconst (v := 1) C dX4_isFilled_43 (by decide) ?_
          refine hr_goto C 48 dX4_isFilled_44 (by decide) ?_
          refine hr_istore_n C [(3, .int 1), (0, .ref (hr_ad E 14 0)), (1, .int (nI e9)), (2, .int f9)] dX4_isFilled_48 rfl (by decide) rfl ?_
          refine hr_iload_n C dX4_isFilled_49 rfl 0 rfl ?_
          refine hr_if_eq C 93 dX4_isFilled_50 (by decide) (fun c50 => ?_) (fun c50 => ?_)
          · skip
            exact absurd c50 (by decide)
          · skip
            have c50 : ¬ 1 = 0 := fun h => c50 ((nI_eq (a := 1) (b := 0) (by omega) (by omega)).mpr h)
            refine hr_aload_n C dX4_isFilled_53 rfl 1 rfl ?_
            refine hr_get (k := 14) (i := 0) (fld := 19) C (by decide) rfl rfl (by decide) kU_X4 kF_X4_45 rfl rfl dX4_isFilled_54 ?_
            refine hr_iload_n C dX4_isFilled_57 rfl 2 rfl ?_
            refine hr_iconst (v := 4) C dX4_isFilled_58 (by decide) ?_
            refine hr_iadd (v := nI (e9 + 4)) C dX4_isFilled_59 (nI_add e9 4) ?_
            refine hr_iald (k := 26) (i := 0) (e9 + 4) C (by decide) rfl rfl (show e9 + 4 < 164 by omega) (by decide) dX4_isFilled_60 ?_
            refine hr_bipush (v := 10) C dX4_isFilled_61 (by decide) ?_
            refine hr_icmp_ne C 93 dX4_isFilled_63 (by decide) (fun c63 => ?_) (fun c63 => ?_)
            · skip
              refine hr_iconst (v := 0) C dX4_isFilled_93 (by decide) ?_
              refine hr_istore_n C [(3, .int 0), (0, .ref (hr_ad E 14 0)), (1, .int (nI e9)), (2, .int f9)] dX4_isFilled_94 rfl (by decide) rfl ?_
              refine hr_bipush (v := 8) C dX4_isFilled_95 (by decide) ?_
              refine hr_istore C [(4, .int 8), (3, .int 0), (0, .ref (hr_ad E 14 0)), (1, .int (nI e9)), (2, .int f9)] dX4_isFilled_97 (by decide) rfl ?_
              have LP99 : ∀ (n k9 : Nat) , k9 ≤ 19 → 19 + 1 ≤ k9 + n → 8 ≤ k9 → hr_G p l e ({ frames := 0, cells := 0, slots := 0, locals := 0 } : Room) s m #[.ref (hr_ad E 14 0), .int (nI e9), .int f9] below meth c (MQ below (va_Qi (fun r u => r = (if md_fb S e9 f9 11 = true then 1 else 0) ∧ u = S) (fun u t => hr_P E u o t.heap) (hr_A E)) #[.ref (hr_ad E 14 0), .int (nI e9), .int f9] s 0 0 (hr_A E)) E 5 0 0 S o [(0, .ref (hr_ad E 14 0)), (1, .int (nI e9)), (2, .int f9), (3, .int (if md_fb S e9 f9 (k9 - 8) = true then 1 else 0)), (4, .int (nI k9))] 99 [] := by
                intro n
                induction n with
                | zero => intro k9  h1 h2; omega
                | succ n ih =>
                  intro k9  hv1 hv2 h8
                  refine hr_iload C dX4_isFilled_99 4 rfl ?_
                  refine hr_bipush (v := 19) C dX4_isFilled_101 (by decide) ?_
                  refine hr_icmp_ge C 148 dX4_isFilled_103 (by decide) (fun c103 => ?_) (fun c103 => ?_)
                  · skip
                    have c103 : 19 ≤ k9 := (nI_leI (a := 19) (b := k9) (by omega) (by omega)).mp c103
                    have c103n : ¬ k9 < 19 := Nat.not_lt.mpr c103
                    refine hr_iload_n C dX4_isFilled_148 rfl 3 rfl ?_
                    exact hr_zret C hr (by split <;> rfl) dX4_isFilled_149 ⟨by rw [show k9 = 19 by omega], rfl⟩
                  · skip
                    have c103 : ¬ 19 ≤ k9 := fun h => c103 ((nI_leI (a := 19) (b := k9) (by omega) (by omega)).mpr h)
                    have c103n : k9 < 19 := Nat.not_le.mp c103
                    refine hr_iload_n C dX4_isFilled_106 rfl 3 rfl ?_
                    refine hr_if_eq C 140 dX4_isFilled_107 (by decide) (fun c107 => ?_) (fun c107 => ?_)
                    · skip
                      have c107 := hr_bz.mp c107
                      have c107 : ¬ (md_fb S e9 f9 (k9 - 8) = true) := c107
                      refine hr_iconst (v := 0) C dX4_isFilled_140 (by decide) ?_
                      refine hr_istore_n C [(3, .int 0), (0, .ref (hr_ad E 14 0)), (1, .int (nI e9)), (2, .int f9), (4, .int (nI k9))] dX4_isFilled_141 rfl (by decide) rfl ?_
                      refine hr_iinc (v := nI (k9 + 1)) C [(4, .int (nI (k9 + 1))), (3, .int 0), (0, .ref (hr_ad E 14 0)), (1, .int (nI e9)), (2, .int f9)] dX4_isFilled_142 4 rfl (nI_add k9 1) (by decide) rfl ?_
                      refine hr_goto C 99 dX4_isFilled_145 (by decide) ?_
                      refine hr_sub [2, 3, 4, 1, 0] rfl ?_
                      refine hr_lve (lv2 := [(0, .ref (hr_ad E 14 0)), (1, .int (nI e9)), (2, .int f9), (3, .int (if md_fb S e9 f9 ((k9 + 1) - 8) = true then 1 else 0)), (4, .int (nI (k9 + 1)))]) (by rw [md_fb_s h8, Bool.eq_false_iff.mpr c107]; rfl) ?_
                      refine hr_st (S1 := S) rfl ?_
                      exact ih (k9 + 1)  (by omega) (by omega) (by omega)
                    · skip
                      have c107 := hr_bn.mp c107
                      have c107 : md_fb S e9 f9 (k9 - 8) = true := c107
                      refine hr_aload_n C dX4_isFilled_110 rfl 0 rfl ?_
                      refine hr_get (k := 14) (i := 0) (fld := 19) C (by decide) rfl rfl (by decide) kU_X4 kF_X4_45 rfl rfl dX4_isFilled_111 ?_
                      refine hr_iload_n C dX4_isFilled_114 rfl 1 rfl ?_
                      refine hr_iload C dX4_isFilled_115 4 rfl ?_
                      refine hr_iadd (v := nI (e9 + k9)) C dX4_isFilled_117 (nI_add e9 k9) ?_
                      refine hr_iald (k := 26) (i := 0) (e9 + k9) C (by decide) rfl rfl (show e9 + k9 < 164 by omega) (by decide) dX4_isFilled_118 ?_
                      refine hr_iload C dX4_isFilled_119 4 rfl ?_
                      refine hr_bipush (v := 11) C dX4_isFilled_121 (by decide) ?_
                      refine hr_icmp_ge C 132 dX4_isFilled_123 (by decide) (fun c123 => ?_) (fun c123 => ?_)
                      · skip
                        have c123 : 11 ≤ k9 := (nI_leI (a := 11) (b := k9) (by omega) (by omega)).mp c123
                        have c123n : ¬ k9 < 11 := Nat.not_lt.mpr c123
                        refine hr_iconst (v := 0) C dX4_isFilled_132 (by decide) ?_
                        refine hr_icmp_ne C 140 dX4_isFilled_133 (by decide) (fun c133 => ?_) (fun c133 => ?_)
                        · skip
                          refine hr_iconst (v := 0) C dX4_isFilled_140 (by decide) ?_
                          refine hr_istore_n C [(3, .int 0), (0, .ref (hr_ad E 14 0)), (1, .int (nI e9)), (2, .int f9), (4, .int (nI k9))] dX4_isFilled_141 rfl (by decide) rfl ?_
                          refine hr_iinc (v := nI (k9 + 1)) C [(4, .int (nI (k9 + 1))), (3, .int 0), (0, .ref (hr_ad E 14 0)), (1, .int (nI e9)), (2, .int f9)] dX4_isFilled_142 4 rfl (nI_add k9 1) (by decide) rfl ?_
                          refine hr_goto C 99 dX4_isFilled_145 (by decide) ?_
                          refine hr_sub [2, 3, 4, 1, 0] rfl ?_
                          refine hr_lve (lv2 := [(0, .ref (hr_ad E 14 0)), (1, .int (nI e9)), (2, .int f9), (3, .int (if md_fb S e9 f9 ((k9 + 1) - 8) = true then 1 else 0)), (4, .int (nI (k9 + 1)))]) (by rw [md_fb_s h8, c107, decide_eq_false (fun h => c133 (h.trans (md_fk_hi c123)))]; rfl) ?_
                          refine hr_st (S1 := S) rfl ?_
                          exact ih (k9 + 1)  (by omega) (by omega) (by omega)
                        · skip
                          refine hr_iconst (v := 1) C dX4_isFilled_136 (by decide) ?_
                          refine hr_goto C 141 dX4_isFilled_137 (by decide) ?_
                          refine hr_istore_n C [(3, .int 1), (0, .ref (hr_ad E 14 0)), (1, .int (nI e9)), (2, .int f9), (4, .int (nI k9))] dX4_isFilled_141 rfl (by decide) rfl ?_
                          refine hr_iinc (v := nI (k9 + 1)) C [(4, .int (nI (k9 + 1))), (3, .int 1), (0, .ref (hr_ad E 14 0)), (1, .int (nI e9)), (2, .int f9)] dX4_isFilled_142 4 rfl (nI_add k9 1) (by decide) rfl ?_
                          refine hr_goto C 99 dX4_isFilled_145 (by decide) ?_
                          refine hr_sub [2, 3, 4, 1, 0] rfl ?_
                          refine hr_lve (lv2 := [(0, .ref (hr_ad E 14 0)), (1, .int (nI e9)), (2, .int f9), (3, .int (if md_fb S e9 f9 ((k9 + 1) - 8) = true then 1 else 0)), (4, .int (nI (k9 + 1)))]) (by rw [md_fb_s h8, c107, decide_eq_true (c133.trans (md_fk_hi c123).symm)]; rfl) ?_
                          refine hr_st (S1 := S) rfl ?_
                          exact ih (k9 + 1)  (by omega) (by omega) (by omega)
                      · skip
                        have c123 : ¬ 11 ≤ k9 := fun h => c123 ((nI_leI (a := 11) (b := k9) (by omega) (by omega)).mpr h)
                        have c123n : k9 < 11 := Nat.not_le.mp c123
                        refine hr_sipush (v := 255) C dX4_isFilled_126 (by decide) ?_
                        refine hr_goto C 133 dX4_isFilled_129 (by decide) ?_
                        refine hr_icmp_ne C 140 dX4_isFilled_133 (by decide) (fun c133 => ?_) (fun c133 => ?_)
                        · skip
                          refine hr_iconst (v := 0) C dX4_isFilled_140 (by decide) ?_
                          refine hr_istore_n C [(3, .int 0), (0, .ref (hr_ad E 14 0)), (1, .int (nI e9)), (2, .int f9), (4, .int (nI k9))] dX4_isFilled_141 rfl (by decide) rfl ?_
                          refine hr_iinc (v := nI (k9 + 1)) C [(4, .int (nI (k9 + 1))), (3, .int 0), (0, .ref (hr_ad E 14 0)), (1, .int (nI e9)), (2, .int f9)] dX4_isFilled_142 4 rfl (nI_add k9 1) (by decide) rfl ?_
                          refine hr_goto C 99 dX4_isFilled_145 (by decide) ?_
                          refine hr_sub [2, 3, 4, 1, 0] rfl ?_
                          refine hr_lve (lv2 := [(0, .ref (hr_ad E 14 0)), (1, .int (nI e9)), (2, .int f9), (3, .int (if md_fb S e9 f9 ((k9 + 1) - 8) = true then 1 else 0)), (4, .int (nI (k9 + 1)))]) (by rw [md_fb_s h8, c107, decide_eq_false (fun h => c133 (h.trans (md_fk_lo c123)))]; rfl) ?_
                          refine hr_st (S1 := S) rfl ?_
                          exact ih (k9 + 1)  (by omega) (by omega) (by omega)
                        · skip
                          refine hr_iconst (v := 1) C dX4_isFilled_136 (by decide) ?_
                          refine hr_goto C 141 dX4_isFilled_137 (by decide) ?_
                          refine hr_istore_n C [(3, .int 1), (0, .ref (hr_ad E 14 0)), (1, .int (nI e9)), (2, .int f9), (4, .int (nI k9))] dX4_isFilled_141 rfl (by decide) rfl ?_
                          refine hr_iinc (v := nI (k9 + 1)) C [(4, .int (nI (k9 + 1))), (3, .int 1), (0, .ref (hr_ad E 14 0)), (1, .int (nI e9)), (2, .int f9)] dX4_isFilled_142 4 rfl (nI_add k9 1) (by decide) rfl ?_
                          refine hr_goto C 99 dX4_isFilled_145 (by decide) ?_
                          refine hr_sub [2, 3, 4, 1, 0] rfl ?_
                          refine hr_lve (lv2 := [(0, .ref (hr_ad E 14 0)), (1, .int (nI e9)), (2, .int f9), (3, .int (if md_fb S e9 f9 ((k9 + 1) - 8) = true then 1 else 0)), (4, .int (nI (k9 + 1)))]) (by rw [md_fb_s h8, c107, decide_eq_true (c133.trans (md_fk_lo c123).symm)]; rfl) ?_
                          refine hr_st (S1 := S) rfl ?_
                          exact ih (k9 + 1)  (by omega) (by omega) (by omega)
              refine hr_sub [2, 3, 4, 1, 0] rfl ?_
              refine hr_lve (lv2 := [(0, .ref (hr_ad E 14 0)), (1, .int (nI e9)), (2, .int f9), (3, .int (if md_fb S e9 f9 (8 - 8) = true then 1 else 0)), (4, .int (nI 8))]) (by rw [show md_fb S e9 f9 (8 - 8) = false from md_f00 _ _ _ (fun h => c63 h.2.1)]; rfl) ?_
              refine hr_st (S1 := S) rfl ?_
              exact LP99 (19 + 1) 8  (by omega) (by omega) (by omega)
            · skip
              refine hr_aload_n C dX4_isFilled_66 rfl 1 rfl ?_
              refine hr_get (k := 14) (i := 0) (fld := 19) C (by decide) rfl rfl (by decide) kU_X4 kF_X4_45 rfl rfl dX4_isFilled_67 ?_
              refine hr_iload_n C dX4_isFilled_70 rfl 2 rfl ?_
              refine hr_iconst (v := 5) C dX4_isFilled_71 (by decide) ?_
              refine hr_iadd (v := nI (e9 + 5)) C dX4_isFilled_72 (nI_add e9 5) ?_
              refine hr_iald (k := 26) (i := 0) (e9 + 5) C (by decide) rfl rfl (show e9 + 5 < 164 by omega) (by decide) dX4_isFilled_73 ?_
              refine hr_if_ne C 93 dX4_isFilled_74 (by decide) (fun c74 => ?_) (fun c74 => ?_)
              · skip
                refine hr_iconst (v := 0) C dX4_isFilled_93 (by decide) ?_
                refine hr_istore_n C [(3, .int 0), (0, .ref (hr_ad E 14 0)), (1, .int (nI e9)), (2, .int f9)] dX4_isFilled_94 rfl (by decide) rfl ?_
                refine hr_bipush (v := 8) C dX4_isFilled_95 (by decide) ?_
                refine hr_istore C [(4, .int 8), (3, .int 0), (0, .ref (hr_ad E 14 0)), (1, .int (nI e9)), (2, .int f9)] dX4_isFilled_97 (by decide) rfl ?_
                have LP99 : ∀ (n k9 : Nat) , k9 ≤ 19 → 19 + 1 ≤ k9 + n → 8 ≤ k9 → hr_G p l e ({ frames := 0, cells := 0, slots := 0, locals := 0 } : Room) s m #[.ref (hr_ad E 14 0), .int (nI e9), .int f9] below meth c (MQ below (va_Qi (fun r u => r = (if md_fb S e9 f9 11 = true then 1 else 0) ∧ u = S) (fun u t => hr_P E u o t.heap) (hr_A E)) #[.ref (hr_ad E 14 0), .int (nI e9), .int f9] s 0 0 (hr_A E)) E 5 0 0 S o [(0, .ref (hr_ad E 14 0)), (1, .int (nI e9)), (2, .int f9), (3, .int (if md_fb S e9 f9 (k9 - 8) = true then 1 else 0)), (4, .int (nI k9))] 99 [] := by
                  intro n
                  induction n with
                  | zero => intro k9  h1 h2; omega
                  | succ n ih =>
                    intro k9  hv1 hv2 h8
                    refine hr_iload C dX4_isFilled_99 4 rfl ?_
                    refine hr_bipush (v := 19) C dX4_isFilled_101 (by decide) ?_
                    refine hr_icmp_ge C 148 dX4_isFilled_103 (by decide) (fun c103 => ?_) (fun c103 => ?_)
                    · skip
                      have c103 : 19 ≤ k9 := (nI_leI (a := 19) (b := k9) (by omega) (by omega)).mp c103
                      have c103n : ¬ k9 < 19 := Nat.not_lt.mpr c103
                      refine hr_iload_n C dX4_isFilled_148 rfl 3 rfl ?_
                      exact hr_zret C hr (by split <;> rfl) dX4_isFilled_149 ⟨by rw [show k9 = 19 by omega], rfl⟩
                    · skip
                      have c103 : ¬ 19 ≤ k9 := fun h => c103 ((nI_leI (a := 19) (b := k9) (by omega) (by omega)).mpr h)
                      have c103n : k9 < 19 := Nat.not_le.mp c103
                      refine hr_iload_n C dX4_isFilled_106 rfl 3 rfl ?_
                      refine hr_if_eq C 140 dX4_isFilled_107 (by decide) (fun c107 => ?_) (fun c107 => ?_)
                      · skip
                        have c107 := hr_bz.mp c107
                        have c107 : ¬ (md_fb S e9 f9 (k9 - 8) = true) := c107
                        refine hr_iconst (v := 0) C dX4_isFilled_140 (by decide) ?_
                        refine hr_istore_n C [(3, .int 0), (0, .ref (hr_ad E 14 0)), (1, .int (nI e9)), (2, .int f9), (4, .int (nI k9))] dX4_isFilled_141 rfl (by decide) rfl ?_
                        refine hr_iinc (v := nI (k9 + 1)) C [(4, .int (nI (k9 + 1))), (3, .int 0), (0, .ref (hr_ad E 14 0)), (1, .int (nI e9)), (2, .int f9)] dX4_isFilled_142 4 rfl (nI_add k9 1) (by decide) rfl ?_
                        refine hr_goto C 99 dX4_isFilled_145 (by decide) ?_
                        refine hr_sub [2, 3, 4, 1, 0] rfl ?_
                        refine hr_lve (lv2 := [(0, .ref (hr_ad E 14 0)), (1, .int (nI e9)), (2, .int f9), (3, .int (if md_fb S e9 f9 ((k9 + 1) - 8) = true then 1 else 0)), (4, .int (nI (k9 + 1)))]) (by rw [md_fb_s h8, Bool.eq_false_iff.mpr c107]; rfl) ?_
                        refine hr_st (S1 := S) rfl ?_
                        exact ih (k9 + 1)  (by omega) (by omega) (by omega)
                      · skip
                        have c107 := hr_bn.mp c107
                        have c107 : md_fb S e9 f9 (k9 - 8) = true := c107
                        refine hr_aload_n C dX4_isFilled_110 rfl 0 rfl ?_
                        refine hr_get (k := 14) (i := 0) (fld := 19) C (by decide) rfl rfl (by decide) kU_X4 kF_X4_45 rfl rfl dX4_isFilled_111 ?_
                        refine hr_iload_n C dX4_isFilled_114 rfl 1 rfl ?_
                        refine hr_iload C dX4_isFilled_115 4 rfl ?_
                        refine hr_iadd (v := nI (e9 + k9)) C dX4_isFilled_117 (nI_add e9 k9) ?_
                        refine hr_iald (k := 26) (i := 0) (e9 + k9) C (by decide) rfl rfl (show e9 + k9 < 164 by omega) (by decide) dX4_isFilled_118 ?_
                        refine hr_iload C dX4_isFilled_119 4 rfl ?_
                        refine hr_bipush (v := 11) C dX4_isFilled_121 (by decide) ?_
                        refine hr_icmp_ge C 132 dX4_isFilled_123 (by decide) (fun c123 => ?_) (fun c123 => ?_)
                        · skip
                          have c123 : 11 ≤ k9 := (nI_leI (a := 11) (b := k9) (by omega) (by omega)).mp c123
                          have c123n : ¬ k9 < 11 := Nat.not_lt.mpr c123
                          refine hr_iconst (v := 0) C dX4_isFilled_132 (by decide) ?_
                          refine hr_icmp_ne C 140 dX4_isFilled_133 (by decide) (fun c133 => ?_) (fun c133 => ?_)
                          · skip
                            refine hr_iconst (v := 0) C dX4_isFilled_140 (by decide) ?_
                            refine hr_istore_n C [(3, .int 0), (0, .ref (hr_ad E 14 0)), (1, .int (nI e9)), (2, .int f9), (4, .int (nI k9))] dX4_isFilled_141 rfl (by decide) rfl ?_
                            refine hr_iinc (v := nI (k9 + 1)) C [(4, .int (nI (k9 + 1))), (3, .int 0), (0, .ref (hr_ad E 14 0)), (1, .int (nI e9)), (2, .int f9)] dX4_isFilled_142 4 rfl (nI_add k9 1) (by decide) rfl ?_
                            refine hr_goto C 99 dX4_isFilled_145 (by decide) ?_
                            refine hr_sub [2, 3, 4, 1, 0] rfl ?_
                            refine hr_lve (lv2 := [(0, .ref (hr_ad E 14 0)), (1, .int (nI e9)), (2, .int f9), (3, .int (if md_fb S e9 f9 ((k9 + 1) - 8) = true then 1 else 0)), (4, .int (nI (k9 + 1)))]) (by rw [md_fb_s h8, c107, decide_eq_false (fun h => c133 (h.trans (md_fk_hi c123)))]; rfl) ?_
                            refine hr_st (S1 := S) rfl ?_
                            exact ih (k9 + 1)  (by omega) (by omega) (by omega)
                          · skip
                            refine hr_iconst (v := 1) C dX4_isFilled_136 (by decide) ?_
                            refine hr_goto C 141 dX4_isFilled_137 (by decide) ?_
                            refine hr_istore_n C [(3, .int 1), (0, .ref (hr_ad E 14 0)), (1, .int (nI e9)), (2, .int f9), (4, .int (nI k9))] dX4_isFilled_141 rfl (by decide) rfl ?_
                            refine hr_iinc (v := nI (k9 + 1)) C [(4, .int (nI (k9 + 1))), (3, .int 1), (0, .ref (hr_ad E 14 0)), (1, .int (nI e9)), (2, .int f9)] dX4_isFilled_142 4 rfl (nI_add k9 1) (by decide) rfl ?_
                            refine hr_goto C 99 dX4_isFilled_145 (by decide) ?_
                            refine hr_sub [2, 3, 4, 1, 0] rfl ?_
                            refine hr_lve (lv2 := [(0, .ref (hr_ad E 14 0)), (1, .int (nI e9)), (2, .int f9), (3, .int (if md_fb S e9 f9 ((k9 + 1) - 8) = true then 1 else 0)), (4, .int (nI (k9 + 1)))]) (by rw [md_fb_s h8, c107, decide_eq_true (c133.trans (md_fk_hi c123).symm)]; rfl) ?_
                            refine hr_st (S1 := S) rfl ?_
                            exact ih (k9 + 1)  (by omega) (by omega) (by omega)
                        · skip
                          have c123 : ¬ 11 ≤ k9 := fun h => c123 ((nI_leI (a := 11) (b := k9) (by omega) (by omega)).mpr h)
                          have c123n : k9 < 11 := Nat.not_le.mp c123
                          refine hr_sipush (v := 255) C dX4_isFilled_126 (by decide) ?_
                          refine hr_goto C 133 dX4_isFilled_129 (by decide) ?_
                          refine hr_icmp_ne C 140 dX4_isFilled_133 (by decide) (fun c133 => ?_) (fun c133 => ?_)
                          · skip
                            refine hr_iconst (v := 0) C dX4_isFilled_140 (by decide) ?_
                            refine hr_istore_n C [(3, .int 0), (0, .ref (hr_ad E 14 0)), (1, .int (nI e9)), (2, .int f9), (4, .int (nI k9))] dX4_isFilled_141 rfl (by decide) rfl ?_
                            refine hr_iinc (v := nI (k9 + 1)) C [(4, .int (nI (k9 + 1))), (3, .int 0), (0, .ref (hr_ad E 14 0)), (1, .int (nI e9)), (2, .int f9)] dX4_isFilled_142 4 rfl (nI_add k9 1) (by decide) rfl ?_
                            refine hr_goto C 99 dX4_isFilled_145 (by decide) ?_
                            refine hr_sub [2, 3, 4, 1, 0] rfl ?_
                            refine hr_lve (lv2 := [(0, .ref (hr_ad E 14 0)), (1, .int (nI e9)), (2, .int f9), (3, .int (if md_fb S e9 f9 ((k9 + 1) - 8) = true then 1 else 0)), (4, .int (nI (k9 + 1)))]) (by rw [md_fb_s h8, c107, decide_eq_false (fun h => c133 (h.trans (md_fk_lo c123)))]; rfl) ?_
                            refine hr_st (S1 := S) rfl ?_
                            exact ih (k9 + 1)  (by omega) (by omega) (by omega)
                          · skip
                            refine hr_iconst (v := 1) C dX4_isFilled_136 (by decide) ?_
                            refine hr_goto C 141 dX4_isFilled_137 (by decide) ?_
                            refine hr_istore_n C [(3, .int 1), (0, .ref (hr_ad E 14 0)), (1, .int (nI e9)), (2, .int f9), (4, .int (nI k9))] dX4_isFilled_141 rfl (by decide) rfl ?_
                            refine hr_iinc (v := nI (k9 + 1)) C [(4, .int (nI (k9 + 1))), (3, .int 1), (0, .ref (hr_ad E 14 0)), (1, .int (nI e9)), (2, .int f9)] dX4_isFilled_142 4 rfl (nI_add k9 1) (by decide) rfl ?_
                            refine hr_goto C 99 dX4_isFilled_145 (by decide) ?_
                            refine hr_sub [2, 3, 4, 1, 0] rfl ?_
                            refine hr_lve (lv2 := [(0, .ref (hr_ad E 14 0)), (1, .int (nI e9)), (2, .int f9), (3, .int (if md_fb S e9 f9 ((k9 + 1) - 8) = true then 1 else 0)), (4, .int (nI (k9 + 1)))]) (by rw [md_fb_s h8, c107, decide_eq_true (c133.trans (md_fk_lo c123).symm)]; rfl) ?_
                            refine hr_st (S1 := S) rfl ?_
                            exact ih (k9 + 1)  (by omega) (by omega) (by omega)
                refine hr_sub [2, 3, 4, 1, 0] rfl ?_
                refine hr_lve (lv2 := [(0, .ref (hr_ad E 14 0)), (1, .int (nI e9)), (2, .int f9), (3, .int (if md_fb S e9 f9 (8 - 8) = true then 1 else 0)), (4, .int (nI 8))]) (by rw [show md_fb S e9 f9 (8 - 8) = false from md_f00 _ _ _ (fun h => c74 h.2.2.1)]; rfl) ?_
                refine hr_st (S1 := S) rfl ?_
                exact LP99 (19 + 1) 8  (by omega) (by omega) (by omega)
              · skip
                refine hr_aload_n C dX4_isFilled_77 rfl 1 rfl ?_
                refine hr_get (k := 14) (i := 0) (fld := 19) C (by decide) rfl rfl (by decide) kU_X4 kF_X4_45 rfl rfl dX4_isFilled_78 ?_
                refine hr_iload_n C dX4_isFilled_81 rfl 2 rfl ?_
                refine hr_bipush (v := 7) C dX4_isFilled_82 (by decide) ?_
                refine hr_iadd (v := nI (e9 + 7)) C dX4_isFilled_84 (nI_add e9 7) ?_
                refine hr_iald (k := 26) (i := 0) (e9 + 7) C (by decide) rfl rfl (show e9 + 7 < 164 by omega) (by decide) dX4_isFilled_85 ?_
                refine hr_if_ne C 93 dX4_isFilled_86 (by decide) (fun c86 => ?_) (fun c86 => ?_)
                · skip
                  refine hr_iconst (v := 0) C dX4_isFilled_93 (by decide) ?_
                  refine hr_istore_n C [(3, .int 0), (0, .ref (hr_ad E 14 0)), (1, .int (nI e9)), (2, .int f9)] dX4_isFilled_94 rfl (by decide) rfl ?_
                  refine hr_bipush (v := 8) C dX4_isFilled_95 (by decide) ?_
                  refine hr_istore C [(4, .int 8), (3, .int 0), (0, .ref (hr_ad E 14 0)), (1, .int (nI e9)), (2, .int f9)] dX4_isFilled_97 (by decide) rfl ?_
                  have LP99 : ∀ (n k9 : Nat) , k9 ≤ 19 → 19 + 1 ≤ k9 + n → 8 ≤ k9 → hr_G p l e ({ frames := 0, cells := 0, slots := 0, locals := 0 } : Room) s m #[.ref (hr_ad E 14 0), .int (nI e9), .int f9] below meth c (MQ below (va_Qi (fun r u => r = (if md_fb S e9 f9 11 = true then 1 else 0) ∧ u = S) (fun u t => hr_P E u o t.heap) (hr_A E)) #[.ref (hr_ad E 14 0), .int (nI e9), .int f9] s 0 0 (hr_A E)) E 5 0 0 S o [(0, .ref (hr_ad E 14 0)), (1, .int (nI e9)), (2, .int f9), (3, .int (if md_fb S e9 f9 (k9 - 8) = true then 1 else 0)), (4, .int (nI k9))] 99 [] := by
                    intro n
                    induction n with
                    | zero => intro k9  h1 h2; omega
                    | succ n ih =>
                      intro k9  hv1 hv2 h8
                      refine hr_iload C dX4_isFilled_99 4 rfl ?_
                      refine hr_bipush (v := 19) C dX4_isFilled_101 (by decide) ?_
                      refine hr_icmp_ge C 148 dX4_isFilled_103 (by decide) (fun c103 => ?_) (fun c103 => ?_)
                      · skip
                        have c103 : 19 ≤ k9 := (nI_leI (a := 19) (b := k9) (by omega) (by omega)).mp c103
                        have c103n : ¬ k9 < 19 := Nat.not_lt.mpr c103
                        refine hr_iload_n C dX4_isFilled_148 rfl 3 rfl ?_
                        exact hr_zret C hr (by split <;> rfl) dX4_isFilled_149 ⟨by rw [show k9 = 19 by omega], rfl⟩
                      · skip
                        have c103 : ¬ 19 ≤ k9 := fun h => c103 ((nI_leI (a := 19) (b := k9) (by omega) (by omega)).mpr h)
                        have c103n : k9 < 19 := Nat.not_le.mp c103
                        refine hr_iload_n C dX4_isFilled_106 rfl 3 rfl ?_
                        refine hr_if_eq C 140 dX4_isFilled_107 (by decide) (fun c107 => ?_) (fun c107 => ?_)
                        · skip
                          have c107 := hr_bz.mp c107
                          have c107 : ¬ (md_fb S e9 f9 (k9 - 8) = true) := c107
                          refine hr_iconst (v := 0) C dX4_isFilled_140 (by decide) ?_
                          refine hr_istore_n C [(3, .int 0), (0, .ref (hr_ad E 14 0)), (1, .int (nI e9)), (2, .int f9), (4, .int (nI k9))] dX4_isFilled_141 rfl (by decide) rfl ?_
                          refine hr_iinc (v := nI (k9 + 1)) C [(4, .int (nI (k9 + 1))), (3, .int 0), (0, .ref (hr_ad E 14 0)), (1, .int (nI e9)), (2, .int f9)] dX4_isFilled_142 4 rfl (nI_add k9 1) (by decide) rfl ?_
                          refine hr_goto C 99 dX4_isFilled_145 (by decide) ?_
                          refine hr_sub [2, 3, 4, 1, 0] rfl ?_
                          refine hr_lve (lv2 := [(0, .ref (hr_ad E 14 0)), (1, .int (nI e9)), (2, .int f9), (3, .int (if md_fb S e9 f9 ((k9 + 1) - 8) = true then 1 else 0)), (4, .int (nI (k9 + 1)))]) (by rw [md_fb_s h8, Bool.eq_false_iff.mpr c107]; rfl) ?_
                          refine hr_st (S1 := S) rfl ?_
                          exact ih (k9 + 1)  (by omega) (by omega) (by omega)
                        · skip
                          have c107 := hr_bn.mp c107
                          have c107 : md_fb S e9 f9 (k9 - 8) = true := c107
                          refine hr_aload_n C dX4_isFilled_110 rfl 0 rfl ?_
                          refine hr_get (k := 14) (i := 0) (fld := 19) C (by decide) rfl rfl (by decide) kU_X4 kF_X4_45 rfl rfl dX4_isFilled_111 ?_
                          refine hr_iload_n C dX4_isFilled_114 rfl 1 rfl ?_
                          refine hr_iload C dX4_isFilled_115 4 rfl ?_
                          refine hr_iadd (v := nI (e9 + k9)) C dX4_isFilled_117 (nI_add e9 k9) ?_
                          refine hr_iald (k := 26) (i := 0) (e9 + k9) C (by decide) rfl rfl (show e9 + k9 < 164 by omega) (by decide) dX4_isFilled_118 ?_
                          refine hr_iload C dX4_isFilled_119 4 rfl ?_
                          refine hr_bipush (v := 11) C dX4_isFilled_121 (by decide) ?_
                          refine hr_icmp_ge C 132 dX4_isFilled_123 (by decide) (fun c123 => ?_) (fun c123 => ?_)
                          · skip
                            have c123 : 11 ≤ k9 := (nI_leI (a := 11) (b := k9) (by omega) (by omega)).mp c123
                            have c123n : ¬ k9 < 11 := Nat.not_lt.mpr c123
                            refine hr_iconst (v := 0) C dX4_isFilled_132 (by decide) ?_
                            refine hr_icmp_ne C 140 dX4_isFilled_133 (by decide) (fun c133 => ?_) (fun c133 => ?_)
                            · skip
                              refine hr_iconst (v := 0) C dX4_isFilled_140 (by decide) ?_
                              refine hr_istore_n C [(3, .int 0), (0, .ref (hr_ad E 14 0)), (1, .int (nI e9)), (2, .int f9), (4, .int (nI k9))] dX4_isFilled_141 rfl (by decide) rfl ?_
                              refine hr_iinc (v := nI (k9 + 1)) C [(4, .int (nI (k9 + 1))), (3, .int 0), (0, .ref (hr_ad E 14 0)), (1, .int (nI e9)), (2, .int f9)] dX4_isFilled_142 4 rfl (nI_add k9 1) (by decide) rfl ?_
                              refine hr_goto C 99 dX4_isFilled_145 (by decide) ?_
                              refine hr_sub [2, 3, 4, 1, 0] rfl ?_
                              refine hr_lve (lv2 := [(0, .ref (hr_ad E 14 0)), (1, .int (nI e9)), (2, .int f9), (3, .int (if md_fb S e9 f9 ((k9 + 1) - 8) = true then 1 else 0)), (4, .int (nI (k9 + 1)))]) (by rw [md_fb_s h8, c107, decide_eq_false (fun h => c133 (h.trans (md_fk_hi c123)))]; rfl) ?_
                              refine hr_st (S1 := S) rfl ?_
                              exact ih (k9 + 1)  (by omega) (by omega) (by omega)
                            · skip
                              refine hr_iconst (v := 1) C dX4_isFilled_136 (by decide) ?_
                              refine hr_goto C 141 dX4_isFilled_137 (by decide) ?_
                              refine hr_istore_n C [(3, .int 1), (0, .ref (hr_ad E 14 0)), (1, .int (nI e9)), (2, .int f9), (4, .int (nI k9))] dX4_isFilled_141 rfl (by decide) rfl ?_
                              refine hr_iinc (v := nI (k9 + 1)) C [(4, .int (nI (k9 + 1))), (3, .int 1), (0, .ref (hr_ad E 14 0)), (1, .int (nI e9)), (2, .int f9)] dX4_isFilled_142 4 rfl (nI_add k9 1) (by decide) rfl ?_
                              refine hr_goto C 99 dX4_isFilled_145 (by decide) ?_
                              refine hr_sub [2, 3, 4, 1, 0] rfl ?_
                              refine hr_lve (lv2 := [(0, .ref (hr_ad E 14 0)), (1, .int (nI e9)), (2, .int f9), (3, .int (if md_fb S e9 f9 ((k9 + 1) - 8) = true then 1 else 0)), (4, .int (nI (k9 + 1)))]) (by rw [md_fb_s h8, c107, decide_eq_true (c133.trans (md_fk_hi c123).symm)]; rfl) ?_
                              refine hr_st (S1 := S) rfl ?_
                              exact ih (k9 + 1)  (by omega) (by omega) (by omega)
                          · skip
                            have c123 : ¬ 11 ≤ k9 := fun h => c123 ((nI_leI (a := 11) (b := k9) (by omega) (by omega)).mpr h)
                            have c123n : k9 < 11 := Nat.not_le.mp c123
                            refine hr_sipush (v := 255) C dX4_isFilled_126 (by decide) ?_
                            refine hr_goto C 133 dX4_isFilled_129 (by decide) ?_
                            refine hr_icmp_ne C 140 dX4_isFilled_133 (by decide) (fun c133 => ?_) (fun c133 => ?_)
                            · skip
                              refine hr_iconst (v := 0) C dX4_isFilled_140 (by decide) ?_
                              refine hr_istore_n C [(3, .int 0), (0, .ref (hr_ad E 14 0)), (1, .int (nI e9)), (2, .int f9), (4, .int (nI k9))] dX4_isFilled_141 rfl (by decide) rfl ?_
                              refine hr_iinc (v := nI (k9 + 1)) C [(4, .int (nI (k9 + 1))), (3, .int 0), (0, .ref (hr_ad E 14 0)), (1, .int (nI e9)), (2, .int f9)] dX4_isFilled_142 4 rfl (nI_add k9 1) (by decide) rfl ?_
                              refine hr_goto C 99 dX4_isFilled_145 (by decide) ?_
                              refine hr_sub [2, 3, 4, 1, 0] rfl ?_
                              refine hr_lve (lv2 := [(0, .ref (hr_ad E 14 0)), (1, .int (nI e9)), (2, .int f9), (3, .int (if md_fb S e9 f9 ((k9 + 1) - 8) = true then 1 else 0)), (4, .int (nI (k9 + 1)))]) (by rw [md_fb_s h8, c107, decide_eq_false (fun h => c133 (h.trans (md_fk_lo c123)))]; rfl) ?_
                              refine hr_st (S1 := S) rfl ?_
                              exact ih (k9 + 1)  (by omega) (by omega) (by omega)
                            · skip
                              refine hr_iconst (v := 1) C dX4_isFilled_136 (by decide) ?_
                              refine hr_goto C 141 dX4_isFilled_137 (by decide) ?_
                              refine hr_istore_n C [(3, .int 1), (0, .ref (hr_ad E 14 0)), (1, .int (nI e9)), (2, .int f9), (4, .int (nI k9))] dX4_isFilled_141 rfl (by decide) rfl ?_
                              refine hr_iinc (v := nI (k9 + 1)) C [(4, .int (nI (k9 + 1))), (3, .int 1), (0, .ref (hr_ad E 14 0)), (1, .int (nI e9)), (2, .int f9)] dX4_isFilled_142 4 rfl (nI_add k9 1) (by decide) rfl ?_
                              refine hr_goto C 99 dX4_isFilled_145 (by decide) ?_
                              refine hr_sub [2, 3, 4, 1, 0] rfl ?_
                              refine hr_lve (lv2 := [(0, .ref (hr_ad E 14 0)), (1, .int (nI e9)), (2, .int f9), (3, .int (if md_fb S e9 f9 ((k9 + 1) - 8) = true then 1 else 0)), (4, .int (nI (k9 + 1)))]) (by rw [md_fb_s h8, c107, decide_eq_true (c133.trans (md_fk_lo c123).symm)]; rfl) ?_
                              refine hr_st (S1 := S) rfl ?_
                              exact ih (k9 + 1)  (by omega) (by omega) (by omega)
                  refine hr_sub [2, 3, 4, 1, 0] rfl ?_
                  refine hr_lve (lv2 := [(0, .ref (hr_ad E 14 0)), (1, .int (nI e9)), (2, .int f9), (3, .int (if md_fb S e9 f9 (8 - 8) = true then 1 else 0)), (4, .int (nI 8))]) (by rw [show md_fb S e9 f9 (8 - 8) = false from md_f00 _ _ _ (fun h => c86 h.2.2.2)]; rfl) ?_
                  refine hr_st (S1 := S) rfl ?_
                  exact LP99 (19 + 1) 8  (by omega) (by omega) (by omega)
                · skip
                  refine hr_iconst (v := 1) C dX4_isFilled_89 (by decide) ?_
                  refine hr_goto C 94 dX4_isFilled_90 (by decide) ?_
                  refine hr_istore_n C [(3, .int 1), (0, .ref (hr_ad E 14 0)), (1, .int (nI e9)), (2, .int f9)] dX4_isFilled_94 rfl (by decide) rfl ?_
                  refine hr_bipush (v := 8) C dX4_isFilled_95 (by decide) ?_
                  refine hr_istore C [(4, .int 8), (3, .int 1), (0, .ref (hr_ad E 14 0)), (1, .int (nI e9)), (2, .int f9)] dX4_isFilled_97 (by decide) rfl ?_
                  have LP99 : ∀ (n k9 : Nat) , k9 ≤ 19 → 19 + 1 ≤ k9 + n → 8 ≤ k9 → hr_G p l e ({ frames := 0, cells := 0, slots := 0, locals := 0 } : Room) s m #[.ref (hr_ad E 14 0), .int (nI e9), .int f9] below meth c (MQ below (va_Qi (fun r u => r = (if md_fb S e9 f9 11 = true then 1 else 0) ∧ u = S) (fun u t => hr_P E u o t.heap) (hr_A E)) #[.ref (hr_ad E 14 0), .int (nI e9), .int f9] s 0 0 (hr_A E)) E 5 0 0 S o [(0, .ref (hr_ad E 14 0)), (1, .int (nI e9)), (2, .int f9), (3, .int (if md_fb S e9 f9 (k9 - 8) = true then 1 else 0)), (4, .int (nI k9))] 99 [] := by
                    intro n
                    induction n with
                    | zero => intro k9  h1 h2; omega
                    | succ n ih =>
                      intro k9  hv1 hv2 h8
                      refine hr_iload C dX4_isFilled_99 4 rfl ?_
                      refine hr_bipush (v := 19) C dX4_isFilled_101 (by decide) ?_
                      refine hr_icmp_ge C 148 dX4_isFilled_103 (by decide) (fun c103 => ?_) (fun c103 => ?_)
                      · skip
                        have c103 : 19 ≤ k9 := (nI_leI (a := 19) (b := k9) (by omega) (by omega)).mp c103
                        have c103n : ¬ k9 < 19 := Nat.not_lt.mpr c103
                        refine hr_iload_n C dX4_isFilled_148 rfl 3 rfl ?_
                        exact hr_zret C hr (by split <;> rfl) dX4_isFilled_149 ⟨by rw [show k9 = 19 by omega], rfl⟩
                      · skip
                        have c103 : ¬ 19 ≤ k9 := fun h => c103 ((nI_leI (a := 19) (b := k9) (by omega) (by omega)).mpr h)
                        have c103n : k9 < 19 := Nat.not_le.mp c103
                        refine hr_iload_n C dX4_isFilled_106 rfl 3 rfl ?_
                        refine hr_if_eq C 140 dX4_isFilled_107 (by decide) (fun c107 => ?_) (fun c107 => ?_)
                        · skip
                          have c107 := hr_bz.mp c107
                          have c107 : ¬ (md_fb S e9 f9 (k9 - 8) = true) := c107
                          refine hr_iconst (v := 0) C dX4_isFilled_140 (by decide) ?_
                          refine hr_istore_n C [(3, .int 0), (0, .ref (hr_ad E 14 0)), (1, .int (nI e9)), (2, .int f9), (4, .int (nI k9))] dX4_isFilled_141 rfl (by decide) rfl ?_
                          refine hr_iinc (v := nI (k9 + 1)) C [(4, .int (nI (k9 + 1))), (3, .int 0), (0, .ref (hr_ad E 14 0)), (1, .int (nI e9)), (2, .int f9)] dX4_isFilled_142 4 rfl (nI_add k9 1) (by decide) rfl ?_
                          refine hr_goto C 99 dX4_isFilled_145 (by decide) ?_
                          refine hr_sub [2, 3, 4, 1, 0] rfl ?_
                          refine hr_lve (lv2 := [(0, .ref (hr_ad E 14 0)), (1, .int (nI e9)), (2, .int f9), (3, .int (if md_fb S e9 f9 ((k9 + 1) - 8) = true then 1 else 0)), (4, .int (nI (k9 + 1)))]) (by rw [md_fb_s h8, Bool.eq_false_iff.mpr c107]; rfl) ?_
                          refine hr_st (S1 := S) rfl ?_
                          exact ih (k9 + 1)  (by omega) (by omega) (by omega)
                        · skip
                          have c107 := hr_bn.mp c107
                          have c107 : md_fb S e9 f9 (k9 - 8) = true := c107
                          refine hr_aload_n C dX4_isFilled_110 rfl 0 rfl ?_
                          refine hr_get (k := 14) (i := 0) (fld := 19) C (by decide) rfl rfl (by decide) kU_X4 kF_X4_45 rfl rfl dX4_isFilled_111 ?_
                          refine hr_iload_n C dX4_isFilled_114 rfl 1 rfl ?_
                          refine hr_iload C dX4_isFilled_115 4 rfl ?_
                          refine hr_iadd (v := nI (e9 + k9)) C dX4_isFilled_117 (nI_add e9 k9) ?_
                          refine hr_iald (k := 26) (i := 0) (e9 + k9) C (by decide) rfl rfl (show e9 + k9 < 164 by omega) (by decide) dX4_isFilled_118 ?_
                          refine hr_iload C dX4_isFilled_119 4 rfl ?_
                          refine hr_bipush (v := 11) C dX4_isFilled_121 (by decide) ?_
                          refine hr_icmp_ge C 132 dX4_isFilled_123 (by decide) (fun c123 => ?_) (fun c123 => ?_)
                          · skip
                            have c123 : 11 ≤ k9 := (nI_leI (a := 11) (b := k9) (by omega) (by omega)).mp c123
                            have c123n : ¬ k9 < 11 := Nat.not_lt.mpr c123
                            refine hr_iconst (v := 0) C dX4_isFilled_132 (by decide) ?_
                            refine hr_icmp_ne C 140 dX4_isFilled_133 (by decide) (fun c133 => ?_) (fun c133 => ?_)
                            · skip
                              refine hr_iconst (v := 0) C dX4_isFilled_140 (by decide) ?_
                              refine hr_istore_n C [(3, .int 0), (0, .ref (hr_ad E 14 0)), (1, .int (nI e9)), (2, .int f9), (4, .int (nI k9))] dX4_isFilled_141 rfl (by decide) rfl ?_
                              refine hr_iinc (v := nI (k9 + 1)) C [(4, .int (nI (k9 + 1))), (3, .int 0), (0, .ref (hr_ad E 14 0)), (1, .int (nI e9)), (2, .int f9)] dX4_isFilled_142 4 rfl (nI_add k9 1) (by decide) rfl ?_
                              refine hr_goto C 99 dX4_isFilled_145 (by decide) ?_
                              refine hr_sub [2, 3, 4, 1, 0] rfl ?_
                              refine hr_lve (lv2 := [(0, .ref (hr_ad E 14 0)), (1, .int (nI e9)), (2, .int f9), (3, .int (if md_fb S e9 f9 ((k9 + 1) - 8) = true then 1 else 0)), (4, .int (nI (k9 + 1)))]) (by rw [md_fb_s h8, c107, decide_eq_false (fun h => c133 (h.trans (md_fk_hi c123)))]; rfl) ?_
                              refine hr_st (S1 := S) rfl ?_
                              exact ih (k9 + 1)  (by omega) (by omega) (by omega)
                            · skip
                              refine hr_iconst (v := 1) C dX4_isFilled_136 (by decide) ?_
                              refine hr_goto C 141 dX4_isFilled_137 (by decide) ?_
                              refine hr_istore_n C [(3, .int 1), (0, .ref (hr_ad E 14 0)), (1, .int (nI e9)), (2, .int f9), (4, .int (nI k9))] dX4_isFilled_141 rfl (by decide) rfl ?_
                              refine hr_iinc (v := nI (k9 + 1)) C [(4, .int (nI (k9 + 1))), (3, .int 1), (0, .ref (hr_ad E 14 0)), (1, .int (nI e9)), (2, .int f9)] dX4_isFilled_142 4 rfl (nI_add k9 1) (by decide) rfl ?_
                              refine hr_goto C 99 dX4_isFilled_145 (by decide) ?_
                              refine hr_sub [2, 3, 4, 1, 0] rfl ?_
                              refine hr_lve (lv2 := [(0, .ref (hr_ad E 14 0)), (1, .int (nI e9)), (2, .int f9), (3, .int (if md_fb S e9 f9 ((k9 + 1) - 8) = true then 1 else 0)), (4, .int (nI (k9 + 1)))]) (by rw [md_fb_s h8, c107, decide_eq_true (c133.trans (md_fk_hi c123).symm)]; rfl) ?_
                              refine hr_st (S1 := S) rfl ?_
                              exact ih (k9 + 1)  (by omega) (by omega) (by omega)
                          · skip
                            have c123 : ¬ 11 ≤ k9 := fun h => c123 ((nI_leI (a := 11) (b := k9) (by omega) (by omega)).mpr h)
                            have c123n : k9 < 11 := Nat.not_le.mp c123
                            refine hr_sipush (v := 255) C dX4_isFilled_126 (by decide) ?_
                            refine hr_goto C 133 dX4_isFilled_129 (by decide) ?_
                            refine hr_icmp_ne C 140 dX4_isFilled_133 (by decide) (fun c133 => ?_) (fun c133 => ?_)
                            · skip
                              refine hr_iconst (v := 0) C dX4_isFilled_140 (by decide) ?_
                              refine hr_istore_n C [(3, .int 0), (0, .ref (hr_ad E 14 0)), (1, .int (nI e9)), (2, .int f9), (4, .int (nI k9))] dX4_isFilled_141 rfl (by decide) rfl ?_
                              refine hr_iinc (v := nI (k9 + 1)) C [(4, .int (nI (k9 + 1))), (3, .int 0), (0, .ref (hr_ad E 14 0)), (1, .int (nI e9)), (2, .int f9)] dX4_isFilled_142 4 rfl (nI_add k9 1) (by decide) rfl ?_
                              refine hr_goto C 99 dX4_isFilled_145 (by decide) ?_
                              refine hr_sub [2, 3, 4, 1, 0] rfl ?_
                              refine hr_lve (lv2 := [(0, .ref (hr_ad E 14 0)), (1, .int (nI e9)), (2, .int f9), (3, .int (if md_fb S e9 f9 ((k9 + 1) - 8) = true then 1 else 0)), (4, .int (nI (k9 + 1)))]) (by rw [md_fb_s h8, c107, decide_eq_false (fun h => c133 (h.trans (md_fk_lo c123)))]; rfl) ?_
                              refine hr_st (S1 := S) rfl ?_
                              exact ih (k9 + 1)  (by omega) (by omega) (by omega)
                            · skip
                              refine hr_iconst (v := 1) C dX4_isFilled_136 (by decide) ?_
                              refine hr_goto C 141 dX4_isFilled_137 (by decide) ?_
                              refine hr_istore_n C [(3, .int 1), (0, .ref (hr_ad E 14 0)), (1, .int (nI e9)), (2, .int f9), (4, .int (nI k9))] dX4_isFilled_141 rfl (by decide) rfl ?_
                              refine hr_iinc (v := nI (k9 + 1)) C [(4, .int (nI (k9 + 1))), (3, .int 1), (0, .ref (hr_ad E 14 0)), (1, .int (nI e9)), (2, .int f9)] dX4_isFilled_142 4 rfl (nI_add k9 1) (by decide) rfl ?_
                              refine hr_goto C 99 dX4_isFilled_145 (by decide) ?_
                              refine hr_sub [2, 3, 4, 1, 0] rfl ?_
                              refine hr_lve (lv2 := [(0, .ref (hr_ad E 14 0)), (1, .int (nI e9)), (2, .int f9), (3, .int (if md_fb S e9 f9 ((k9 + 1) - 8) = true then 1 else 0)), (4, .int (nI (k9 + 1)))]) (by rw [md_fb_s h8, c107, decide_eq_true (c133.trans (md_fk_lo c123).symm)]; rfl) ?_
                              refine hr_st (S1 := S) rfl ?_
                              exact ih (k9 + 1)  (by omega) (by omega) (by omega)
                  refine hr_sub [2, 3, 4, 1, 0] rfl ?_
                  refine hr_lve (lv2 := [(0, .ref (hr_ad E 14 0)), (1, .int (nI e9)), (2, .int f9), (3, .int (if md_fb S e9 f9 (8 - 8) = true then 1 else 0)), (4, .int (nI 8))]) (by rw [show md_fb S e9 f9 (8 - 8) = true from md_f01 _ _ _ ⟨⟨c6, c18, c29, c40⟩, c63, c74, c86⟩]; rfl) ?_
                  refine hr_st (S1 := S) rfl ?_
                  exact LP99 (19 + 1) 8  (by omega) (by omega) (by omega)
set_option maxHeartbeats 4000000 in
set_option maxRecDepth 100000 in
theorem ct_X4_isSound (l : Launch) (E : hr_E) (S : hr_S) (o : Int64) (e9 : Nat) (he : e9 + 20 ≤ 164) : hr_Mi l E yX4_isSound (Cond.code yX4_isSound cX4_isSound 2 (some .boolean) :: hr_W) ({ frames := 1, cells := 0, slots := 0, locals := 24 } : Room) [.ref (hr_ad E 14 0), .int (nI e9)] S o (fun r u => r = (if md_fb S e9 2 11 = true ∧ (0 ≤ S 26 0 (e9 + 6) ∧ S 26 0 (e9 + 6) ≤ 7) ∧ (1 ≤ S 26 0 (e9 + 19) ∧ S 26 0 (e9 + 19) ≤ 16) then 1 else 0) ∧ u = S) := by
  refine hr_of (by decide) (Nat.le_of_ble_eq_true rfl) (fun p e s m below meth c C hr => ?_)
  refine hr_aload_n C dX4_isSound_0 rfl 0 rfl ?_
  refine hr_iload_n C dX4_isSound_1 rfl 1 rfl ?_
  refine hr_iconst (v := 2) C dX4_isSound_2 (by decide) ?_
  refine hr_cVi C (ct_X4_isFilled l E S o e9 (by omega) 2) (cwV 2 C.1.2.2.2.2 (hr_gV kM_X4_83 kI_X4_isFilled kS_X4_isFilled kN_X4 kC_X4_isFilled) rfl rfl rfl (by decide +kernel) ⟨Nat.le_of_ble_eq_true rfl, Nat.le_of_ble_eq_true rfl⟩) (by decide) rfl rfl rfl (Nat.le_of_ble_eq_true rfl) dX4_isSound_3 ⟨Nat.le_of_ble_eq_true rfl, Nat.le_of_ble_eq_true rfl⟩ (fun r1 S2 h3 => ?_) rfl
  refine hr_tp h3.1 ?_
  refine hr_st (S1 := S) h3.2 ?_
  refine hr_if_eq C 49 dX4_isSound_6 (by decide) (fun c6 => ?_) (fun c6 => ?_)
  · skip
    have c6 := hr_bz.mp c6
    have c6 : ¬ (md_fb S e9 2 11 = true) := c6
    refine hr_iconst (v := 0) C dX4_isSound_49 (by decide) ?_
    exact hr_zret C hr rfl dX4_isSound_50 ⟨by rw [if_neg (fun h => c6 h.1)], rfl⟩
  · skip
    have c6 := hr_bn.mp c6
    have c6 : md_fb S e9 2 11 = true := c6
    refine hr_aload_n C dX4_isSound_9 rfl 0 rfl ?_
    refine hr_get (k := 14) (i := 0) (fld := 19) C (by decide) rfl rfl (by decide) kU_X4 kF_X4_45 rfl rfl dX4_isSound_10 ?_
    refine hr_iload_n C dX4_isSound_13 rfl 1 rfl ?_
    refine hr_bipush (v := 6) C dX4_isSound_14 (by decide) ?_
    refine hr_iadd (v := nI (e9 + 6)) C dX4_isSound_16 (nI_add e9 6) ?_
    refine hr_iald (k := 26) (i := 0) (e9 + 6) C (by decide) rfl rfl (show e9 + 6 < 164 by omega) (by decide) dX4_isSound_17 ?_
    refine hr_iconst (v := 0) C dX4_isSound_18 (by decide) ?_
    refine hr_bipush (v := 7) C dX4_isSound_19 (by decide) ?_
    refine hr_cSi C (ct_X4_in l E S o (S 26 0 (e9 + 6)) 0 7) (cwS 3 C.1.2.2.2.2 (hr_gS kM_X4_52 kT_X4_in kN_X4 kC_X4_in) rfl rfl rfl (by decide +kernel) ⟨Nat.le_of_ble_eq_true rfl, Nat.le_of_ble_eq_true rfl⟩) rfl (Nat.le_of_ble_eq_true rfl) dX4_isSound_21 ⟨Nat.le_of_ble_eq_true rfl, Nat.le_of_ble_eq_true rfl⟩ (fun r4 S5 h6 => ?_) rfl
    refine hr_tp h6.1 ?_
    refine hr_st (S1 := S) h6.2 ?_
    refine hr_if_eq C 49 dX4_isSound_24 (by decide) (fun c24 => ?_) (fun c24 => ?_)
    · skip
      have c24 := hr_bz.mp c24
      have c24 : ¬ (0 ≤ (S 26 0 (e9 + 6)) ∧ (S 26 0 (e9 + 6)) ≤ 7) := c24
      refine hr_iconst (v := 0) C dX4_isSound_49 (by decide) ?_
      exact hr_zret C hr rfl dX4_isSound_50 ⟨by rw [if_neg (fun h => c24 h.2.1)], rfl⟩
    · skip
      have c24 := hr_bn.mp c24
      have c24 : 0 ≤ (S 26 0 (e9 + 6)) ∧ (S 26 0 (e9 + 6)) ≤ 7 := c24
      refine hr_aload_n C dX4_isSound_27 rfl 0 rfl ?_
      refine hr_get (k := 14) (i := 0) (fld := 19) C (by decide) rfl rfl (by decide) kU_X4 kF_X4_45 rfl rfl dX4_isSound_28 ?_
      refine hr_iload_n C dX4_isSound_31 rfl 1 rfl ?_
      refine hr_bipush (v := 19) C dX4_isSound_32 (by decide) ?_
      refine hr_iadd (v := nI (e9 + 19)) C dX4_isSound_34 (nI_add e9 19) ?_
      refine hr_iald (k := 26) (i := 0) (e9 + 19) C (by decide) rfl rfl (show e9 + 19 < 164 by omega) (by decide) dX4_isSound_35 ?_
      refine hr_iconst (v := 1) C dX4_isSound_36 (by decide) ?_
      refine hr_bipush (v := 16) C dX4_isSound_37 (by decide) ?_
      refine hr_cSi C (ct_X4_in l E S o (S 26 0 (e9 + 19)) 1 16) (cwS 3 C.1.2.2.2.2 (hr_gS kM_X4_52 kT_X4_in kN_X4 kC_X4_in) rfl rfl rfl (by decide +kernel) ⟨Nat.le_of_ble_eq_true rfl, Nat.le_of_ble_eq_true rfl⟩) rfl (Nat.le_of_ble_eq_true rfl) dX4_isSound_39 ⟨Nat.le_of_ble_eq_true rfl, Nat.le_of_ble_eq_true rfl⟩ (fun r7 S8 h9 => ?_) rfl
      refine hr_tp h9.1 ?_
      refine hr_st (S1 := S) h9.2 ?_
      refine hr_if_eq C 49 dX4_isSound_42 (by decide) (fun c42 => ?_) (fun c42 => ?_)
      · skip
        have c42 := hr_bz.mp c42
        have c42 : ¬ (1 ≤ (S 26 0 (e9 + 19)) ∧ (S 26 0 (e9 + 19)) ≤ 16) := c42
        refine hr_iconst (v := 0) C dX4_isSound_49 (by decide) ?_
        exact hr_zret C hr rfl dX4_isSound_50 ⟨by rw [if_neg (fun h => c42 h.2.2)], rfl⟩
      · skip
        have c42 := hr_bn.mp c42
        have c42 : 1 ≤ (S 26 0 (e9 + 19)) ∧ (S 26 0 (e9 + 19)) ≤ 16 := c42
        refine hr_iconst (v := 1) C dX4_isSound_45 (by decide) ?_
        refine hr_goto C 50 dX4_isSound_46 (by decide) ?_
        exact hr_zret C hr rfl dX4_isSound_50 ⟨by rw [if_pos ⟨c6, c24, c42⟩], rfl⟩
set_option maxHeartbeats 4000000 in
set_option maxRecDepth 100000 in
theorem ct_X4_tell (l : Launch) (E : hr_E) (S : hr_S) (o : Int64) (r9 : Nat) (hr9 : r9 < 8) (x al self : Int32) (hI : hr_MI S) (hx : nb x 8) : hr_Mv l E yX4_tell (Cond.code yX4_tell cX4_tell 8 none :: hr_W) ({ frames := 2, cells := 0, slots := 0, locals := 45 } : Room) [.ref (hr_ad E 14 0), .int (nI r9), .int x, .int al, .int self] S o (fun u => u = md_tell S r9 x al self) := by
  refine hr_of (by decide) (Nat.le_of_ble_eq_true rfl) (fun p e s m below meth c C hr => ?_)
  refine hr_aload_n C dX4_tell_0 rfl 0 rfl ?_
  refine hr_iconst (v := 2) C dX4_tell_1 (by decide) ?_
  refine hr_cVv C (ct_X4_begin l E S o 2) (cwV 1 C.1.2.2.2.2 (hr_gV kM_X4_72 kI_X4_begin kS_X4_begin kN_X4 kC_X4_begin) rfl rfl rfl (by decide +kernel) ⟨Nat.le_of_ble_eq_true rfl, Nat.le_of_ble_eq_true rfl⟩) (by decide) rfl rfl rfl (Nat.le_of_ble_eq_true rfl) dX4_tell_2 ⟨Nat.le_of_ble_eq_true rfl, Nat.le_of_ble_eq_true rfl⟩ (fun S2 h3 => ?_) rfl
  refine hr_st (S1 := (md_begin S 2)) h3 ?_
  refine hr_iload C dX4_tell_5 4 rfl ?_
  refine hr_if_eq C 17 dX4_tell_7 (by decide) (fun c7 => ?_) (fun c7 => ?_)
  · skip
    refine hr_iconst (v := 0) C dX4_tell_17 (by decide) ?_
    refine hr_istore C [(5, .int 0), (0, .ref (hr_ad E 14 0)), (1, .int (nI r9)), (2, .int x), (3, .int al), (4, .int self)] dX4_tell_18 (by decide) rfl ?_
    have LP20 : ∀ (n d : Nat) , d ≤ 8 → 8 + 1 ≤ d + n → hr_G p l e ({ frames := 2, cells := 0, slots := 0, locals := 45 } : Room) s m #[.ref (hr_ad E 14 0), .int (nI r9), .int x, .int al, .int self] below meth c (MQ below (va_Qv (fun u => u = md_tell S r9 x al self) (fun u t => hr_P E u o t.heap) (hr_A E)) #[.ref (hr_ad E 14 0), .int (nI r9), .int x, .int al, .int self] s 0 0 (hr_A E)) E 8 0 0 (md_tlL S r9 x al self d) o [(0, .ref (hr_ad E 14 0)), (1, .int (nI r9)), (2, .int x), (3, .int al), (4, .int self), (5, .int (nI d))] 20 [] := by
      intro n
      induction n with
      | zero => intro d  h1 h2; omega
      | succ n ih =>
        intro d  hv1 hv2
        refine hr_iload C dX4_tell_20 5 rfl ?_
        refine hr_bipush (v := 8) C dX4_tell_22 (by decide) ?_
        refine hr_icmp_ge C 119 dX4_tell_24 (by decide) (fun c24 => ?_) (fun c24 => ?_)
        · skip
          have c24 : 8 ≤ d := (nI_leI (a := 8) (b := d) (by omega) (by omega)).mp c24
          have c24n : ¬ d < 8 := Nat.not_lt.mpr c24
          have hmm := (mk_tlL S hr9 x al self d (by omega)).2.1
          have hmc : md_ct r9 d ≤ 8 := by unfold md_ct; split <;> omega
          refine hr_aload_n C dX4_tell_119 rfl 0 rfl ?_
          refine hr_get (k := 14) (i := 0) (fld := 16) C (by decide) rfl rfl (by decide) kU_X4 kF_X4_56 rfl rfl dX4_tell_120 ?_
          refine hr_tp (y := nI (md_m (md_tlL S r9 x al self d))) (mk_tlL S hr9 x al self d (by omega)).1 ?_
          refine hr_iconst (v := 4) C dX4_tell_123 (by decide) ?_
          refine hr_icmp_le C 133 dX4_tell_124 (by decide) (fun c124 => ?_) (fun c124 => ?_)
          · skip
            have c124 : (md_m (md_tlL S r9 x al self d)) ≤ 4 := (nI_leI (a := (md_m (md_tlL S r9 x al self d))) (b := 4) (by omega) (by omega)).mp c124
            have c124n : ¬ 4 < (md_m (md_tlL S r9 x al self d)) := Nat.not_lt.mpr c124
            exact hr_vret C hr dX4_tell_133 (by have e8 : d = 8 := (by omega); subst e8; unfold md_tell; rw [if_neg (by omega)])
          · skip
            have c124 : ¬ (md_m (md_tlL S r9 x al self d)) ≤ 4 := fun h => c124 ((nI_leI (a := (md_m (md_tlL S r9 x al self d))) (b := 4) (by omega) (by omega)).mpr h)
            have c124n : 4 < (md_m (md_tlL S r9 x al self d)) := Nat.not_le.mp c124
            refine hr_aload_n C dX4_tell_127 rfl 0 rfl ?_
            refine hr_iload_n C dX4_tell_128 rfl 1 rfl ?_
            refine hr_iload_n C dX4_tell_129 rfl 2 rfl ?_
            refine hr_cVv C (ct_X4_post l E (md_tlL S r9 x al self d) o (nI r9) x (MI_tlL hI d) (mk_tlL3 S hr9 x al self (by omega))) (cwV 2 C.1.2.2.2.2 (hr_gV kM_X4_79 kI_X4_post kS_X4_post kN_X4 kC_X4_post) rfl rfl rfl (by decide +kernel) ⟨Nat.le_of_ble_eq_true rfl, Nat.le_of_ble_eq_true rfl⟩) (by decide) rfl rfl rfl (Nat.le_of_ble_eq_true rfl) dX4_tell_130 ⟨Nat.le_of_ble_eq_true rfl, Nat.le_of_ble_eq_true rfl⟩ (fun S5 h6 => ?_) rfl
            refine hr_st (S1 := (md_post (md_tlL S r9 x al self d) (nI r9) x)) h6 ?_
            exact hr_vret C hr dX4_tell_133 (by have e8 : d = 8 := (by omega); subst e8; unfold md_tell; rw [if_pos (by omega)])
        · skip
          have c24 : ¬ 8 ≤ d := fun h => c24 ((nI_leI (a := 8) (b := d) (by omega) (by omega)).mpr h)
          have c24n : d < 8 := Nat.not_le.mp c24
          refine hr_bipush (v := 8) C dX4_tell_27 (by decide) ?_
          refine hr_iload_n C dX4_tell_29 rfl 1 rfl ?_
          refine hr_imul (v := nI (8 * r9)) C dX4_tell_30 (pk_mul 8 r9) ?_
          refine hr_iload C dX4_tell_31 5 rfl ?_
          refine hr_iadd (v := nI ((8 * r9) + d)) C dX4_tell_33 (nI_add (8 * r9) d) ?_
          refine hr_istore C [(6, .int (nI ((8 * r9) + d))), (0, .ref (hr_ad E 14 0)), (1, .int (nI r9)), (2, .int x), (3, .int al), (4, .int self), (5, .int (nI d))] dX4_tell_34 (by decide) rfl ?_
          refine hr_iload C dX4_tell_36 6 rfl ?_
          refine hr_iload_n C dX4_tell_38 rfl 2 rfl ?_
          refine hr_icmp_eq C 113 dX4_tell_39 (by decide) (fun c39 => ?_) (fun c39 => ?_)
          · skip
            have c39 : d = r9 := (nI_eq (a := d) (b := r9) (by omega) (by omega)).mp c39
            refine hr_iinc (v := nI (d + 1)) C [(5, .int (nI (d + 1))), (6, .int (nI ((8 * r9) + d))), (0, .ref (hr_ad E 14 0)), (1, .int (nI r9)), (2, .int x), (3, .int al), (4, .int self)] dX4_tell_113 6 rfl (nI_add d 1) (by decide) rfl ?_
            refine hr_goto C 20 dX4_tell_116 (by decide) ?_
            refine hr_sub [2, 3, 4, 5, 6, 0] rfl ?_
            refine hr_st (S1 := md_tlL S r9 x al self (d + 1)) (by rw [md_tlL, if_neg (fun h => h.1 c39)]) ?_
            exact ih (d + 1)  (by omega) (by omega)
          · skip
            have c39 : ¬ d = r9 := fun h => c39 ((nI_eq (a := d) (b := r9) (by omega) (by omega)).mpr h)
            refine hr_aload_n C dX4_tell_42 rfl 1 rfl ?_
            refine hr_get (k := 14) (i := 0) (fld := 6) C (by decide) rfl rfl (by decide) kU_X4 kF_X4_13 rfl rfl dX4_tell_43 ?_
            refine hr_iload C dX4_tell_46 0 rfl ?_
            refine hr_iald (k := 16) (i := 0) ((8 * r9) + d) C (by decide) rfl rfl (show (8 * r9) + d < 64 by omega) (by decide) dX4_tell_48 ?_
            refine hr_if_le C 113 dX4_tell_49 (by decide) (fun c49 => ?_) (fun c49 => ?_)
            · skip
              have c49n : ¬ 0 < ((md_tlL S r9 x al self d) 16 0 ((8 * r9) + d)) := Int32.not_lt.mpr c49
              refine hr_iinc (v := nI (d + 1)) C [(5, .int (nI (d + 1))), (6, .int (nI ((8 * r9) + d))), (0, .ref (hr_ad E 14 0)), (1, .int (nI r9)), (2, .int x), (3, .int al), (4, .int self)] dX4_tell_113 6 rfl (nI_add d 1) (by decide) rfl ?_
              refine hr_goto C 20 dX4_tell_116 (by decide) ?_
              refine hr_sub [2, 3, 4, 5, 6, 0] rfl ?_
              refine hr_st (S1 := md_tlL S r9 x al self (d + 1)) (by rw [md_tlL, if_neg (fun h => h.2.1 c49)]) ?_
              exact ih (d + 1)  (by omega) (by omega)
            · skip
              have c49n : 0 < ((md_tlL S r9 x al self d) 16 0 ((8 * r9) + d)) := Int32.not_le.mp c49
              refine hr_iload_n C dX4_tell_52 rfl 4 rfl ?_
              refine hr_if_ne C 66 dX4_tell_53 (by decide) (fun c53 => ?_) (fun c53 => ?_)
              · skip
                refine hr_aload_n C dX4_tell_66 rfl 1 rfl ?_
                refine hr_get (k := 14) (i := 0) (fld := 6) C (by decide) rfl rfl (by decide) kU_X4 kF_X4_13 rfl rfl dX4_tell_67 ?_
                refine hr_iload C dX4_tell_70 0 rfl ?_
                refine hr_iald (k := 16) (i := 0) ((8 * r9) + d) C (by decide) rfl rfl (show (8 * r9) + d < 64 by omega) (by decide) dX4_tell_72 ?_
                refine hr_iconst (v := 1) C dX4_tell_73 (by decide) ?_
                refine hr_iadd C dX4_tell_74 rfl ?_
                refine hr_istore C [(7, .int (((md_tlL S r9 x al self d) 16 0 ((8 * r9) + d)) + 1)), (6, .int (nI ((8 * r9) + d))), (0, .ref (hr_ad E 14 0)), (1, .int (nI r9)), (2, .int x), (3, .int al), (4, .int self), (5, .int (nI d))] dX4_tell_75 (by decide) rfl ?_
                refine hr_iload C dX4_tell_77 0 rfl ?_
                refine hr_bipush (v := 16) C dX4_tell_79 (by decide) ?_
                refine hr_icmp_gt C 95 dX4_tell_81 (by decide) (fun c81 => ?_) (fun c81 => ?_)
                · skip
                  have c81n : ¬ (((md_tlL S r9 x al self d) 16 0 ((8 * r9) + d)) + 1) ≤ 16 := Int32.not_le.mpr c81
                  refine hr_bipush (v := 16) C dX4_tell_95 (by decide) ?_
                  refine hr_goto C 102 dX4_tell_97 (by decide) ?_
                  refine hr_istore C [(7, .int 16), (6, .int (nI ((8 * r9) + d))), (0, .ref (hr_ad E 14 0)), (1, .int (nI r9)), (2, .int x), (3, .int al), (4, .int self), (5, .int (nI d))] dX4_tell_102 (by decide) rfl ?_
                  refine hr_aload_n C dX4_tell_104 rfl 2 rfl ?_
                  refine hr_iconst (v := 2) C dX4_tell_105 (by decide) ?_
                  refine hr_iload C dX4_tell_106 7 rfl ?_
                  refine hr_iload C dX4_tell_108 0 rfl ?_
                  refine hr_cVv C (ct_X4_entry l E (md_tlL S r9 x al self d) o 2 (nI d) 16 (md_m (md_tlL S r9 x al self d)) ((mk_tlL S hr9 x al self d (by omega)).1) (mk_tlL2 S hr9 x al self (by omega) c39)) (cwV 3 C.1.2.2.2.2 (hr_gV kM_X4_75 kI_X4_entry kS_X4_entry kN_X4 kC_X4_entry) rfl rfl rfl (by decide +kernel) ⟨Nat.le_of_ble_eq_true rfl, Nat.le_of_ble_eq_true rfl⟩) (by decide) rfl rfl rfl (Nat.le_of_ble_eq_true rfl) dX4_tell_110 ⟨Nat.le_of_ble_eq_true rfl, Nat.le_of_ble_eq_true rfl⟩ (fun S8 h9 => ?_) rfl
                  refine hr_st (S1 := (md_entry (md_tlL S r9 x al self d) (md_m (md_tlL S r9 x al self d)) 2 (nI d) 16)) h9 ?_
                  refine hr_iinc (v := nI (d + 1)) C [(5, .int (nI (d + 1))), (7, .int 16), (6, .int (nI ((8 * r9) + d))), (0, .ref (hr_ad E 14 0)), (1, .int (nI r9)), (2, .int x), (3, .int al), (4, .int self)] dX4_tell_113 7 rfl (nI_add d 1) (by decide) rfl ?_
                  refine hr_goto C 20 dX4_tell_116 (by decide) ?_
                  refine hr_sub [3, 4, 5, 6, 7, 0] rfl ?_
                  refine hr_st (S1 := md_tlL S r9 x al self (d + 1)) (by rw [md_tlL, if_pos ⟨c39, c49, Or.inl c53⟩]; unfold md_told; rw [if_pos c81]) ?_
                  exact ih (d + 1)  (by omega) (by omega)
                · skip
                  have c81n : (((md_tlL S r9 x al self d) 16 0 ((8 * r9) + d)) + 1) ≤ 16 := Int32.not_lt.mp c81
                  refine hr_aload_n C dX4_tell_84 rfl 2 rfl ?_
                  refine hr_get (k := 14) (i := 0) (fld := 7) C (by decide) rfl rfl (by decide) kU_X4 kF_X4_17 rfl rfl dX4_tell_85 ?_
                  refine hr_iload C dX4_tell_88 1 rfl ?_
                  refine hr_iald (k := 17) (i := 0) ((8 * r9) + d) C (by decide) rfl rfl (show (8 * r9) + d < 64 by omega) (by decide) dX4_tell_90 ?_
                  refine hr_iload_n C dX4_tell_91 rfl 4 rfl ?_
                  refine hr_icmp_ne C 100 dX4_tell_92 (by decide) (fun c92 => ?_) (fun c92 => ?_)
                  · skip
                    refine hr_iload C dX4_tell_100 0 rfl ?_
                    refine hr_istore C [(7, .int (((md_tlL S r9 x al self d) 16 0 ((8 * r9) + d)) + 1)), (6, .int (nI ((8 * r9) + d))), (0, .ref (hr_ad E 14 0)), (1, .int (nI r9)), (2, .int x), (3, .int al), (4, .int self), (5, .int (nI d))] dX4_tell_102 (by decide) rfl ?_
                    refine hr_aload_n C dX4_tell_104 rfl 2 rfl ?_
                    refine hr_iconst (v := 2) C dX4_tell_105 (by decide) ?_
                    refine hr_iload C dX4_tell_106 7 rfl ?_
                    refine hr_iload C dX4_tell_108 0 rfl ?_
                    refine hr_cVv C (ct_X4_entry l E (md_tlL S r9 x al self d) o 2 (nI d) (((md_tlL S r9 x al self d) 16 0 ((8 * r9) + d)) + 1) (md_m (md_tlL S r9 x al self d)) ((mk_tlL S hr9 x al self d (by omega)).1) (mk_tlL2 S hr9 x al self (by omega) c39)) (cwV 3 C.1.2.2.2.2 (hr_gV kM_X4_75 kI_X4_entry kS_X4_entry kN_X4 kC_X4_entry) rfl rfl rfl (by decide +kernel) ⟨Nat.le_of_ble_eq_true rfl, Nat.le_of_ble_eq_true rfl⟩) (by decide) rfl rfl rfl (Nat.le_of_ble_eq_true rfl) dX4_tell_110 ⟨Nat.le_of_ble_eq_true rfl, Nat.le_of_ble_eq_true rfl⟩ (fun S11 h12 => ?_) rfl
                    refine hr_st (S1 := (md_entry (md_tlL S r9 x al self d) (md_m (md_tlL S r9 x al self d)) 2 (nI d) (((md_tlL S r9 x al self d) 16 0 ((8 * r9) + d)) + 1))) h12 ?_
                    refine hr_iinc (v := nI (d + 1)) C [(5, .int (nI (d + 1))), (7, .int (((md_tlL S r9 x al self d) 16 0 ((8 * r9) + d)) + 1)), (6, .int (nI ((8 * r9) + d))), (0, .ref (hr_ad E 14 0)), (1, .int (nI r9)), (2, .int x), (3, .int al), (4, .int self)] dX4_tell_113 7 rfl (nI_add d 1) (by decide) rfl ?_
                    refine hr_goto C 20 dX4_tell_116 (by decide) ?_
                    refine hr_sub [3, 4, 5, 6, 7, 0] rfl ?_
                    refine hr_st (S1 := md_tlL S r9 x al self (d + 1)) (by rw [md_tlL, if_pos ⟨c39, c49, Or.inl c53⟩]; unfold md_told; rw [if_neg c81, if_neg c92]) ?_
                    exact ih (d + 1)  (by omega) (by omega)
                  · skip
                    refine hr_bipush (v := 16) C dX4_tell_95 (by decide) ?_
                    refine hr_goto C 102 dX4_tell_97 (by decide) ?_
                    refine hr_istore C [(7, .int 16), (6, .int (nI ((8 * r9) + d))), (0, .ref (hr_ad E 14 0)), (1, .int (nI r9)), (2, .int x), (3, .int al), (4, .int self), (5, .int (nI d))] dX4_tell_102 (by decide) rfl ?_
                    refine hr_aload_n C dX4_tell_104 rfl 2 rfl ?_
                    refine hr_iconst (v := 2) C dX4_tell_105 (by decide) ?_
                    refine hr_iload C dX4_tell_106 7 rfl ?_
                    refine hr_iload C dX4_tell_108 0 rfl ?_
                    refine hr_cVv C (ct_X4_entry l E (md_tlL S r9 x al self d) o 2 (nI d) 16 (md_m (md_tlL S r9 x al self d)) ((mk_tlL S hr9 x al self d (by omega)).1) (mk_tlL2 S hr9 x al self (by omega) c39)) (cwV 3 C.1.2.2.2.2 (hr_gV kM_X4_75 kI_X4_entry kS_X4_entry kN_X4 kC_X4_entry) rfl rfl rfl (by decide +kernel) ⟨Nat.le_of_ble_eq_true rfl, Nat.le_of_ble_eq_true rfl⟩) (by decide) rfl rfl rfl (Nat.le_of_ble_eq_true rfl) dX4_tell_110 ⟨Nat.le_of_ble_eq_true rfl, Nat.le_of_ble_eq_true rfl⟩ (fun S14 h15 => ?_) rfl
                    refine hr_st (S1 := (md_entry (md_tlL S r9 x al self d) (md_m (md_tlL S r9 x al self d)) 2 (nI d) 16)) h15 ?_
                    refine hr_iinc (v := nI (d + 1)) C [(5, .int (nI (d + 1))), (7, .int 16), (6, .int (nI ((8 * r9) + d))), (0, .ref (hr_ad E 14 0)), (1, .int (nI r9)), (2, .int x), (3, .int al), (4, .int self)] dX4_tell_113 7 rfl (nI_add d 1) (by decide) rfl ?_
                    refine hr_goto C 20 dX4_tell_116 (by decide) ?_
                    refine hr_sub [3, 4, 5, 6, 7, 0] rfl ?_
                    refine hr_st (S1 := md_tlL S r9 x al self (d + 1)) (by rw [md_tlL, if_pos ⟨c39, c49, Or.inl c53⟩]; unfold md_told; rw [if_neg c81, if_pos c92]) ?_
                    exact ih (d + 1)  (by omega) (by omega)
              · skip
                refine hr_aload_n C dX4_tell_56 rfl 1 rfl ?_
                refine hr_get (k := 14) (i := 0) (fld := 9) C (by decide) rfl rfl (by decide) kU_X4 kF_X4_23 rfl rfl dX4_tell_57 ?_
                refine hr_iload C dX4_tell_60 0 rfl ?_
                refine hr_zald (k := 19) (i := 0) ((8 * r9) + d) C (by decide) rfl rfl (show (8 * r9) + d < 64 by omega) (by decide) dX4_tell_62 ?_
                refine hr_if_eq C 113 dX4_tell_63 (by decide) (fun c63 => ?_) (fun c63 => ?_)
                · skip
                  refine hr_iinc (v := nI (d + 1)) C [(5, .int (nI (d + 1))), (6, .int (nI ((8 * r9) + d))), (0, .ref (hr_ad E 14 0)), (1, .int (nI r9)), (2, .int x), (3, .int al), (4, .int self)] dX4_tell_113 6 rfl (nI_add d 1) (by decide) rfl ?_
                  refine hr_goto C 20 dX4_tell_116 (by decide) ?_
                  refine hr_sub [2, 3, 4, 5, 6, 0] rfl ?_
                  refine hr_st (S1 := md_tlL S r9 x al self (d + 1)) (by rw [md_tlL, if_neg (fun h => h.2.2.elim (fun z => z c53) (fun z => z c63))]) ?_
                  exact ih (d + 1)  (by omega) (by omega)
                · skip
                  refine hr_aload_n C dX4_tell_66 rfl 1 rfl ?_
                  refine hr_get (k := 14) (i := 0) (fld := 6) C (by decide) rfl rfl (by decide) kU_X4 kF_X4_13 rfl rfl dX4_tell_67 ?_
                  refine hr_iload C dX4_tell_70 0 rfl ?_
                  refine hr_iald (k := 16) (i := 0) ((8 * r9) + d) C (by decide) rfl rfl (show (8 * r9) + d < 64 by omega) (by decide) dX4_tell_72 ?_
                  refine hr_iconst (v := 1) C dX4_tell_73 (by decide) ?_
                  refine hr_iadd C dX4_tell_74 rfl ?_
                  refine hr_istore C [(7, .int (((md_tlL S r9 x al self d) 16 0 ((8 * r9) + d)) + 1)), (6, .int (nI ((8 * r9) + d))), (0, .ref (hr_ad E 14 0)), (1, .int (nI r9)), (2, .int x), (3, .int al), (4, .int self), (5, .int (nI d))] dX4_tell_75 (by decide) rfl ?_
                  refine hr_iload C dX4_tell_77 0 rfl ?_
                  refine hr_bipush (v := 16) C dX4_tell_79 (by decide) ?_
                  refine hr_icmp_gt C 95 dX4_tell_81 (by decide) (fun c81 => ?_) (fun c81 => ?_)
                  · skip
                    have c81n : ¬ (((md_tlL S r9 x al self d) 16 0 ((8 * r9) + d)) + 1) ≤ 16 := Int32.not_le.mpr c81
                    refine hr_bipush (v := 16) C dX4_tell_95 (by decide) ?_
                    refine hr_goto C 102 dX4_tell_97 (by decide) ?_
                    refine hr_istore C [(7, .int 16), (6, .int (nI ((8 * r9) + d))), (0, .ref (hr_ad E 14 0)), (1, .int (nI r9)), (2, .int x), (3, .int al), (4, .int self), (5, .int (nI d))] dX4_tell_102 (by decide) rfl ?_
                    refine hr_aload_n C dX4_tell_104 rfl 2 rfl ?_
                    refine hr_iconst (v := 2) C dX4_tell_105 (by decide) ?_
                    refine hr_iload C dX4_tell_106 7 rfl ?_
                    refine hr_iload C dX4_tell_108 0 rfl ?_
                    refine hr_cVv C (ct_X4_entry l E (md_tlL S r9 x al self d) o 2 (nI d) 16 (md_m (md_tlL S r9 x al self d)) ((mk_tlL S hr9 x al self d (by omega)).1) (mk_tlL2 S hr9 x al self (by omega) c39)) (cwV 3 C.1.2.2.2.2 (hr_gV kM_X4_75 kI_X4_entry kS_X4_entry kN_X4 kC_X4_entry) rfl rfl rfl (by decide +kernel) ⟨Nat.le_of_ble_eq_true rfl, Nat.le_of_ble_eq_true rfl⟩) (by decide) rfl rfl rfl (Nat.le_of_ble_eq_true rfl) dX4_tell_110 ⟨Nat.le_of_ble_eq_true rfl, Nat.le_of_ble_eq_true rfl⟩ (fun S17 h18 => ?_) rfl
                    refine hr_st (S1 := (md_entry (md_tlL S r9 x al self d) (md_m (md_tlL S r9 x al self d)) 2 (nI d) 16)) h18 ?_
                    refine hr_iinc (v := nI (d + 1)) C [(5, .int (nI (d + 1))), (7, .int 16), (6, .int (nI ((8 * r9) + d))), (0, .ref (hr_ad E 14 0)), (1, .int (nI r9)), (2, .int x), (3, .int al), (4, .int self)] dX4_tell_113 7 rfl (nI_add d 1) (by decide) rfl ?_
                    refine hr_goto C 20 dX4_tell_116 (by decide) ?_
                    refine hr_sub [3, 4, 5, 6, 7, 0] rfl ?_
                    refine hr_st (S1 := md_tlL S r9 x al self (d + 1)) (by rw [md_tlL, if_pos ⟨c39, c49, Or.inr c63⟩]; unfold md_told; rw [if_pos c81]) ?_
                    exact ih (d + 1)  (by omega) (by omega)
                  · skip
                    have c81n : (((md_tlL S r9 x al self d) 16 0 ((8 * r9) + d)) + 1) ≤ 16 := Int32.not_lt.mp c81
                    refine hr_aload_n C dX4_tell_84 rfl 2 rfl ?_
                    refine hr_get (k := 14) (i := 0) (fld := 7) C (by decide) rfl rfl (by decide) kU_X4 kF_X4_17 rfl rfl dX4_tell_85 ?_
                    refine hr_iload C dX4_tell_88 1 rfl ?_
                    refine hr_iald (k := 17) (i := 0) ((8 * r9) + d) C (by decide) rfl rfl (show (8 * r9) + d < 64 by omega) (by decide) dX4_tell_90 ?_
                    refine hr_iload_n C dX4_tell_91 rfl 4 rfl ?_
                    refine hr_icmp_ne C 100 dX4_tell_92 (by decide) (fun c92 => ?_) (fun c92 => ?_)
                    · skip
                      refine hr_iload C dX4_tell_100 0 rfl ?_
                      refine hr_istore C [(7, .int (((md_tlL S r9 x al self d) 16 0 ((8 * r9) + d)) + 1)), (6, .int (nI ((8 * r9) + d))), (0, .ref (hr_ad E 14 0)), (1, .int (nI r9)), (2, .int x), (3, .int al), (4, .int self), (5, .int (nI d))] dX4_tell_102 (by decide) rfl ?_
                      refine hr_aload_n C dX4_tell_104 rfl 2 rfl ?_
                      refine hr_iconst (v := 2) C dX4_tell_105 (by decide) ?_
                      refine hr_iload C dX4_tell_106 7 rfl ?_
                      refine hr_iload C dX4_tell_108 0 rfl ?_
                      refine hr_cVv C (ct_X4_entry l E (md_tlL S r9 x al self d) o 2 (nI d) (((md_tlL S r9 x al self d) 16 0 ((8 * r9) + d)) + 1) (md_m (md_tlL S r9 x al self d)) ((mk_tlL S hr9 x al self d (by omega)).1) (mk_tlL2 S hr9 x al self (by omega) c39)) (cwV 3 C.1.2.2.2.2 (hr_gV kM_X4_75 kI_X4_entry kS_X4_entry kN_X4 kC_X4_entry) rfl rfl rfl (by decide +kernel) ⟨Nat.le_of_ble_eq_true rfl, Nat.le_of_ble_eq_true rfl⟩) (by decide) rfl rfl rfl (Nat.le_of_ble_eq_true rfl) dX4_tell_110 ⟨Nat.le_of_ble_eq_true rfl, Nat.le_of_ble_eq_true rfl⟩ (fun S20 h21 => ?_) rfl
                      refine hr_st (S1 := (md_entry (md_tlL S r9 x al self d) (md_m (md_tlL S r9 x al self d)) 2 (nI d) (((md_tlL S r9 x al self d) 16 0 ((8 * r9) + d)) + 1))) h21 ?_
                      refine hr_iinc (v := nI (d + 1)) C [(5, .int (nI (d + 1))), (7, .int (((md_tlL S r9 x al self d) 16 0 ((8 * r9) + d)) + 1)), (6, .int (nI ((8 * r9) + d))), (0, .ref (hr_ad E 14 0)), (1, .int (nI r9)), (2, .int x), (3, .int al), (4, .int self)] dX4_tell_113 7 rfl (nI_add d 1) (by decide) rfl ?_
                      refine hr_goto C 20 dX4_tell_116 (by decide) ?_
                      refine hr_sub [3, 4, 5, 6, 7, 0] rfl ?_
                      refine hr_st (S1 := md_tlL S r9 x al self (d + 1)) (by rw [md_tlL, if_pos ⟨c39, c49, Or.inr c63⟩]; unfold md_told; rw [if_neg c81, if_neg c92]) ?_
                      exact ih (d + 1)  (by omega) (by omega)
                    · skip
                      refine hr_bipush (v := 16) C dX4_tell_95 (by decide) ?_
                      refine hr_goto C 102 dX4_tell_97 (by decide) ?_
                      refine hr_istore C [(7, .int 16), (6, .int (nI ((8 * r9) + d))), (0, .ref (hr_ad E 14 0)), (1, .int (nI r9)), (2, .int x), (3, .int al), (4, .int self), (5, .int (nI d))] dX4_tell_102 (by decide) rfl ?_
                      refine hr_aload_n C dX4_tell_104 rfl 2 rfl ?_
                      refine hr_iconst (v := 2) C dX4_tell_105 (by decide) ?_
                      refine hr_iload C dX4_tell_106 7 rfl ?_
                      refine hr_iload C dX4_tell_108 0 rfl ?_
                      refine hr_cVv C (ct_X4_entry l E (md_tlL S r9 x al self d) o 2 (nI d) 16 (md_m (md_tlL S r9 x al self d)) ((mk_tlL S hr9 x al self d (by omega)).1) (mk_tlL2 S hr9 x al self (by omega) c39)) (cwV 3 C.1.2.2.2.2 (hr_gV kM_X4_75 kI_X4_entry kS_X4_entry kN_X4 kC_X4_entry) rfl rfl rfl (by decide +kernel) ⟨Nat.le_of_ble_eq_true rfl, Nat.le_of_ble_eq_true rfl⟩) (by decide) rfl rfl rfl (Nat.le_of_ble_eq_true rfl) dX4_tell_110 ⟨Nat.le_of_ble_eq_true rfl, Nat.le_of_ble_eq_true rfl⟩ (fun S23 h24 => ?_) rfl
                      refine hr_st (S1 := (md_entry (md_tlL S r9 x al self d) (md_m (md_tlL S r9 x al self d)) 2 (nI d) 16)) h24 ?_
                      refine hr_iinc (v := nI (d + 1)) C [(5, .int (nI (d + 1))), (7, .int 16), (6, .int (nI ((8 * r9) + d))), (0, .ref (hr_ad E 14 0)), (1, .int (nI r9)), (2, .int x), (3, .int al), (4, .int self)] dX4_tell_113 7 rfl (nI_add d 1) (by decide) rfl ?_
                      refine hr_goto C 20 dX4_tell_116 (by decide) ?_
                      refine hr_sub [3, 4, 5, 6, 7, 0] rfl ?_
                      refine hr_st (S1 := md_tlL S r9 x al self (d + 1)) (by rw [md_tlL, if_pos ⟨c39, c49, Or.inr c63⟩]; unfold md_told; rw [if_neg c81, if_pos c92]) ?_
                      exact ih (d + 1)  (by omega) (by omega)
    refine hr_sub [1, 2, 3, 4, 5, 0] rfl ?_
    refine hr_st (S1 := md_tlL S r9 x al self 0) (by unfold md_tlL md_tl1; rw [if_pos c7]) ?_
    exact LP20 (8 + 1) 0  (by omega) (by omega)
  · skip
    refine hr_aload_n C dX4_tell_10 rfl 0 rfl ?_
    refine hr_iconst (v := 2) C dX4_tell_11 (by decide) ?_
    refine hr_iload_n C dX4_tell_12 rfl 1 rfl ?_
    refine hr_iconst (v := 1) C dX4_tell_13 (by decide) ?_
    refine hr_cVv C (ct_X4_entry l E (md_begin S 2) o 2 (nI r9) 1 4 (md_begin_m S 2) (by decide)) (cwV 3 C.1.2.2.2.2 (hr_gV kM_X4_75 kI_X4_entry kS_X4_entry kN_X4 kC_X4_entry) rfl rfl rfl (by decide +kernel) ⟨Nat.le_of_ble_eq_true rfl, Nat.le_of_ble_eq_true rfl⟩) (by decide) rfl rfl rfl (Nat.le_of_ble_eq_true rfl) dX4_tell_14 ⟨Nat.le_of_ble_eq_true rfl, Nat.le_of_ble_eq_true rfl⟩ (fun S26 h27 => ?_) rfl
    refine hr_st (S1 := (md_entry (md_begin S 2) 4 2 (nI r9) 1)) h27 ?_
    refine hr_iconst (v := 0) C dX4_tell_17 (by decide) ?_
    refine hr_istore C [(5, .int 0), (0, .ref (hr_ad E 14 0)), (1, .int (nI r9)), (2, .int x), (3, .int al), (4, .int self)] dX4_tell_18 (by decide) rfl ?_
    have LP20 : ∀ (n d : Nat) , d ≤ 8 → 8 + 1 ≤ d + n → hr_G p l e ({ frames := 2, cells := 0, slots := 0, locals := 45 } : Room) s m #[.ref (hr_ad E 14 0), .int (nI r9), .int x, .int al, .int self] below meth c (MQ below (va_Qv (fun u => u = md_tell S r9 x al self) (fun u t => hr_P E u o t.heap) (hr_A E)) #[.ref (hr_ad E 14 0), .int (nI r9), .int x, .int al, .int self] s 0 0 (hr_A E)) E 8 0 0 (md_tlL S r9 x al self d) o [(0, .ref (hr_ad E 14 0)), (1, .int (nI r9)), (2, .int x), (3, .int al), (4, .int self), (5, .int (nI d))] 20 [] := by
      intro n
      induction n with
      | zero => intro d  h1 h2; omega
      | succ n ih =>
        intro d  hv1 hv2
        refine hr_iload C dX4_tell_20 5 rfl ?_
        refine hr_bipush (v := 8) C dX4_tell_22 (by decide) ?_
        refine hr_icmp_ge C 119 dX4_tell_24 (by decide) (fun c24 => ?_) (fun c24 => ?_)
        · skip
          have c24 : 8 ≤ d := (nI_leI (a := 8) (b := d) (by omega) (by omega)).mp c24
          have c24n : ¬ d < 8 := Nat.not_lt.mpr c24
          have hmm := (mk_tlL S hr9 x al self d (by omega)).2.1
          have hmc : md_ct r9 d ≤ 8 := by unfold md_ct; split <;> omega
          refine hr_aload_n C dX4_tell_119 rfl 0 rfl ?_
          refine hr_get (k := 14) (i := 0) (fld := 16) C (by decide) rfl rfl (by decide) kU_X4 kF_X4_56 rfl rfl dX4_tell_120 ?_
          refine hr_tp (y := nI (md_m (md_tlL S r9 x al self d))) (mk_tlL S hr9 x al self d (by omega)).1 ?_
          refine hr_iconst (v := 4) C dX4_tell_123 (by decide) ?_
          refine hr_icmp_le C 133 dX4_tell_124 (by decide) (fun c124 => ?_) (fun c124 => ?_)
          · skip
            have c124 : (md_m (md_tlL S r9 x al self d)) ≤ 4 := (nI_leI (a := (md_m (md_tlL S r9 x al self d))) (b := 4) (by omega) (by omega)).mp c124
            have c124n : ¬ 4 < (md_m (md_tlL S r9 x al self d)) := Nat.not_lt.mpr c124
            exact hr_vret C hr dX4_tell_133 (by have e8 : d = 8 := (by omega); subst e8; unfold md_tell; rw [if_neg (by omega)])
          · skip
            have c124 : ¬ (md_m (md_tlL S r9 x al self d)) ≤ 4 := fun h => c124 ((nI_leI (a := (md_m (md_tlL S r9 x al self d))) (b := 4) (by omega) (by omega)).mpr h)
            have c124n : 4 < (md_m (md_tlL S r9 x al self d)) := Nat.not_le.mp c124
            refine hr_aload_n C dX4_tell_127 rfl 0 rfl ?_
            refine hr_iload_n C dX4_tell_128 rfl 1 rfl ?_
            refine hr_iload_n C dX4_tell_129 rfl 2 rfl ?_
            refine hr_cVv C (ct_X4_post l E (md_tlL S r9 x al self d) o (nI r9) x (MI_tlL hI d) (mk_tlL3 S hr9 x al self (by omega))) (cwV 2 C.1.2.2.2.2 (hr_gV kM_X4_79 kI_X4_post kS_X4_post kN_X4 kC_X4_post) rfl rfl rfl (by decide +kernel) ⟨Nat.le_of_ble_eq_true rfl, Nat.le_of_ble_eq_true rfl⟩) (by decide) rfl rfl rfl (Nat.le_of_ble_eq_true rfl) dX4_tell_130 ⟨Nat.le_of_ble_eq_true rfl, Nat.le_of_ble_eq_true rfl⟩ (fun S29 h30 => ?_) rfl
            refine hr_st (S1 := (md_post (md_tlL S r9 x al self d) (nI r9) x)) h30 ?_
            exact hr_vret C hr dX4_tell_133 (by have e8 : d = 8 := (by omega); subst e8; unfold md_tell; rw [if_pos (by omega)])
        · skip
          have c24 : ¬ 8 ≤ d := fun h => c24 ((nI_leI (a := 8) (b := d) (by omega) (by omega)).mpr h)
          have c24n : d < 8 := Nat.not_le.mp c24
          refine hr_bipush (v := 8) C dX4_tell_27 (by decide) ?_
          refine hr_iload_n C dX4_tell_29 rfl 1 rfl ?_
          refine hr_imul (v := nI (8 * r9)) C dX4_tell_30 (pk_mul 8 r9) ?_
          refine hr_iload C dX4_tell_31 5 rfl ?_
          refine hr_iadd (v := nI ((8 * r9) + d)) C dX4_tell_33 (nI_add (8 * r9) d) ?_
          refine hr_istore C [(6, .int (nI ((8 * r9) + d))), (0, .ref (hr_ad E 14 0)), (1, .int (nI r9)), (2, .int x), (3, .int al), (4, .int self), (5, .int (nI d))] dX4_tell_34 (by decide) rfl ?_
          refine hr_iload C dX4_tell_36 6 rfl ?_
          refine hr_iload_n C dX4_tell_38 rfl 2 rfl ?_
          refine hr_icmp_eq C 113 dX4_tell_39 (by decide) (fun c39 => ?_) (fun c39 => ?_)
          · skip
            have c39 : d = r9 := (nI_eq (a := d) (b := r9) (by omega) (by omega)).mp c39
            refine hr_iinc (v := nI (d + 1)) C [(5, .int (nI (d + 1))), (6, .int (nI ((8 * r9) + d))), (0, .ref (hr_ad E 14 0)), (1, .int (nI r9)), (2, .int x), (3, .int al), (4, .int self)] dX4_tell_113 6 rfl (nI_add d 1) (by decide) rfl ?_
            refine hr_goto C 20 dX4_tell_116 (by decide) ?_
            refine hr_sub [2, 3, 4, 5, 6, 0] rfl ?_
            refine hr_st (S1 := md_tlL S r9 x al self (d + 1)) (by rw [md_tlL, if_neg (fun h => h.1 c39)]) ?_
            exact ih (d + 1)  (by omega) (by omega)
          · skip
            have c39 : ¬ d = r9 := fun h => c39 ((nI_eq (a := d) (b := r9) (by omega) (by omega)).mpr h)
            refine hr_aload_n C dX4_tell_42 rfl 1 rfl ?_
            refine hr_get (k := 14) (i := 0) (fld := 6) C (by decide) rfl rfl (by decide) kU_X4 kF_X4_13 rfl rfl dX4_tell_43 ?_
            refine hr_iload C dX4_tell_46 0 rfl ?_
            refine hr_iald (k := 16) (i := 0) ((8 * r9) + d) C (by decide) rfl rfl (show (8 * r9) + d < 64 by omega) (by decide) dX4_tell_48 ?_
            refine hr_if_le C 113 dX4_tell_49 (by decide) (fun c49 => ?_) (fun c49 => ?_)
            · skip
              have c49n : ¬ 0 < ((md_tlL S r9 x al self d) 16 0 ((8 * r9) + d)) := Int32.not_lt.mpr c49
              refine hr_iinc (v := nI (d + 1)) C [(5, .int (nI (d + 1))), (6, .int (nI ((8 * r9) + d))), (0, .ref (hr_ad E 14 0)), (1, .int (nI r9)), (2, .int x), (3, .int al), (4, .int self)] dX4_tell_113 6 rfl (nI_add d 1) (by decide) rfl ?_
              refine hr_goto C 20 dX4_tell_116 (by decide) ?_
              refine hr_sub [2, 3, 4, 5, 6, 0] rfl ?_
              refine hr_st (S1 := md_tlL S r9 x al self (d + 1)) (by rw [md_tlL, if_neg (fun h => h.2.1 c49)]) ?_
              exact ih (d + 1)  (by omega) (by omega)
            · skip
              have c49n : 0 < ((md_tlL S r9 x al self d) 16 0 ((8 * r9) + d)) := Int32.not_le.mp c49
              refine hr_iload_n C dX4_tell_52 rfl 4 rfl ?_
              refine hr_if_ne C 66 dX4_tell_53 (by decide) (fun c53 => ?_) (fun c53 => ?_)
              · skip
                refine hr_aload_n C dX4_tell_66 rfl 1 rfl ?_
                refine hr_get (k := 14) (i := 0) (fld := 6) C (by decide) rfl rfl (by decide) kU_X4 kF_X4_13 rfl rfl dX4_tell_67 ?_
                refine hr_iload C dX4_tell_70 0 rfl ?_
                refine hr_iald (k := 16) (i := 0) ((8 * r9) + d) C (by decide) rfl rfl (show (8 * r9) + d < 64 by omega) (by decide) dX4_tell_72 ?_
                refine hr_iconst (v := 1) C dX4_tell_73 (by decide) ?_
                refine hr_iadd C dX4_tell_74 rfl ?_
                refine hr_istore C [(7, .int (((md_tlL S r9 x al self d) 16 0 ((8 * r9) + d)) + 1)), (6, .int (nI ((8 * r9) + d))), (0, .ref (hr_ad E 14 0)), (1, .int (nI r9)), (2, .int x), (3, .int al), (4, .int self), (5, .int (nI d))] dX4_tell_75 (by decide) rfl ?_
                refine hr_iload C dX4_tell_77 0 rfl ?_
                refine hr_bipush (v := 16) C dX4_tell_79 (by decide) ?_
                refine hr_icmp_gt C 95 dX4_tell_81 (by decide) (fun c81 => ?_) (fun c81 => ?_)
                · skip
                  have c81n : ¬ (((md_tlL S r9 x al self d) 16 0 ((8 * r9) + d)) + 1) ≤ 16 := Int32.not_le.mpr c81
                  refine hr_bipush (v := 16) C dX4_tell_95 (by decide) ?_
                  refine hr_goto C 102 dX4_tell_97 (by decide) ?_
                  refine hr_istore C [(7, .int 16), (6, .int (nI ((8 * r9) + d))), (0, .ref (hr_ad E 14 0)), (1, .int (nI r9)), (2, .int x), (3, .int al), (4, .int self), (5, .int (nI d))] dX4_tell_102 (by decide) rfl ?_
                  refine hr_aload_n C dX4_tell_104 rfl 2 rfl ?_
                  refine hr_iconst (v := 2) C dX4_tell_105 (by decide) ?_
                  refine hr_iload C dX4_tell_106 7 rfl ?_
                  refine hr_iload C dX4_tell_108 0 rfl ?_
                  refine hr_cVv C (ct_X4_entry l E (md_tlL S r9 x al self d) o 2 (nI d) 16 (md_m (md_tlL S r9 x al self d)) ((mk_tlL S hr9 x al self d (by omega)).1) (mk_tlL2 S hr9 x al self (by omega) c39)) (cwV 3 C.1.2.2.2.2 (hr_gV kM_X4_75 kI_X4_entry kS_X4_entry kN_X4 kC_X4_entry) rfl rfl rfl (by decide +kernel) ⟨Nat.le_of_ble_eq_true rfl, Nat.le_of_ble_eq_true rfl⟩) (by decide) rfl rfl rfl (Nat.le_of_ble_eq_true rfl) dX4_tell_110 ⟨Nat.le_of_ble_eq_true rfl, Nat.le_of_ble_eq_true rfl⟩ (fun S32 h33 => ?_) rfl
                  refine hr_st (S1 := (md_entry (md_tlL S r9 x al self d) (md_m (md_tlL S r9 x al self d)) 2 (nI d) 16)) h33 ?_
                  refine hr_iinc (v := nI (d + 1)) C [(5, .int (nI (d + 1))), (7, .int 16), (6, .int (nI ((8 * r9) + d))), (0, .ref (hr_ad E 14 0)), (1, .int (nI r9)), (2, .int x), (3, .int al), (4, .int self)] dX4_tell_113 7 rfl (nI_add d 1) (by decide) rfl ?_
                  refine hr_goto C 20 dX4_tell_116 (by decide) ?_
                  refine hr_sub [3, 4, 5, 6, 7, 0] rfl ?_
                  refine hr_st (S1 := md_tlL S r9 x al self (d + 1)) (by rw [md_tlL, if_pos ⟨c39, c49, Or.inl c53⟩]; unfold md_told; rw [if_pos c81]) ?_
                  exact ih (d + 1)  (by omega) (by omega)
                · skip
                  have c81n : (((md_tlL S r9 x al self d) 16 0 ((8 * r9) + d)) + 1) ≤ 16 := Int32.not_lt.mp c81
                  refine hr_aload_n C dX4_tell_84 rfl 2 rfl ?_
                  refine hr_get (k := 14) (i := 0) (fld := 7) C (by decide) rfl rfl (by decide) kU_X4 kF_X4_17 rfl rfl dX4_tell_85 ?_
                  refine hr_iload C dX4_tell_88 1 rfl ?_
                  refine hr_iald (k := 17) (i := 0) ((8 * r9) + d) C (by decide) rfl rfl (show (8 * r9) + d < 64 by omega) (by decide) dX4_tell_90 ?_
                  refine hr_iload_n C dX4_tell_91 rfl 4 rfl ?_
                  refine hr_icmp_ne C 100 dX4_tell_92 (by decide) (fun c92 => ?_) (fun c92 => ?_)
                  · skip
                    refine hr_iload C dX4_tell_100 0 rfl ?_
                    refine hr_istore C [(7, .int (((md_tlL S r9 x al self d) 16 0 ((8 * r9) + d)) + 1)), (6, .int (nI ((8 * r9) + d))), (0, .ref (hr_ad E 14 0)), (1, .int (nI r9)), (2, .int x), (3, .int al), (4, .int self), (5, .int (nI d))] dX4_tell_102 (by decide) rfl ?_
                    refine hr_aload_n C dX4_tell_104 rfl 2 rfl ?_
                    refine hr_iconst (v := 2) C dX4_tell_105 (by decide) ?_
                    refine hr_iload C dX4_tell_106 7 rfl ?_
                    refine hr_iload C dX4_tell_108 0 rfl ?_
                    refine hr_cVv C (ct_X4_entry l E (md_tlL S r9 x al self d) o 2 (nI d) (((md_tlL S r9 x al self d) 16 0 ((8 * r9) + d)) + 1) (md_m (md_tlL S r9 x al self d)) ((mk_tlL S hr9 x al self d (by omega)).1) (mk_tlL2 S hr9 x al self (by omega) c39)) (cwV 3 C.1.2.2.2.2 (hr_gV kM_X4_75 kI_X4_entry kS_X4_entry kN_X4 kC_X4_entry) rfl rfl rfl (by decide +kernel) ⟨Nat.le_of_ble_eq_true rfl, Nat.le_of_ble_eq_true rfl⟩) (by decide) rfl rfl rfl (Nat.le_of_ble_eq_true rfl) dX4_tell_110 ⟨Nat.le_of_ble_eq_true rfl, Nat.le_of_ble_eq_true rfl⟩ (fun S35 h36 => ?_) rfl
                    refine hr_st (S1 := (md_entry (md_tlL S r9 x al self d) (md_m (md_tlL S r9 x al self d)) 2 (nI d) (((md_tlL S r9 x al self d) 16 0 ((8 * r9) + d)) + 1))) h36 ?_
                    refine hr_iinc (v := nI (d + 1)) C [(5, .int (nI (d + 1))), (7, .int (((md_tlL S r9 x al self d) 16 0 ((8 * r9) + d)) + 1)), (6, .int (nI ((8 * r9) + d))), (0, .ref (hr_ad E 14 0)), (1, .int (nI r9)), (2, .int x), (3, .int al), (4, .int self)] dX4_tell_113 7 rfl (nI_add d 1) (by decide) rfl ?_
                    refine hr_goto C 20 dX4_tell_116 (by decide) ?_
                    refine hr_sub [3, 4, 5, 6, 7, 0] rfl ?_
                    refine hr_st (S1 := md_tlL S r9 x al self (d + 1)) (by rw [md_tlL, if_pos ⟨c39, c49, Or.inl c53⟩]; unfold md_told; rw [if_neg c81, if_neg c92]) ?_
                    exact ih (d + 1)  (by omega) (by omega)
                  · skip
                    refine hr_bipush (v := 16) C dX4_tell_95 (by decide) ?_
                    refine hr_goto C 102 dX4_tell_97 (by decide) ?_
                    refine hr_istore C [(7, .int 16), (6, .int (nI ((8 * r9) + d))), (0, .ref (hr_ad E 14 0)), (1, .int (nI r9)), (2, .int x), (3, .int al), (4, .int self), (5, .int (nI d))] dX4_tell_102 (by decide) rfl ?_
                    refine hr_aload_n C dX4_tell_104 rfl 2 rfl ?_
                    refine hr_iconst (v := 2) C dX4_tell_105 (by decide) ?_
                    refine hr_iload C dX4_tell_106 7 rfl ?_
                    refine hr_iload C dX4_tell_108 0 rfl ?_
                    refine hr_cVv C (ct_X4_entry l E (md_tlL S r9 x al self d) o 2 (nI d) 16 (md_m (md_tlL S r9 x al self d)) ((mk_tlL S hr9 x al self d (by omega)).1) (mk_tlL2 S hr9 x al self (by omega) c39)) (cwV 3 C.1.2.2.2.2 (hr_gV kM_X4_75 kI_X4_entry kS_X4_entry kN_X4 kC_X4_entry) rfl rfl rfl (by decide +kernel) ⟨Nat.le_of_ble_eq_true rfl, Nat.le_of_ble_eq_true rfl⟩) (by decide) rfl rfl rfl (Nat.le_of_ble_eq_true rfl) dX4_tell_110 ⟨Nat.le_of_ble_eq_true rfl, Nat.le_of_ble_eq_true rfl⟩ (fun S38 h39 => ?_) rfl
                    refine hr_st (S1 := (md_entry (md_tlL S r9 x al self d) (md_m (md_tlL S r9 x al self d)) 2 (nI d) 16)) h39 ?_
                    refine hr_iinc (v := nI (d + 1)) C [(5, .int (nI (d + 1))), (7, .int 16), (6, .int (nI ((8 * r9) + d))), (0, .ref (hr_ad E 14 0)), (1, .int (nI r9)), (2, .int x), (3, .int al), (4, .int self)] dX4_tell_113 7 rfl (nI_add d 1) (by decide) rfl ?_
                    refine hr_goto C 20 dX4_tell_116 (by decide) ?_
                    refine hr_sub [3, 4, 5, 6, 7, 0] rfl ?_
                    refine hr_st (S1 := md_tlL S r9 x al self (d + 1)) (by rw [md_tlL, if_pos ⟨c39, c49, Or.inl c53⟩]; unfold md_told; rw [if_neg c81, if_pos c92]) ?_
                    exact ih (d + 1)  (by omega) (by omega)
              · skip
                refine hr_aload_n C dX4_tell_56 rfl 1 rfl ?_
                refine hr_get (k := 14) (i := 0) (fld := 9) C (by decide) rfl rfl (by decide) kU_X4 kF_X4_23 rfl rfl dX4_tell_57 ?_
                refine hr_iload C dX4_tell_60 0 rfl ?_
                refine hr_zald (k := 19) (i := 0) ((8 * r9) + d) C (by decide) rfl rfl (show (8 * r9) + d < 64 by omega) (by decide) dX4_tell_62 ?_
                refine hr_if_eq C 113 dX4_tell_63 (by decide) (fun c63 => ?_) (fun c63 => ?_)
                · skip
                  refine hr_iinc (v := nI (d + 1)) C [(5, .int (nI (d + 1))), (6, .int (nI ((8 * r9) + d))), (0, .ref (hr_ad E 14 0)), (1, .int (nI r9)), (2, .int x), (3, .int al), (4, .int self)] dX4_tell_113 6 rfl (nI_add d 1) (by decide) rfl ?_
                  refine hr_goto C 20 dX4_tell_116 (by decide) ?_
                  refine hr_sub [2, 3, 4, 5, 6, 0] rfl ?_
                  refine hr_st (S1 := md_tlL S r9 x al self (d + 1)) (by rw [md_tlL, if_neg (fun h => h.2.2.elim (fun z => z c53) (fun z => z c63))]) ?_
                  exact ih (d + 1)  (by omega) (by omega)
                · skip
                  refine hr_aload_n C dX4_tell_66 rfl 1 rfl ?_
                  refine hr_get (k := 14) (i := 0) (fld := 6) C (by decide) rfl rfl (by decide) kU_X4 kF_X4_13 rfl rfl dX4_tell_67 ?_
                  refine hr_iload C dX4_tell_70 0 rfl ?_
                  refine hr_iald (k := 16) (i := 0) ((8 * r9) + d) C (by decide) rfl rfl (show (8 * r9) + d < 64 by omega) (by decide) dX4_tell_72 ?_
                  refine hr_iconst (v := 1) C dX4_tell_73 (by decide) ?_
                  refine hr_iadd C dX4_tell_74 rfl ?_
                  refine hr_istore C [(7, .int (((md_tlL S r9 x al self d) 16 0 ((8 * r9) + d)) + 1)), (6, .int (nI ((8 * r9) + d))), (0, .ref (hr_ad E 14 0)), (1, .int (nI r9)), (2, .int x), (3, .int al), (4, .int self), (5, .int (nI d))] dX4_tell_75 (by decide) rfl ?_
                  refine hr_iload C dX4_tell_77 0 rfl ?_
                  refine hr_bipush (v := 16) C dX4_tell_79 (by decide) ?_
                  refine hr_icmp_gt C 95 dX4_tell_81 (by decide) (fun c81 => ?_) (fun c81 => ?_)
                  · skip
                    have c81n : ¬ (((md_tlL S r9 x al self d) 16 0 ((8 * r9) + d)) + 1) ≤ 16 := Int32.not_le.mpr c81
                    refine hr_bipush (v := 16) C dX4_tell_95 (by decide) ?_
                    refine hr_goto C 102 dX4_tell_97 (by decide) ?_
                    refine hr_istore C [(7, .int 16), (6, .int (nI ((8 * r9) + d))), (0, .ref (hr_ad E 14 0)), (1, .int (nI r9)), (2, .int x), (3, .int al), (4, .int self), (5, .int (nI d))] dX4_tell_102 (by decide) rfl ?_
                    refine hr_aload_n C dX4_tell_104 rfl 2 rfl ?_
                    refine hr_iconst (v := 2) C dX4_tell_105 (by decide) ?_
                    refine hr_iload C dX4_tell_106 7 rfl ?_
                    refine hr_iload C dX4_tell_108 0 rfl ?_
                    refine hr_cVv C (ct_X4_entry l E (md_tlL S r9 x al self d) o 2 (nI d) 16 (md_m (md_tlL S r9 x al self d)) ((mk_tlL S hr9 x al self d (by omega)).1) (mk_tlL2 S hr9 x al self (by omega) c39)) (cwV 3 C.1.2.2.2.2 (hr_gV kM_X4_75 kI_X4_entry kS_X4_entry kN_X4 kC_X4_entry) rfl rfl rfl (by decide +kernel) ⟨Nat.le_of_ble_eq_true rfl, Nat.le_of_ble_eq_true rfl⟩) (by decide) rfl rfl rfl (Nat.le_of_ble_eq_true rfl) dX4_tell_110 ⟨Nat.le_of_ble_eq_true rfl, Nat.le_of_ble_eq_true rfl⟩ (fun S41 h42 => ?_) rfl
                    refine hr_st (S1 := (md_entry (md_tlL S r9 x al self d) (md_m (md_tlL S r9 x al self d)) 2 (nI d) 16)) h42 ?_
                    refine hr_iinc (v := nI (d + 1)) C [(5, .int (nI (d + 1))), (7, .int 16), (6, .int (nI ((8 * r9) + d))), (0, .ref (hr_ad E 14 0)), (1, .int (nI r9)), (2, .int x), (3, .int al), (4, .int self)] dX4_tell_113 7 rfl (nI_add d 1) (by decide) rfl ?_
                    refine hr_goto C 20 dX4_tell_116 (by decide) ?_
                    refine hr_sub [3, 4, 5, 6, 7, 0] rfl ?_
                    refine hr_st (S1 := md_tlL S r9 x al self (d + 1)) (by rw [md_tlL, if_pos ⟨c39, c49, Or.inr c63⟩]; unfold md_told; rw [if_pos c81]) ?_
                    exact ih (d + 1)  (by omega) (by omega)
                  · skip
                    have c81n : (((md_tlL S r9 x al self d) 16 0 ((8 * r9) + d)) + 1) ≤ 16 := Int32.not_lt.mp c81
                    refine hr_aload_n C dX4_tell_84 rfl 2 rfl ?_
                    refine hr_get (k := 14) (i := 0) (fld := 7) C (by decide) rfl rfl (by decide) kU_X4 kF_X4_17 rfl rfl dX4_tell_85 ?_
                    refine hr_iload C dX4_tell_88 1 rfl ?_
                    refine hr_iald (k := 17) (i := 0) ((8 * r9) + d) C (by decide) rfl rfl (show (8 * r9) + d < 64 by omega) (by decide) dX4_tell_90 ?_
                    refine hr_iload_n C dX4_tell_91 rfl 4 rfl ?_
                    refine hr_icmp_ne C 100 dX4_tell_92 (by decide) (fun c92 => ?_) (fun c92 => ?_)
                    · skip
                      refine hr_iload C dX4_tell_100 0 rfl ?_
                      refine hr_istore C [(7, .int (((md_tlL S r9 x al self d) 16 0 ((8 * r9) + d)) + 1)), (6, .int (nI ((8 * r9) + d))), (0, .ref (hr_ad E 14 0)), (1, .int (nI r9)), (2, .int x), (3, .int al), (4, .int self), (5, .int (nI d))] dX4_tell_102 (by decide) rfl ?_
                      refine hr_aload_n C dX4_tell_104 rfl 2 rfl ?_
                      refine hr_iconst (v := 2) C dX4_tell_105 (by decide) ?_
                      refine hr_iload C dX4_tell_106 7 rfl ?_
                      refine hr_iload C dX4_tell_108 0 rfl ?_
                      refine hr_cVv C (ct_X4_entry l E (md_tlL S r9 x al self d) o 2 (nI d) (((md_tlL S r9 x al self d) 16 0 ((8 * r9) + d)) + 1) (md_m (md_tlL S r9 x al self d)) ((mk_tlL S hr9 x al self d (by omega)).1) (mk_tlL2 S hr9 x al self (by omega) c39)) (cwV 3 C.1.2.2.2.2 (hr_gV kM_X4_75 kI_X4_entry kS_X4_entry kN_X4 kC_X4_entry) rfl rfl rfl (by decide +kernel) ⟨Nat.le_of_ble_eq_true rfl, Nat.le_of_ble_eq_true rfl⟩) (by decide) rfl rfl rfl (Nat.le_of_ble_eq_true rfl) dX4_tell_110 ⟨Nat.le_of_ble_eq_true rfl, Nat.le_of_ble_eq_true rfl⟩ (fun S44 h45 => ?_) rfl
                      refine hr_st (S1 := (md_entry (md_tlL S r9 x al self d) (md_m (md_tlL S r9 x al self d)) 2 (nI d) (((md_tlL S r9 x al self d) 16 0 ((8 * r9) + d)) + 1))) h45 ?_
                      refine hr_iinc (v := nI (d + 1)) C [(5, .int (nI (d + 1))), (7, .int (((md_tlL S r9 x al self d) 16 0 ((8 * r9) + d)) + 1)), (6, .int (nI ((8 * r9) + d))), (0, .ref (hr_ad E 14 0)), (1, .int (nI r9)), (2, .int x), (3, .int al), (4, .int self)] dX4_tell_113 7 rfl (nI_add d 1) (by decide) rfl ?_
                      refine hr_goto C 20 dX4_tell_116 (by decide) ?_
                      refine hr_sub [3, 4, 5, 6, 7, 0] rfl ?_
                      refine hr_st (S1 := md_tlL S r9 x al self (d + 1)) (by rw [md_tlL, if_pos ⟨c39, c49, Or.inr c63⟩]; unfold md_told; rw [if_neg c81, if_neg c92]) ?_
                      exact ih (d + 1)  (by omega) (by omega)
                    · skip
                      refine hr_bipush (v := 16) C dX4_tell_95 (by decide) ?_
                      refine hr_goto C 102 dX4_tell_97 (by decide) ?_
                      refine hr_istore C [(7, .int 16), (6, .int (nI ((8 * r9) + d))), (0, .ref (hr_ad E 14 0)), (1, .int (nI r9)), (2, .int x), (3, .int al), (4, .int self), (5, .int (nI d))] dX4_tell_102 (by decide) rfl ?_
                      refine hr_aload_n C dX4_tell_104 rfl 2 rfl ?_
                      refine hr_iconst (v := 2) C dX4_tell_105 (by decide) ?_
                      refine hr_iload C dX4_tell_106 7 rfl ?_
                      refine hr_iload C dX4_tell_108 0 rfl ?_
                      refine hr_cVv C (ct_X4_entry l E (md_tlL S r9 x al self d) o 2 (nI d) 16 (md_m (md_tlL S r9 x al self d)) ((mk_tlL S hr9 x al self d (by omega)).1) (mk_tlL2 S hr9 x al self (by omega) c39)) (cwV 3 C.1.2.2.2.2 (hr_gV kM_X4_75 kI_X4_entry kS_X4_entry kN_X4 kC_X4_entry) rfl rfl rfl (by decide +kernel) ⟨Nat.le_of_ble_eq_true rfl, Nat.le_of_ble_eq_true rfl⟩) (by decide) rfl rfl rfl (Nat.le_of_ble_eq_true rfl) dX4_tell_110 ⟨Nat.le_of_ble_eq_true rfl, Nat.le_of_ble_eq_true rfl⟩ (fun S47 h48 => ?_) rfl
                      refine hr_st (S1 := (md_entry (md_tlL S r9 x al self d) (md_m (md_tlL S r9 x al self d)) 2 (nI d) 16)) h48 ?_
                      refine hr_iinc (v := nI (d + 1)) C [(5, .int (nI (d + 1))), (7, .int 16), (6, .int (nI ((8 * r9) + d))), (0, .ref (hr_ad E 14 0)), (1, .int (nI r9)), (2, .int x), (3, .int al), (4, .int self)] dX4_tell_113 7 rfl (nI_add d 1) (by decide) rfl ?_
                      refine hr_goto C 20 dX4_tell_116 (by decide) ?_
                      refine hr_sub [3, 4, 5, 6, 7, 0] rfl ?_
                      refine hr_st (S1 := md_tlL S r9 x al self (d + 1)) (by rw [md_tlL, if_pos ⟨c39, c49, Or.inr c63⟩]; unfold md_told; rw [if_neg c81, if_pos c92]) ?_
                      exact ih (d + 1)  (by omega) (by omega)
    refine hr_sub [1, 2, 3, 4, 5, 0] rfl ?_
    refine hr_st (S1 := md_tlL S r9 x al self 0) (by unfold md_tlL md_tl1; rw [if_neg c7]) ?_
    exact LP20 (8 + 1) 0  (by omega) (by omega)
