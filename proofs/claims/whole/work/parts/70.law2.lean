theorem lg_cmp_rf (x : Int64) : lg_cmp x x = 0 := by unfold lg_cmp; simp
section HL2
variable {p : Program} {l : Launch} {e : Env} {R : Room} {s : State} {m : MethodId} {args : Array Value} {below : List Frame} {meth : Method} {c : Code} {Q : State → Prop} {E : hr_E} {nL cells slots pc : Nat} {S : hr_S} {o : Int64} {lv : List (Nat × Value)} {st : List Value} {cc : ByteArray} {own : String} {c0 : Cond}
variable {y : MethodName} {bytes : ByteArray} {maxL n index mc0 ms0 : Nat} {ret : Option FieldType} {ws : List Cond} {rm : Room} {As : List Value} {hh : List (Nat × Nat × Nat × Nat)}
theorem hr_lS {post : Int32 → hr_S × Int64 → Prop} (C : hr_C p s m args meth c cc own c0 nL E) (hM : hr_Li l E y ws rm As S o post mc0 ms0) (cw : vx_CSW R s args own index y bytes maxL ret hh ws rm mc0 ms0 n)
    (hn : As.length = n) (hst : (st.map fun v => v.category).sum ≤ 8) (d : decode cc pc = .ok (.invokestatic index, 3)) (hR : cells + mc0 ≤ R.cells ∧ slots + ms0 ≤ R.slots) (K : ∀ (r : Int32) (u : hr_S × Int64), post r u → hr_G p l e R s m args below meth c Q E nL (cells + mc0) (slots + ms0) u.1 u.2 lv (pc + 3) (.int r :: st)) :
    ∀ {st0 : List Value}, st0 = As.reverse ++ st → hr_G p l e R s m args below meth c Q E nL cells slots S o lv pc st0 := fun h0 H locs ls hP hS hl => by
  subst h0
  exact va_calli (vx_runSW (As := As) (rest := st) C.1 hM cw ⟨hr_blind E S o _, hr_pre C hP hS _⟩ rfl hn hl.1 rfl (lv_room hst) d hR) hS (fun q _ h => h) (fun q h => h) (fun r u t H1 locs1 ht hvm hw hB hz hk1 hS1 => K r u hw H1 locs1 ls (by rw [← ht]; exact hB) hS1 hl)
end HL2
set_option maxHeartbeats 4000000 in
set_option maxRecDepth 100000 in
theorem lc_link {p : Program} {l : Launch} {e : Env} {s : State} {m : MethodId} {below : List Frame} {meth : Method} {c : Code} {Q : State → Prop} {E : hr_E} {cells slots b L : Nat} {xs : Nat → Int32} {c0 : Cond} (htr : l.stackTraces = false) (C : hr_C p s m #[Value.ref b] meth c cL_law RL c0 7 E) (hX : va_X b L xs s s.heap) (hbl : b < s.heap.size) (hbA : ¬ hr_A E b) (hL : L ≤ 2048) (t : Nat) (S : hr_S) (o : Int64) (hR : hr_R S) (ht : 4 * t + 4 ≤ L) (hcl : cells + 4 ≤ 601024) (hsl : slots + 24 ≤ 7293034)
  (K : ∀ (S2 : hr_S) (o2 : Int64), hr_R S2 → hr_G p l e room_1 s m #[Value.ref b] below meth c Q E 7 (cells + 4) (slots + 24) S2 o2 [(4, .int (nI (4 * t))), (0, .ref b), (1, .ref (hr_ad E 0 0)), (2, .ref (hr_ad E 14 0)), (3, .ref (hr_ad E 27 0))] 1074 []) : hr_G p l e room_1 s m #[Value.ref b] below meth c Q E 7 cells slots S o [(4, .int (nI (4 * t))), (0, .ref b), (1, .ref (hr_ad E 0 0)), (2, .ref (hr_ad E 14 0)), (3, .ref (hr_ad E 27 0))] 108 [] := by
  refine hr_aload_n C dL_law_108 rfl 2 rfl ?_
  refine hr_aload_n C dL_law_109 rfl 1 rfl ?_
  refine hr_iload C dL_law_110 0 rfl ?_
  refine hr_iconst (v := 1) C dL_law_112 (by decide) ?_
  refine hr_iadd (v := nI (4 * t + 1)) C dL_law_113 (nI_add (4 * t) 1) ?_
  refine hr_sld (4 * t + 1) C hX hbl hbA rfl (by omega) (by omega) dL_law_114 ?_
  refine hr_aload_n C dL_law_115 rfl 1 rfl ?_
  refine hr_iload C dL_law_116 0 rfl ?_
  refine hr_iconst (v := 2) C dL_law_118 (by decide) ?_
  refine hr_iadd (v := nI (4 * t + 2)) C dL_law_119 (nI_add (4 * t) 2) ?_
  refine hr_sld (4 * t + 2) C hX hbl hbA rfl (by omega) (by omega) dL_law_120 ?_
  refine hr_aload_n C dL_law_121 rfl 1 rfl ?_
  refine hr_iload C dL_law_122 0 rfl ?_
  refine hr_iconst (v := 3) C dL_law_124 (by decide) ?_
  refine hr_iadd (v := nI (4 * t + 3)) C dL_law_125 (nI_add (4 * t) 3) ?_
  refine hr_sld (4 * t + 3) C hX hbl hbA rfl (by omega) (by omega) dL_law_126 ?_
  refine hr_if_eq C 134 dL_law_127 (by decide) (fun c127 => ?_) (fun c127 => ?_)
  · skip
    refine hr_iconst (v := 0) C dL_law_134 (by decide) ?_
    refine hr_aload_n C dL_law_135 rfl 4 rfl ?_
    refine hr_lS (As := [.ref (hr_ad E 0 0), .int (xs (4 * t + 1)), .int (xs (4 * t + 2)), .int (0), .ref (hr_ad E 27 0)]) (st := []) C (ct_L_link l htr E S o (xs (4 * t + 1)) (xs (4 * t + 2)) (0) hR.1.1) (vx_cwSW 5 C.1.2.2.2.2 (hr_gT kM_L_68 kT_L_link kN_L kC_L_link) rfl rfl rfl (by decide +kernel) ⟨(Nat.le_of_ble_eq_true rfl), (Nat.le_of_ble_eq_true rfl)⟩) rfl (Nat.le_of_ble_eq_true rfl) dL_law_136 ⟨show _ ≤ 601024 by omega, show _ ≤ 7293034 by omega⟩ (fun r1 u1 h1 => ?_) rfl
    refine hr_istore C [(5, .int (r1)), (4, .int (nI (4 * t))), (0, .ref b), (1, .ref (hr_ad E 0 0)), (2, .ref (hr_ad E 14 0)), (3, .ref (hr_ad E 27 0))] dL_law_139 (by decide) rfl ?_
    refine hr_aload_n C dL_law_141 rfl 4 rfl ?_
    refine hr_aload_n C dL_law_142 rfl 2 rfl ?_
    refine hr_iload C dL_law_143 1 rfl ?_
    refine hr_iconst (v := 1) C dL_law_145 (by decide) ?_
    refine hr_iadd (v := nI (4 * t + 1)) C dL_law_146 (nI_add (4 * t) 1) ?_
    refine hr_sld (4 * t + 1) C hX hbl hbA rfl (by omega) (by omega) dL_law_147 ?_
    refine hr_aload_n C dL_law_148 rfl 2 rfl ?_
    refine hr_iload C dL_law_149 1 rfl ?_
    refine hr_iconst (v := 2) C dL_law_151 (by decide) ?_
    refine hr_iadd (v := nI (4 * t + 2)) C dL_law_152 (nI_add (4 * t) 2) ?_
    refine hr_sld (4 * t + 2) C hX hbl hbA rfl (by omega) (by omega) dL_law_153 ?_
    refine hr_aload_n C dL_law_154 rfl 2 rfl ?_
    refine hr_iload C dL_law_155 1 rfl ?_
    refine hr_iconst (v := 3) C dL_law_157 (by decide) ?_
    refine hr_iadd (v := nI (4 * t + 3)) C dL_law_158 (nI_add (4 * t) 3) ?_
    refine hr_sld (4 * t + 3) C hX hbl hbA rfl (by omega) (by omega) dL_law_159 ?_
    refine hr_if_eq C 167 dL_law_160 (by decide) (fun c160 => ?_) (fun c160 => ?_)
    · skip
      refine hr_iconst (v := 0) C dL_law_167 (by decide) ?_
      refine hr_cVi (As := [.int (xs (4 * t + 1)), .int (xs (4 * t + 2)), .int (0)]) (st := []) C (ct_X4_link l E u1.1 u1.2 (xs (4 * t + 1)) (xs (4 * t + 2)) (0)) (cwV 3 C.1.2.2.2.2 (hr_gV kM_L_73 kI_X4_link kS_X4_link kN_X4 kC_X4_link) rfl rfl rfl (by decide +kernel) ⟨(Nat.le_of_ble_eq_true rfl), (Nat.le_of_ble_eq_true rfl)⟩) (by decide) rfl rfl rfl (Nat.le_of_ble_eq_true rfl) dL_law_168 ⟨show _ ≤ 601024 by omega, show _ ≤ 7293034 by omega⟩ (fun r2 u2 h2 => ?_) rfl
      have hP := pu_link hR (xs (4 * t + 1)) (xs (4 * t + 2)) (0) (Or.inl rfl) h1 h2
      refine hr_istore C [(6, .int (r2)), (5, .int (r1)), (4, .int (nI (4 * t))), (0, .ref b), (1, .ref (hr_ad E 0 0)), (2, .ref (hr_ad E 14 0)), (3, .ref (hr_ad E 27 0))] dL_law_171 (by decide) rfl ?_
      refine hr_aload_n C dL_law_173 rfl 5 rfl ?_
      refine hr_cVi (As := []) (st := []) C (ct_X4_thrown l E u2 u1.2) (cwV 0 C.1.2.2.2.2 (hr_gV kM_L_74 kI_X4_thrown kS_X4_thrown kN_X4 kC_X4_thrown) rfl rfl rfl (by decide +kernel) ⟨(Nat.le_of_ble_eq_true rfl), (Nat.le_of_ble_eq_true rfl)⟩) (by decide) rfl rfl rfl (Nat.le_of_ble_eq_true rfl) dL_law_174 ⟨show _ ≤ 601024 by omega, show _ ≤ 7293034 by omega⟩ (fun r3 S3 h3 => ?_) rfl
      refine hr_tp (y := u2 14 0 0) h3.1 ?_
      refine hr_st (S1 := u2) h3.2 ?_
      refine hr_iload C dL_law_177 1 rfl ?_
      refine hr_icmp_eq C 184 dL_law_179 (by decide) (fun c179 => ?_) (fun c179 => ?_)
      · skip
        refine hr_iload C dL_law_184 1 rfl ?_
        refine hr_if_ne C 208 dL_law_186 (by decide) (fun c186 => ?_) (fun c186 => ?_)
        · skip
          refine hr_goto C 1074 dL_law_208 (by decide) ?_
          refine hr_sub [2, 3, 4, 5, 6] rfl ?_
          refine hr_wd (k := cells + 4) (n := slots + 24) (by omega) (by omega) ?_
          exact K _ _ hP.1
        · skip
          refine hr_aload_n C dL_law_189 rfl 6 rfl ?_
          refine hr_iconst (v := 0) C dL_law_190 (by decide) ?_
          refine hr_lald C dL_law_191 ?_
          refine hr_iload C dL_law_192 0 rfl ?_
          refine hr_if_eq C 201 dL_law_194 (by decide) (fun c194 => ?_) (fun c194 => ?_)
          · skip
            refine hr_lconst (v := 0) C dL_law_201 (by decide) ?_
            refine hr_lcmp (v := 0) C dL_law_202 (by rw [hP.2.2 c186, show hl_z r2 = 0 from if_pos c194]; exact lg_cmp_rf _) ?_
            refine hr_if_eq C 208 dL_law_203 (by decide) (fun c203 => ?_) (fun c203 => ?_)
            · skip
              refine hr_goto C 1074 dL_law_208 (by decide) ?_
              refine hr_sub [2, 3, 4, 5, 6] rfl ?_
              refine hr_wd (k := cells + 4) (n := slots + 24) (by omega) (by omega) ?_
              exact K _ _ hP.1
            · skip
              exact absurd rfl c203
          · skip
            refine hr_lconst (v := 1) C dL_law_197 (by decide) ?_
            refine hr_goto C 202 dL_law_198 (by decide) ?_
            refine hr_lcmp (v := 0) C dL_law_202 (by rw [hP.2.2 c186, show hl_z r2 = 1 from if_neg c194]; exact lg_cmp_rf _) ?_
            refine hr_if_eq C 208 dL_law_203 (by decide) (fun c203 => ?_) (fun c203 => ?_)
            · skip
              refine hr_goto C 1074 dL_law_208 (by decide) ?_
              refine hr_sub [2, 3, 4, 5, 6] rfl ?_
              refine hr_wd (k := cells + 4) (n := slots + 24) (by omega) (by omega) ?_
              exact K _ _ hP.1
            · skip
              exact absurd rfl c203
      · exact absurd hP.2.1 c179
    · skip
      exact absurd c127 c160
  · skip
    refine hr_iconst (v := 1) C dL_law_130 (by decide) ?_
    refine hr_goto C 135 dL_law_131 (by decide) ?_
    refine hr_aload_n C dL_law_135 rfl 4 rfl ?_
    refine hr_lS (As := [.ref (hr_ad E 0 0), .int (xs (4 * t + 1)), .int (xs (4 * t + 2)), .int (1), .ref (hr_ad E 27 0)]) (st := []) C (ct_L_link l htr E S o (xs (4 * t + 1)) (xs (4 * t + 2)) (1) hR.1.1) (vx_cwSW 5 C.1.2.2.2.2 (hr_gT kM_L_68 kT_L_link kN_L kC_L_link) rfl rfl rfl (by decide +kernel) ⟨(Nat.le_of_ble_eq_true rfl), (Nat.le_of_ble_eq_true rfl)⟩) rfl (Nat.le_of_ble_eq_true rfl) dL_law_136 ⟨show _ ≤ 601024 by omega, show _ ≤ 7293034 by omega⟩ (fun r1 u1 h1 => ?_) rfl
    refine hr_istore C [(5, .int (r1)), (4, .int (nI (4 * t))), (0, .ref b), (1, .ref (hr_ad E 0 0)), (2, .ref (hr_ad E 14 0)), (3, .ref (hr_ad E 27 0))] dL_law_139 (by decide) rfl ?_
    refine hr_aload_n C dL_law_141 rfl 4 rfl ?_
    refine hr_aload_n C dL_law_142 rfl 2 rfl ?_
    refine hr_iload C dL_law_143 1 rfl ?_
    refine hr_iconst (v := 1) C dL_law_145 (by decide) ?_
    refine hr_iadd (v := nI (4 * t + 1)) C dL_law_146 (nI_add (4 * t) 1) ?_
    refine hr_sld (4 * t + 1) C hX hbl hbA rfl (by omega) (by omega) dL_law_147 ?_
    refine hr_aload_n C dL_law_148 rfl 2 rfl ?_
    refine hr_iload C dL_law_149 1 rfl ?_
    refine hr_iconst (v := 2) C dL_law_151 (by decide) ?_
    refine hr_iadd (v := nI (4 * t + 2)) C dL_law_152 (nI_add (4 * t) 2) ?_
    refine hr_sld (4 * t + 2) C hX hbl hbA rfl (by omega) (by omega) dL_law_153 ?_
    refine hr_aload_n C dL_law_154 rfl 2 rfl ?_
    refine hr_iload C dL_law_155 1 rfl ?_
    refine hr_iconst (v := 3) C dL_law_157 (by decide) ?_
    refine hr_iadd (v := nI (4 * t + 3)) C dL_law_158 (nI_add (4 * t) 3) ?_
    refine hr_sld (4 * t + 3) C hX hbl hbA rfl (by omega) (by omega) dL_law_159 ?_
    refine hr_if_eq C 167 dL_law_160 (by decide) (fun c160 => ?_) (fun c160 => ?_)
    · skip
      exact absurd c160 c127
    · skip
      refine hr_iconst (v := 1) C dL_law_163 (by decide) ?_
      refine hr_goto C 168 dL_law_164 (by decide) ?_
      refine hr_cVi (As := [.int (xs (4 * t + 1)), .int (xs (4 * t + 2)), .int (1)]) (st := []) C (ct_X4_link l E u1.1 u1.2 (xs (4 * t + 1)) (xs (4 * t + 2)) (1)) (cwV 3 C.1.2.2.2.2 (hr_gV kM_L_73 kI_X4_link kS_X4_link kN_X4 kC_X4_link) rfl rfl rfl (by decide +kernel) ⟨(Nat.le_of_ble_eq_true rfl), (Nat.le_of_ble_eq_true rfl)⟩) (by decide) rfl rfl rfl (Nat.le_of_ble_eq_true rfl) dL_law_168 ⟨show _ ≤ 601024 by omega, show _ ≤ 7293034 by omega⟩ (fun r2 u2 h2 => ?_) rfl
      have hP := pu_link hR (xs (4 * t + 1)) (xs (4 * t + 2)) (1) (Or.inr rfl) h1 h2
      refine hr_istore C [(6, .int (r2)), (5, .int (r1)), (4, .int (nI (4 * t))), (0, .ref b), (1, .ref (hr_ad E 0 0)), (2, .ref (hr_ad E 14 0)), (3, .ref (hr_ad E 27 0))] dL_law_171 (by decide) rfl ?_
      refine hr_aload_n C dL_law_173 rfl 5 rfl ?_
      refine hr_cVi (As := []) (st := []) C (ct_X4_thrown l E u2 u1.2) (cwV 0 C.1.2.2.2.2 (hr_gV kM_L_74 kI_X4_thrown kS_X4_thrown kN_X4 kC_X4_thrown) rfl rfl rfl (by decide +kernel) ⟨(Nat.le_of_ble_eq_true rfl), (Nat.le_of_ble_eq_true rfl)⟩) (by decide) rfl rfl rfl (Nat.le_of_ble_eq_true rfl) dL_law_174 ⟨show _ ≤ 601024 by omega, show _ ≤ 7293034 by omega⟩ (fun r3 S3 h3 => ?_) rfl
      refine hr_tp (y := u2 14 0 0) h3.1 ?_
      refine hr_st (S1 := u2) h3.2 ?_
      refine hr_iload C dL_law_177 1 rfl ?_
      refine hr_icmp_eq C 184 dL_law_179 (by decide) (fun c179 => ?_) (fun c179 => ?_)
      · skip
        refine hr_iload C dL_law_184 1 rfl ?_
        refine hr_if_ne C 208 dL_law_186 (by decide) (fun c186 => ?_) (fun c186 => ?_)
        · skip
          refine hr_goto C 1074 dL_law_208 (by decide) ?_
          refine hr_sub [2, 3, 4, 5, 6] rfl ?_
          refine hr_wd (k := cells + 4) (n := slots + 24) (by omega) (by omega) ?_
          exact K _ _ hP.1
        · skip
          refine hr_aload_n C dL_law_189 rfl 6 rfl ?_
          refine hr_iconst (v := 0) C dL_law_190 (by decide) ?_
          refine hr_lald C dL_law_191 ?_
          refine hr_iload C dL_law_192 0 rfl ?_
          refine hr_if_eq C 201 dL_law_194 (by decide) (fun c194 => ?_) (fun c194 => ?_)
          · skip
            refine hr_lconst (v := 0) C dL_law_201 (by decide) ?_
            refine hr_lcmp (v := 0) C dL_law_202 (by rw [hP.2.2 c186, show hl_z r2 = 0 from if_pos c194]; exact lg_cmp_rf _) ?_
            refine hr_if_eq C 208 dL_law_203 (by decide) (fun c203 => ?_) (fun c203 => ?_)
            · skip
              refine hr_goto C 1074 dL_law_208 (by decide) ?_
              refine hr_sub [2, 3, 4, 5, 6] rfl ?_
              refine hr_wd (k := cells + 4) (n := slots + 24) (by omega) (by omega) ?_
              exact K _ _ hP.1
            · skip
              exact absurd rfl c203
          · skip
            refine hr_lconst (v := 1) C dL_law_197 (by decide) ?_
            refine hr_goto C 202 dL_law_198 (by decide) ?_
            refine hr_lcmp (v := 0) C dL_law_202 (by rw [hP.2.2 c186, show hl_z r2 = 1 from if_neg c194]; exact lg_cmp_rf _) ?_
            refine hr_if_eq C 208 dL_law_203 (by decide) (fun c203 => ?_) (fun c203 => ?_)
            · skip
              refine hr_goto C 1074 dL_law_208 (by decide) ?_
              refine hr_sub [2, 3, 4, 5, 6] rfl ?_
              refine hr_wd (k := cells + 4) (n := slots + 24) (by omega) (by omega) ?_
              exact K _ _ hP.1
            · skip
              exact absurd rfl c203
      · exact absurd hP.2.1 c179
set_option maxHeartbeats 4000000 in
set_option maxRecDepth 100000 in
theorem lc_sees {p : Program} {l : Launch} {e : Env} {s : State} {m : MethodId} {below : List Frame} {meth : Method} {c : Code} {Q : State → Prop} {E : hr_E} {cells slots b L : Nat} {xs : Nat → Int32} {c0 : Cond} (htr : l.stackTraces = false) (C : hr_C p s m #[Value.ref b] meth c cL_law RL c0 7 E) (hX : va_X b L xs s s.heap) (hbl : b < s.heap.size) (hbA : ¬ hr_A E b) (hL : L ≤ 2048) (t : Nat) (S : hr_S) (o : Int64) (hR : hr_R S) (ht : 4 * t + 4 ≤ L) (hcl : cells + 4 ≤ 601024) (hsl : slots + 24 ≤ 7293034)
  (K : ∀ (S2 : hr_S) (o2 : Int64), hr_R S2 → hr_G p l e room_1 s m #[Value.ref b] below meth c Q E 7 (cells + 4) (slots + 24) S2 o2 [(4, .int (nI (4 * t))), (0, .ref b), (1, .ref (hr_ad E 0 0)), (2, .ref (hr_ad E 14 0)), (3, .ref (hr_ad E 27 0))] 1074 []) : hr_G p l e room_1 s m #[Value.ref b] below meth c Q E 7 cells slots S o [(4, .int (nI (4 * t))), (0, .ref b), (1, .ref (hr_ad E 0 0)), (2, .ref (hr_ad E 14 0)), (3, .ref (hr_ad E 27 0))] 211 [] := by
  refine hr_aload_n C dL_law_211 rfl 2 rfl ?_
  refine hr_aload_n C dL_law_212 rfl 1 rfl ?_
  refine hr_iload C dL_law_213 0 rfl ?_
  refine hr_iconst (v := 1) C dL_law_215 (by decide) ?_
  refine hr_iadd (v := nI (4 * t + 1)) C dL_law_216 (nI_add (4 * t) 1) ?_
  refine hr_sld (4 * t + 1) C hX hbl hbA rfl (by omega) (by omega) dL_law_217 ?_
  refine hr_aload_n C dL_law_218 rfl 1 rfl ?_
  refine hr_iload C dL_law_219 0 rfl ?_
  refine hr_iconst (v := 2) C dL_law_221 (by decide) ?_
  refine hr_iadd (v := nI (4 * t + 2)) C dL_law_222 (nI_add (4 * t) 2) ?_
  refine hr_sld (4 * t + 2) C hX hbl hbA rfl (by omega) (by omega) dL_law_223 ?_
  refine hr_aload_n C dL_law_224 rfl 4 rfl ?_
  refine hr_lS (As := [.ref (hr_ad E 0 0), .int (xs (4 * t + 1)), .int (xs (4 * t + 2)), .ref (hr_ad E 27 0)]) (st := []) C (ct_L_sees l htr E S o (xs (4 * t + 1)) (xs (4 * t + 2)) hR.1.1) (vx_cwSW 4 C.1.2.2.2.2 (hr_gT kM_L_78 kT_L_sees kN_L kC_L_sees) rfl rfl rfl (by decide +kernel) ⟨(Nat.le_of_ble_eq_true rfl), (Nat.le_of_ble_eq_true rfl)⟩) rfl (Nat.le_of_ble_eq_true rfl) dL_law_225 ⟨show _ ≤ 601024 by omega, show _ ≤ 7293034 by omega⟩ (fun r1 u1 h1 => ?_) rfl
  refine hr_istore C [(5, .int (r1)), (4, .int (nI (4 * t))), (0, .ref b), (1, .ref (hr_ad E 0 0)), (2, .ref (hr_ad E 14 0)), (3, .ref (hr_ad E 27 0))] dL_law_228 (by decide) rfl ?_
  refine hr_aload_n C dL_law_230 rfl 4 rfl ?_
  refine hr_aload_n C dL_law_231 rfl 2 rfl ?_
  refine hr_iload C dL_law_232 1 rfl ?_
  refine hr_iconst (v := 1) C dL_law_234 (by decide) ?_
  refine hr_iadd (v := nI (4 * t + 1)) C dL_law_235 (nI_add (4 * t) 1) ?_
  refine hr_sld (4 * t + 1) C hX hbl hbA rfl (by omega) (by omega) dL_law_236 ?_
  refine hr_aload_n C dL_law_237 rfl 2 rfl ?_
  refine hr_iload C dL_law_238 1 rfl ?_
  refine hr_iconst (v := 2) C dL_law_240 (by decide) ?_
  refine hr_iadd (v := nI (4 * t + 2)) C dL_law_241 (nI_add (4 * t) 2) ?_
  refine hr_sld (4 * t + 2) C hX hbl hbA rfl (by omega) (by omega) dL_law_242 ?_
  refine hr_cVi (As := [.int (xs (4 * t + 1)), .int (xs (4 * t + 2))]) (st := []) C (ct_X4_sees l E u1.1 u1.2 (xs (4 * t + 1)) (xs (4 * t + 2))) (cwV 2 C.1.2.2.2.2 (hr_gV kM_L_81 kI_X4_sees kS_X4_sees kN_X4 kC_X4_sees) rfl rfl rfl (by decide +kernel) ⟨(Nat.le_of_ble_eq_true rfl), (Nat.le_of_ble_eq_true rfl)⟩) (by decide) rfl rfl rfl (Nat.le_of_ble_eq_true rfl) dL_law_243 ⟨show _ ≤ 601024 by omega, show _ ≤ 7293034 by omega⟩ (fun r2 u2 h2 => ?_) rfl
  have hP := pu_sees hR (xs (4 * t + 1)) (xs (4 * t + 2)) h1 h2
  refine hr_istore C [(6, .int (r2)), (5, .int (r1)), (4, .int (nI (4 * t))), (0, .ref b), (1, .ref (hr_ad E 0 0)), (2, .ref (hr_ad E 14 0)), (3, .ref (hr_ad E 27 0))] dL_law_246 (by decide) rfl ?_
  refine hr_aload_n C dL_law_248 rfl 5 rfl ?_
  refine hr_cVi (As := []) (st := []) C (ct_X4_thrown l E u2 u1.2) (cwV 0 C.1.2.2.2.2 (hr_gV kM_L_74 kI_X4_thrown kS_X4_thrown kN_X4 kC_X4_thrown) rfl rfl rfl (by decide +kernel) ⟨(Nat.le_of_ble_eq_true rfl), (Nat.le_of_ble_eq_true rfl)⟩) (by decide) rfl rfl rfl (Nat.le_of_ble_eq_true rfl) dL_law_249 ⟨show _ ≤ 601024 by omega, show _ ≤ 7293034 by omega⟩ (fun r3 S3 h3 => ?_) rfl
  refine hr_tp (y := u2 14 0 0) h3.1 ?_
  refine hr_st (S1 := u2) h3.2 ?_
  refine hr_iload C dL_law_252 1 rfl ?_
  refine hr_icmp_eq C 259 dL_law_254 (by decide) (fun c254 => ?_) (fun c254 => ?_)
  · skip
    refine hr_iload C dL_law_259 1 rfl ?_
    refine hr_if_ne C 276 dL_law_261 (by decide) (fun c261 => ?_) (fun c261 => ?_)
    · skip
      refine hr_goto C 1074 dL_law_276 (by decide) ?_
      refine hr_sub [2, 3, 4, 5, 6] rfl ?_
      refine hr_wd (k := cells + 4) (n := slots + 24) (by omega) (by omega) ?_
      exact K _ _ hP.1
    · skip
      refine hr_aload_n C dL_law_264 rfl 6 rfl ?_
      refine hr_iconst (v := 0) C dL_law_265 (by decide) ?_
      refine hr_lald C dL_law_266 ?_
      refine hr_iload C dL_law_267 0 rfl ?_
      refine hr_i2l C dL_law_269 rfl ?_
      refine hr_lcmp (v := 0) C dL_law_270 (by rw [hP.2.2 c261]; exact lg_cmp_rf _) ?_
      refine hr_if_eq C 276 dL_law_271 (by decide) (fun c271 => ?_) (fun c271 => ?_)
      · skip
        refine hr_goto C 1074 dL_law_276 (by decide) ?_
        refine hr_sub [2, 3, 4, 5, 6] rfl ?_
        refine hr_wd (k := cells + 4) (n := slots + 24) (by omega) (by omega) ?_
        exact K _ _ hP.1
      · skip
        exact absurd rfl c271
  · exact absurd hP.2.1 c254
set_option maxHeartbeats 4000000 in
set_option maxRecDepth 100000 in
theorem lc_restart {p : Program} {l : Launch} {e : Env} {s : State} {m : MethodId} {below : List Frame} {meth : Method} {c : Code} {Q : State → Prop} {E : hr_E} {cells slots b L : Nat} {xs : Nat → Int32} {c0 : Cond} (htr : l.stackTraces = false) (C : hr_C p s m #[Value.ref b] meth c cL_law RL c0 7 E) (hX : va_X b L xs s s.heap) (hbl : b < s.heap.size) (hbA : ¬ hr_A E b) (hL : L ≤ 2048) (t : Nat) (S : hr_S) (o : Int64) (hR : hr_R S) (ht : 4 * t + 4 ≤ L) (hcl : cells + 4 ≤ 601024) (hsl : slots + 24 ≤ 7293034)
  (K : ∀ (S2 : hr_S) (o2 : Int64), hr_R S2 → hr_G p l e room_1 s m #[Value.ref b] below meth c Q E 7 (cells + 4) (slots + 24) S2 o2 [(4, .int (nI (4 * t))), (0, .ref b), (1, .ref (hr_ad E 0 0)), (2, .ref (hr_ad E 14 0)), (3, .ref (hr_ad E 27 0))] 1074 []) : hr_G p l e room_1 s m #[Value.ref b] below meth c Q E 7 cells slots S o [(4, .int (nI (4 * t))), (0, .ref b), (1, .ref (hr_ad E 0 0)), (2, .ref (hr_ad E 14 0)), (3, .ref (hr_ad E 27 0))] 279 [] := by
  refine hr_aload_n C dL_law_279 rfl 2 rfl ?_
  refine hr_aload_n C dL_law_280 rfl 1 rfl ?_
  refine hr_iload C dL_law_281 0 rfl ?_
  refine hr_iconst (v := 1) C dL_law_283 (by decide) ?_
  refine hr_iadd (v := nI (4 * t + 1)) C dL_law_284 (nI_add (4 * t) 1) ?_
  refine hr_sld (4 * t + 1) C hX hbl hbA rfl (by omega) (by omega) dL_law_285 ?_
  refine hr_aload_n C dL_law_286 rfl 4 rfl ?_
  refine hr_lS (As := [.ref (hr_ad E 0 0), .int (xs (4 * t + 1)), .ref (hr_ad E 27 0)]) (st := []) C (ct_L_restart l htr E S o (xs (4 * t + 1)) hR.1.1) (vx_cwSW 3 C.1.2.2.2.2 (hr_gT kM_L_82 kT_L_restart kN_L kC_L_restart) rfl rfl rfl (by decide +kernel) ⟨(Nat.le_of_ble_eq_true rfl), (Nat.le_of_ble_eq_true rfl)⟩) rfl (Nat.le_of_ble_eq_true rfl) dL_law_287 ⟨show _ ≤ 601024 by omega, show _ ≤ 7293034 by omega⟩ (fun r1 u1 h1 => ?_) rfl
  refine hr_istore C [(5, .int (r1)), (4, .int (nI (4 * t))), (0, .ref b), (1, .ref (hr_ad E 0 0)), (2, .ref (hr_ad E 14 0)), (3, .ref (hr_ad E 27 0))] dL_law_290 (by decide) rfl ?_
  refine hr_aload_n C dL_law_292 rfl 4 rfl ?_
  refine hr_aload_n C dL_law_293 rfl 2 rfl ?_
  refine hr_iload C dL_law_294 1 rfl ?_
  refine hr_iconst (v := 1) C dL_law_296 (by decide) ?_
  refine hr_iadd (v := nI (4 * t + 1)) C dL_law_297 (nI_add (4 * t) 1) ?_
  refine hr_sld (4 * t + 1) C hX hbl hbA rfl (by omega) (by omega) dL_law_298 ?_
  refine hr_cVi (As := [.int (xs (4 * t + 1))]) (st := []) C (ct_X4_restart l E u1.1 u1.2 (xs (4 * t + 1)) (pm_restart hR (xs (4 * t + 1)) h1)) (cwV 1 C.1.2.2.2.2 (hr_gV kM_L_85 kI_X4_restart kS_X4_restart kN_X4 kC_X4_restart) rfl rfl rfl (by decide +kernel) ⟨(Nat.le_of_ble_eq_true rfl), (Nat.le_of_ble_eq_true rfl)⟩) (by decide) rfl rfl rfl (Nat.le_of_ble_eq_true rfl) dL_law_299 ⟨show _ ≤ 601024 by omega, show _ ≤ 7293034 by omega⟩ (fun r2 u2 h2 => ?_) rfl
  have hP := pu_restart hR (xs (4 * t + 1)) h1 h2
  refine hr_istore C [(6, .int (r2)), (5, .int (r1)), (4, .int (nI (4 * t))), (0, .ref b), (1, .ref (hr_ad E 0 0)), (2, .ref (hr_ad E 14 0)), (3, .ref (hr_ad E 27 0))] dL_law_302 (by decide) rfl ?_
  refine hr_aload_n C dL_law_304 rfl 5 rfl ?_
  refine hr_cVi (As := []) (st := []) C (ct_X4_thrown l E u2 u1.2) (cwV 0 C.1.2.2.2.2 (hr_gV kM_L_74 kI_X4_thrown kS_X4_thrown kN_X4 kC_X4_thrown) rfl rfl rfl (by decide +kernel) ⟨(Nat.le_of_ble_eq_true rfl), (Nat.le_of_ble_eq_true rfl)⟩) (by decide) rfl rfl rfl (Nat.le_of_ble_eq_true rfl) dL_law_305 ⟨show _ ≤ 601024 by omega, show _ ≤ 7293034 by omega⟩ (fun r3 S3 h3 => ?_) rfl
  refine hr_tp (y := u2 14 0 0) h3.1 ?_
  refine hr_st (S1 := u2) h3.2 ?_
  refine hr_iload C dL_law_308 1 rfl ?_
  refine hr_icmp_eq C 315 dL_law_310 (by decide) (fun c310 => ?_) (fun c310 => ?_)
  · skip
    refine hr_iload C dL_law_315 1 rfl ?_
    refine hr_if_ne C 332 dL_law_317 (by decide) (fun c317 => ?_) (fun c317 => ?_)
    · skip
      refine hr_goto C 1074 dL_law_332 (by decide) ?_
      refine hr_sub [2, 3, 4, 5, 6] rfl ?_
      refine hr_wd (k := cells + 4) (n := slots + 24) (by omega) (by omega) ?_
      exact K _ _ hP.1
    · skip
      refine hr_aload_n C dL_law_320 rfl 6 rfl ?_
      refine hr_iconst (v := 0) C dL_law_321 (by decide) ?_
      refine hr_lald C dL_law_322 ?_
      refine hr_iload C dL_law_323 0 rfl ?_
      refine hr_i2l C dL_law_325 rfl ?_
      refine hr_lcmp (v := 0) C dL_law_326 (by rw [hP.2.2 c317]; exact lg_cmp_rf _) ?_
      refine hr_if_eq C 332 dL_law_327 (by decide) (fun c327 => ?_) (fun c327 => ?_)
      · skip
        refine hr_goto C 1074 dL_law_332 (by decide) ?_
        refine hr_sub [2, 3, 4, 5, 6] rfl ?_
        refine hr_wd (k := cells + 4) (n := slots + 24) (by omega) (by omega) ?_
        exact K _ _ hP.1
      · skip
        exact absurd rfl c327
  · exact absurd hP.2.1 c310
set_option maxHeartbeats 4000000 in
set_option maxRecDepth 100000 in
theorem lc_ask {p : Program} {l : Launch} {e : Env} {s : State} {m : MethodId} {below : List Frame} {meth : Method} {c : Code} {Q : State → Prop} {E : hr_E} {cells slots b L : Nat} {xs : Nat → Int32} {c0 : Cond} (htr : l.stackTraces = false) (C : hr_C p s m #[Value.ref b] meth c cL_law RL c0 7 E) (hX : va_X b L xs s s.heap) (hbl : b < s.heap.size) (hbA : ¬ hr_A E b) (hL : L ≤ 2048) (t : Nat) (S : hr_S) (o : Int64) (hR : hr_R S) (ht : 4 * t + 4 ≤ L) (hcl : cells + 4 ≤ 601024) (hsl : slots + 24 ≤ 7293034)
  (K : ∀ (S2 : hr_S) (o2 : Int64), hr_R S2 → hr_G p l e room_1 s m #[Value.ref b] below meth c Q E 7 (cells + 4) (slots + 24) S2 o2 [(4, .int (nI (4 * t))), (0, .ref b), (1, .ref (hr_ad E 0 0)), (2, .ref (hr_ad E 14 0)), (3, .ref (hr_ad E 27 0))] 1074 []) : hr_G p l e room_1 s m #[Value.ref b] below meth c Q E 7 cells slots S o [(4, .int (nI (4 * t))), (0, .ref b), (1, .ref (hr_ad E 0 0)), (2, .ref (hr_ad E 14 0)), (3, .ref (hr_ad E 27 0))] 335 [] := by
  refine hr_aload_n C dL_law_335 rfl 2 rfl ?_
  refine hr_aload_n C dL_law_336 rfl 1 rfl ?_
  refine hr_iload C dL_law_337 0 rfl ?_
  refine hr_iconst (v := 1) C dL_law_339 (by decide) ?_
  refine hr_iadd (v := nI (4 * t + 1)) C dL_law_340 (nI_add (4 * t) 1) ?_
  refine hr_sld (4 * t + 1) C hX hbl hbA rfl (by omega) (by omega) dL_law_341 ?_
  refine hr_aload_n C dL_law_342 rfl 1 rfl ?_
  refine hr_iload C dL_law_343 0 rfl ?_
  refine hr_iconst (v := 2) C dL_law_345 (by decide) ?_
  refine hr_iadd (v := nI (4 * t + 2)) C dL_law_346 (nI_add (4 * t) 2) ?_
  refine hr_sld (4 * t + 2) C hX hbl hbA rfl (by omega) (by omega) dL_law_347 ?_
  refine hr_aload_n C dL_law_348 rfl 1 rfl ?_
  refine hr_iload C dL_law_349 0 rfl ?_
  refine hr_iconst (v := 3) C dL_law_351 (by decide) ?_
  refine hr_iadd (v := nI (4 * t + 3)) C dL_law_352 (nI_add (4 * t) 3) ?_
  refine hr_sld (4 * t + 3) C hX hbl hbA rfl (by omega) (by omega) dL_law_353 ?_
  refine hr_aload_n C dL_law_354 rfl 4 rfl ?_
  refine hr_lS (As := [.ref (hr_ad E 0 0), .int (xs (4 * t + 1)), .int (xs (4 * t + 2)), .int (xs (4 * t + 3)), .ref (hr_ad E 27 0)]) (st := []) C (ct_L_ask l htr E S o (xs (4 * t + 1)) (xs (4 * t + 2)) (xs (4 * t + 3)) hR.1.1) (vx_cwSW 5 C.1.2.2.2.2 (hr_gT kM_L_86 kT_L_ask kN_L kC_L_ask) rfl rfl rfl (by decide +kernel) ⟨(Nat.le_of_ble_eq_true rfl), (Nat.le_of_ble_eq_true rfl)⟩) rfl (Nat.le_of_ble_eq_true rfl) dL_law_355 ⟨show _ ≤ 601024 by omega, show _ ≤ 7293034 by omega⟩ (fun r1 u1 h1 => ?_) rfl
  refine hr_istore C [(5, .int (r1)), (4, .int (nI (4 * t))), (0, .ref b), (1, .ref (hr_ad E 0 0)), (2, .ref (hr_ad E 14 0)), (3, .ref (hr_ad E 27 0))] dL_law_358 (by decide) rfl ?_
  refine hr_aload_n C dL_law_360 rfl 4 rfl ?_
  refine hr_aload_n C dL_law_361 rfl 2 rfl ?_
  refine hr_iload C dL_law_362 1 rfl ?_
  refine hr_iconst (v := 1) C dL_law_364 (by decide) ?_
  refine hr_iadd (v := nI (4 * t + 1)) C dL_law_365 (nI_add (4 * t) 1) ?_
  refine hr_sld (4 * t + 1) C hX hbl hbA rfl (by omega) (by omega) dL_law_366 ?_
  refine hr_aload_n C dL_law_367 rfl 2 rfl ?_
  refine hr_iload C dL_law_368 1 rfl ?_
  refine hr_iconst (v := 2) C dL_law_370 (by decide) ?_
  refine hr_iadd (v := nI (4 * t + 2)) C dL_law_371 (nI_add (4 * t) 2) ?_
  refine hr_sld (4 * t + 2) C hX hbl hbA rfl (by omega) (by omega) dL_law_372 ?_
  refine hr_aload_n C dL_law_373 rfl 2 rfl ?_
  refine hr_iload C dL_law_374 1 rfl ?_
  refine hr_iconst (v := 3) C dL_law_376 (by decide) ?_
  refine hr_iadd (v := nI (4 * t + 3)) C dL_law_377 (nI_add (4 * t) 3) ?_
  refine hr_sld (4 * t + 3) C hX hbl hbA rfl (by omega) (by omega) dL_law_378 ?_
  refine hr_cVi (As := [.int (xs (4 * t + 1)), .int (xs (4 * t + 2)), .int (xs (4 * t + 3))]) (st := []) C (ct_X4_ask l E u1.1 u1.2 (xs (4 * t + 1)) (xs (4 * t + 2)) (xs (4 * t + 3)) (pm_ask hR (xs (4 * t + 1)) (xs (4 * t + 2)) (xs (4 * t + 3)) h1)) (cwV 3 C.1.2.2.2.2 (hr_gV kM_L_89 kI_X4_ask kS_X4_ask kN_X4 kC_X4_ask) rfl rfl rfl (by decide +kernel) ⟨(Nat.le_of_ble_eq_true rfl), (Nat.le_of_ble_eq_true rfl)⟩) (by decide) rfl rfl rfl (Nat.le_of_ble_eq_true rfl) dL_law_379 ⟨show _ ≤ 601024 by omega, show _ ≤ 7293034 by omega⟩ (fun r2 u2 h2 => ?_) rfl
  have hP := pu_ask hR (xs (4 * t + 1)) (xs (4 * t + 2)) (xs (4 * t + 3)) h1 h2
  refine hr_istore C [(6, .int (r2)), (5, .int (r1)), (4, .int (nI (4 * t))), (0, .ref b), (1, .ref (hr_ad E 0 0)), (2, .ref (hr_ad E 14 0)), (3, .ref (hr_ad E 27 0))] dL_law_382 (by decide) rfl ?_
  refine hr_aload_n C dL_law_384 rfl 5 rfl ?_
  refine hr_cVi (As := []) (st := []) C (ct_X4_thrown l E u2 u1.2) (cwV 0 C.1.2.2.2.2 (hr_gV kM_L_74 kI_X4_thrown kS_X4_thrown kN_X4 kC_X4_thrown) rfl rfl rfl (by decide +kernel) ⟨(Nat.le_of_ble_eq_true rfl), (Nat.le_of_ble_eq_true rfl)⟩) (by decide) rfl rfl rfl (Nat.le_of_ble_eq_true rfl) dL_law_385 ⟨show _ ≤ 601024 by omega, show _ ≤ 7293034 by omega⟩ (fun r3 S3 h3 => ?_) rfl
  refine hr_tp (y := u2 14 0 0) h3.1 ?_
  refine hr_st (S1 := u2) h3.2 ?_
  refine hr_iload C dL_law_388 1 rfl ?_
  refine hr_icmp_eq C 395 dL_law_390 (by decide) (fun c390 => ?_) (fun c390 => ?_)
  · skip
    refine hr_iload C dL_law_395 1 rfl ?_
    refine hr_if_ne C 412 dL_law_397 (by decide) (fun c397 => ?_) (fun c397 => ?_)
    · skip
      refine hr_goto C 1074 dL_law_412 (by decide) ?_
      refine hr_sub [2, 3, 4, 5, 6] rfl ?_
      refine hr_wd (k := cells + 4) (n := slots + 24) (by omega) (by omega) ?_
      exact K _ _ hP.1
    · skip
      refine hr_aload_n C dL_law_400 rfl 6 rfl ?_
      refine hr_iconst (v := 0) C dL_law_401 (by decide) ?_
      refine hr_lald C dL_law_402 ?_
      refine hr_iload C dL_law_403 0 rfl ?_
      refine hr_i2l C dL_law_405 rfl ?_
      refine hr_lcmp (v := 0) C dL_law_406 (by rw [hP.2.2 c397]; exact lg_cmp_rf _) ?_
      refine hr_if_eq C 412 dL_law_407 (by decide) (fun c407 => ?_) (fun c407 => ?_)
      · skip
        refine hr_goto C 1074 dL_law_412 (by decide) ?_
        refine hr_sub [2, 3, 4, 5, 6] rfl ?_
        refine hr_wd (k := cells + 4) (n := slots + 24) (by omega) (by omega) ?_
        exact K _ _ hP.1
      · skip
        exact absurd rfl c407
  · exact absurd hP.2.1 c390
set_option maxHeartbeats 4000000 in
set_option maxRecDepth 100000 in
theorem lc_tick {p : Program} {l : Launch} {e : Env} {s : State} {m : MethodId} {below : List Frame} {meth : Method} {c : Code} {Q : State → Prop} {E : hr_E} {cells slots b L : Nat} {xs : Nat → Int32} {c0 : Cond} (htr : l.stackTraces = false) (C : hr_C p s m #[Value.ref b] meth c cL_law RL c0 7 E) (hX : va_X b L xs s s.heap) (hbl : b < s.heap.size) (hbA : ¬ hr_A E b) (hL : L ≤ 2048) (t : Nat) (S : hr_S) (o : Int64) (hR : hr_R S) (ht : 4 * t + 4 ≤ L) (hcl : cells + 4 ≤ 601024) (hsl : slots + 24 ≤ 7293034)
  (K : ∀ (S2 : hr_S) (o2 : Int64), hr_R S2 → hr_G p l e room_1 s m #[Value.ref b] below meth c Q E 7 (cells + 4) (slots + 24) S2 o2 [(4, .int (nI (4 * t))), (0, .ref b), (1, .ref (hr_ad E 0 0)), (2, .ref (hr_ad E 14 0)), (3, .ref (hr_ad E 27 0))] 1074 []) : hr_G p l e room_1 s m #[Value.ref b] below meth c Q E 7 cells slots S o [(4, .int (nI (4 * t))), (0, .ref b), (1, .ref (hr_ad E 0 0)), (2, .ref (hr_ad E 14 0)), (3, .ref (hr_ad E 27 0))] 415 [] := by
  refine hr_aload_n C dL_law_415 rfl 2 rfl ?_
  refine hr_aload_n C dL_law_416 rfl 1 rfl ?_
  refine hr_iload C dL_law_417 0 rfl ?_
  refine hr_iconst (v := 1) C dL_law_419 (by decide) ?_
  refine hr_iadd (v := nI (4 * t + 1)) C dL_law_420 (nI_add (4 * t) 1) ?_
  refine hr_sld (4 * t + 1) C hX hbl hbA rfl (by omega) (by omega) dL_law_421 ?_
  refine hr_aload_n C dL_law_422 rfl 1 rfl ?_
  refine hr_iload C dL_law_423 0 rfl ?_
  refine hr_iconst (v := 2) C dL_law_425 (by decide) ?_
  refine hr_iadd (v := nI (4 * t + 2)) C dL_law_426 (nI_add (4 * t) 2) ?_
  refine hr_sld (4 * t + 2) C hX hbl hbA rfl (by omega) (by omega) dL_law_427 ?_
  refine hr_if_eq C 435 dL_law_428 (by decide) (fun c428 => ?_) (fun c428 => ?_)
  · skip
    refine hr_iconst (v := 0) C dL_law_435 (by decide) ?_
    refine hr_aload_n C dL_law_436 rfl 4 rfl ?_
    refine hr_lS (As := [.ref (hr_ad E 0 0), .int (xs (4 * t + 1)), .int (0), .ref (hr_ad E 27 0)]) (st := []) C (ct_L_tick l htr E S o (xs (4 * t + 1)) (0) hR.1.1) (vx_cwSW 4 C.1.2.2.2.2 (hr_gT kM_L_90 kT_L_tick kN_L kC_L_tick) rfl rfl rfl (by decide +kernel) ⟨(Nat.le_of_ble_eq_true rfl), (Nat.le_of_ble_eq_true rfl)⟩) rfl (Nat.le_of_ble_eq_true rfl) dL_law_437 ⟨show _ ≤ 601024 by omega, show _ ≤ 7293034 by omega⟩ (fun r1 u1 h1 => ?_) rfl
    refine hr_istore C [(5, .int (r1)), (4, .int (nI (4 * t))), (0, .ref b), (1, .ref (hr_ad E 0 0)), (2, .ref (hr_ad E 14 0)), (3, .ref (hr_ad E 27 0))] dL_law_440 (by decide) rfl ?_
    refine hr_aload_n C dL_law_442 rfl 4 rfl ?_
    refine hr_aload_n C dL_law_443 rfl 2 rfl ?_
    refine hr_iload C dL_law_444 1 rfl ?_
    refine hr_iconst (v := 1) C dL_law_446 (by decide) ?_
    refine hr_iadd (v := nI (4 * t + 1)) C dL_law_447 (nI_add (4 * t) 1) ?_
    refine hr_sld (4 * t + 1) C hX hbl hbA rfl (by omega) (by omega) dL_law_448 ?_
    refine hr_aload_n C dL_law_449 rfl 2 rfl ?_
    refine hr_iload C dL_law_450 1 rfl ?_
    refine hr_iconst (v := 2) C dL_law_452 (by decide) ?_
    refine hr_iadd (v := nI (4 * t + 2)) C dL_law_453 (nI_add (4 * t) 2) ?_
    refine hr_sld (4 * t + 2) C hX hbl hbA rfl (by omega) (by omega) dL_law_454 ?_
    refine hr_if_eq C 462 dL_law_455 (by decide) (fun c455 => ?_) (fun c455 => ?_)
    · skip
      refine hr_iconst (v := 0) C dL_law_462 (by decide) ?_
      refine hr_cVi (As := [.int (xs (4 * t + 1)), .int (0)]) (st := []) C (ct_X4_tick l E u1.1 u1.2 (xs (4 * t + 1)) (0) (pm_tick hR (xs (4 * t + 1)) (0) h1)) (cwV 2 C.1.2.2.2.2 (hr_gV kM_L_93 kI_X4_tick kS_X4_tick kN_X4 kC_X4_tick) rfl rfl rfl (by decide +kernel) ⟨(Nat.le_of_ble_eq_true rfl), (Nat.le_of_ble_eq_true rfl)⟩) (by decide) rfl rfl rfl (Nat.le_of_ble_eq_true rfl) dL_law_463 ⟨show _ ≤ 601024 by omega, show _ ≤ 7293034 by omega⟩ (fun r2 u2 h2 => ?_) rfl
      have hP := pu_tick hR (xs (4 * t + 1)) (0) h1 h2
      refine hr_istore C [(6, .int (r2)), (5, .int (r1)), (4, .int (nI (4 * t))), (0, .ref b), (1, .ref (hr_ad E 0 0)), (2, .ref (hr_ad E 14 0)), (3, .ref (hr_ad E 27 0))] dL_law_466 (by decide) rfl ?_
      refine hr_aload_n C dL_law_468 rfl 5 rfl ?_
      refine hr_cVi (As := []) (st := []) C (ct_X4_thrown l E u2 u1.2) (cwV 0 C.1.2.2.2.2 (hr_gV kM_L_74 kI_X4_thrown kS_X4_thrown kN_X4 kC_X4_thrown) rfl rfl rfl (by decide +kernel) ⟨(Nat.le_of_ble_eq_true rfl), (Nat.le_of_ble_eq_true rfl)⟩) (by decide) rfl rfl rfl (Nat.le_of_ble_eq_true rfl) dL_law_469 ⟨show _ ≤ 601024 by omega, show _ ≤ 7293034 by omega⟩ (fun r3 S3 h3 => ?_) rfl
      refine hr_tp (y := u2 14 0 0) h3.1 ?_
      refine hr_st (S1 := u2) h3.2 ?_
      refine hr_iload C dL_law_472 1 rfl ?_
      refine hr_icmp_eq C 479 dL_law_474 (by decide) (fun c474 => ?_) (fun c474 => ?_)
      · skip
        refine hr_iload C dL_law_479 1 rfl ?_
        refine hr_if_ne C 496 dL_law_481 (by decide) (fun c481 => ?_) (fun c481 => ?_)
        · skip
          refine hr_goto C 1074 dL_law_496 (by decide) ?_
          refine hr_sub [2, 3, 4, 5, 6] rfl ?_
          refine hr_wd (k := cells + 4) (n := slots + 24) (by omega) (by omega) ?_
          exact K _ _ hP.1
        · skip
          refine hr_aload_n C dL_law_484 rfl 6 rfl ?_
          refine hr_iconst (v := 0) C dL_law_485 (by decide) ?_
          refine hr_lald C dL_law_486 ?_
          refine hr_iload C dL_law_487 0 rfl ?_
          refine hr_i2l C dL_law_489 rfl ?_
          refine hr_lcmp (v := 0) C dL_law_490 (by rw [hP.2.2 c481]; exact lg_cmp_rf _) ?_
          refine hr_if_eq C 496 dL_law_491 (by decide) (fun c491 => ?_) (fun c491 => ?_)
          · skip
            refine hr_goto C 1074 dL_law_496 (by decide) ?_
            refine hr_sub [2, 3, 4, 5, 6] rfl ?_
            refine hr_wd (k := cells + 4) (n := slots + 24) (by omega) (by omega) ?_
            exact K _ _ hP.1
          · skip
            exact absurd rfl c491
      · exact absurd hP.2.1 c474
    · skip
      exact absurd c428 c455
  · skip
    refine hr_iconst (v := 1) C dL_law_431 (by decide) ?_
    refine hr_goto C 436 dL_law_432 (by decide) ?_
    refine hr_aload_n C dL_law_436 rfl 4 rfl ?_
    refine hr_lS (As := [.ref (hr_ad E 0 0), .int (xs (4 * t + 1)), .int (1), .ref (hr_ad E 27 0)]) (st := []) C (ct_L_tick l htr E S o (xs (4 * t + 1)) (1) hR.1.1) (vx_cwSW 4 C.1.2.2.2.2 (hr_gT kM_L_90 kT_L_tick kN_L kC_L_tick) rfl rfl rfl (by decide +kernel) ⟨(Nat.le_of_ble_eq_true rfl), (Nat.le_of_ble_eq_true rfl)⟩) rfl (Nat.le_of_ble_eq_true rfl) dL_law_437 ⟨show _ ≤ 601024 by omega, show _ ≤ 7293034 by omega⟩ (fun r1 u1 h1 => ?_) rfl
    refine hr_istore C [(5, .int (r1)), (4, .int (nI (4 * t))), (0, .ref b), (1, .ref (hr_ad E 0 0)), (2, .ref (hr_ad E 14 0)), (3, .ref (hr_ad E 27 0))] dL_law_440 (by decide) rfl ?_
    refine hr_aload_n C dL_law_442 rfl 4 rfl ?_
    refine hr_aload_n C dL_law_443 rfl 2 rfl ?_
    refine hr_iload C dL_law_444 1 rfl ?_
    refine hr_iconst (v := 1) C dL_law_446 (by decide) ?_
    refine hr_iadd (v := nI (4 * t + 1)) C dL_law_447 (nI_add (4 * t) 1) ?_
    refine hr_sld (4 * t + 1) C hX hbl hbA rfl (by omega) (by omega) dL_law_448 ?_
    refine hr_aload_n C dL_law_449 rfl 2 rfl ?_
    refine hr_iload C dL_law_450 1 rfl ?_
    refine hr_iconst (v := 2) C dL_law_452 (by decide) ?_
    refine hr_iadd (v := nI (4 * t + 2)) C dL_law_453 (nI_add (4 * t) 2) ?_
    refine hr_sld (4 * t + 2) C hX hbl hbA rfl (by omega) (by omega) dL_law_454 ?_
    refine hr_if_eq C 462 dL_law_455 (by decide) (fun c455 => ?_) (fun c455 => ?_)
    · skip
      exact absurd c455 c428
    · skip
      refine hr_iconst (v := 1) C dL_law_458 (by decide) ?_
      refine hr_goto C 463 dL_law_459 (by decide) ?_
      refine hr_cVi (As := [.int (xs (4 * t + 1)), .int (1)]) (st := []) C (ct_X4_tick l E u1.1 u1.2 (xs (4 * t + 1)) (1) (pm_tick hR (xs (4 * t + 1)) (1) h1)) (cwV 2 C.1.2.2.2.2 (hr_gV kM_L_93 kI_X4_tick kS_X4_tick kN_X4 kC_X4_tick) rfl rfl rfl (by decide +kernel) ⟨(Nat.le_of_ble_eq_true rfl), (Nat.le_of_ble_eq_true rfl)⟩) (by decide) rfl rfl rfl (Nat.le_of_ble_eq_true rfl) dL_law_463 ⟨show _ ≤ 601024 by omega, show _ ≤ 7293034 by omega⟩ (fun r2 u2 h2 => ?_) rfl
      have hP := pu_tick hR (xs (4 * t + 1)) (1) h1 h2
      refine hr_istore C [(6, .int (r2)), (5, .int (r1)), (4, .int (nI (4 * t))), (0, .ref b), (1, .ref (hr_ad E 0 0)), (2, .ref (hr_ad E 14 0)), (3, .ref (hr_ad E 27 0))] dL_law_466 (by decide) rfl ?_
      refine hr_aload_n C dL_law_468 rfl 5 rfl ?_
      refine hr_cVi (As := []) (st := []) C (ct_X4_thrown l E u2 u1.2) (cwV 0 C.1.2.2.2.2 (hr_gV kM_L_74 kI_X4_thrown kS_X4_thrown kN_X4 kC_X4_thrown) rfl rfl rfl (by decide +kernel) ⟨(Nat.le_of_ble_eq_true rfl), (Nat.le_of_ble_eq_true rfl)⟩) (by decide) rfl rfl rfl (Nat.le_of_ble_eq_true rfl) dL_law_469 ⟨show _ ≤ 601024 by omega, show _ ≤ 7293034 by omega⟩ (fun r3 S3 h3 => ?_) rfl
      refine hr_tp (y := u2 14 0 0) h3.1 ?_
      refine hr_st (S1 := u2) h3.2 ?_
      refine hr_iload C dL_law_472 1 rfl ?_
      refine hr_icmp_eq C 479 dL_law_474 (by decide) (fun c474 => ?_) (fun c474 => ?_)
      · skip
        refine hr_iload C dL_law_479 1 rfl ?_
        refine hr_if_ne C 496 dL_law_481 (by decide) (fun c481 => ?_) (fun c481 => ?_)
        · skip
          refine hr_goto C 1074 dL_law_496 (by decide) ?_
          refine hr_sub [2, 3, 4, 5, 6] rfl ?_
          refine hr_wd (k := cells + 4) (n := slots + 24) (by omega) (by omega) ?_
          exact K _ _ hP.1
        · skip
          refine hr_aload_n C dL_law_484 rfl 6 rfl ?_
          refine hr_iconst (v := 0) C dL_law_485 (by decide) ?_
          refine hr_lald C dL_law_486 ?_
          refine hr_iload C dL_law_487 0 rfl ?_
          refine hr_i2l C dL_law_489 rfl ?_
          refine hr_lcmp (v := 0) C dL_law_490 (by rw [hP.2.2 c481]; exact lg_cmp_rf _) ?_
          refine hr_if_eq C 496 dL_law_491 (by decide) (fun c491 => ?_) (fun c491 => ?_)
          · skip
            refine hr_goto C 1074 dL_law_496 (by decide) ?_
            refine hr_sub [2, 3, 4, 5, 6] rfl ?_
            refine hr_wd (k := cells + 4) (n := slots + 24) (by omega) (by omega) ?_
            exact K _ _ hP.1
          · skip
            exact absurd rfl c491
      · exact absurd hP.2.1 c474
set_option maxHeartbeats 4000000 in
set_option maxRecDepth 100000 in
theorem lc_deliver {p : Program} {l : Launch} {e : Env} {s : State} {m : MethodId} {below : List Frame} {meth : Method} {c : Code} {Q : State → Prop} {E : hr_E} {cells slots b L : Nat} {xs : Nat → Int32} {c0 : Cond} (htr : l.stackTraces = false) (C : hr_C p s m #[Value.ref b] meth c cL_law RL c0 7 E) (hX : va_X b L xs s s.heap) (hbl : b < s.heap.size) (hbA : ¬ hr_A E b) (hL : L ≤ 2048) (t : Nat) (S : hr_S) (o : Int64) (hR : hr_R S) (ht : 4 * t + 4 ≤ L) (hcl : cells + 4 ≤ 601024) (hsl : slots + 24 ≤ 7293034)
  (K : ∀ (S2 : hr_S) (o2 : Int64), hr_R S2 → hr_G p l e room_1 s m #[Value.ref b] below meth c Q E 7 (cells + 4) (slots + 24) S2 o2 [(4, .int (nI (4 * t))), (0, .ref b), (1, .ref (hr_ad E 0 0)), (2, .ref (hr_ad E 14 0)), (3, .ref (hr_ad E 27 0))] 1074 []) : hr_G p l e room_1 s m #[Value.ref b] below meth c Q E 7 cells slots S o [(4, .int (nI (4 * t))), (0, .ref b), (1, .ref (hr_ad E 0 0)), (2, .ref (hr_ad E 14 0)), (3, .ref (hr_ad E 27 0))] 499 [] := by
  refine hr_aload_n C dL_law_499 rfl 2 rfl ?_
  refine hr_aload_n C dL_law_500 rfl 1 rfl ?_
  refine hr_iload C dL_law_501 0 rfl ?_
  refine hr_iconst (v := 1) C dL_law_503 (by decide) ?_
  refine hr_iadd (v := nI (4 * t + 1)) C dL_law_504 (nI_add (4 * t) 1) ?_
  refine hr_sld (4 * t + 1) C hX hbl hbA rfl (by omega) (by omega) dL_law_505 ?_
  refine hr_aload_n C dL_law_506 rfl 4 rfl ?_
  refine hr_lS (As := [.ref (hr_ad E 0 0), .int (xs (4 * t + 1)), .ref (hr_ad E 27 0)]) (st := []) C (ct_L_deliver l htr E S o (xs (4 * t + 1)) hR.1.1) (vx_cwSW 3 C.1.2.2.2.2 (hr_gT kM_L_94 kT_L_deliver kN_L kC_L_deliver) rfl rfl rfl (by decide +kernel) ⟨(Nat.le_of_ble_eq_true rfl), (Nat.le_of_ble_eq_true rfl)⟩) rfl (Nat.le_of_ble_eq_true rfl) dL_law_507 ⟨show _ ≤ 601024 by omega, show _ ≤ 7293034 by omega⟩ (fun r1 u1 h1 => ?_) rfl
  refine hr_istore C [(5, .int (r1)), (4, .int (nI (4 * t))), (0, .ref b), (1, .ref (hr_ad E 0 0)), (2, .ref (hr_ad E 14 0)), (3, .ref (hr_ad E 27 0))] dL_law_510 (by decide) rfl ?_
  refine hr_aload_n C dL_law_512 rfl 4 rfl ?_
  refine hr_aload_n C dL_law_513 rfl 2 rfl ?_
  refine hr_iload C dL_law_514 1 rfl ?_
  refine hr_iconst (v := 1) C dL_law_516 (by decide) ?_
  refine hr_iadd (v := nI (4 * t + 1)) C dL_law_517 (nI_add (4 * t) 1) ?_
  refine hr_sld (4 * t + 1) C hX hbl hbA rfl (by omega) (by omega) dL_law_518 ?_
  refine hr_cVi (As := [.int (xs (4 * t + 1))]) (st := []) C (ct_X4_deliver l E u1.1 u1.2 (xs (4 * t + 1)) (pm_deliver hR (xs (4 * t + 1)) h1)) (cwV 1 C.1.2.2.2.2 (hr_gV kM_L_96 kI_X4_deliver kS_X4_deliver kN_X4 kC_X4_deliver) rfl rfl rfl (by decide +kernel) ⟨(Nat.le_of_ble_eq_true rfl), (Nat.le_of_ble_eq_true rfl)⟩) (by decide) rfl rfl rfl (Nat.le_of_ble_eq_true rfl) dL_law_519 ⟨show _ ≤ 601024 by omega, show _ ≤ 7293034 by omega⟩ (fun r2 u2 h2 => ?_) rfl
  have hP := pu_deliver hR (xs (4 * t + 1)) h1 h2
  refine hr_istore C [(6, .int (r2)), (5, .int (r1)), (4, .int (nI (4 * t))), (0, .ref b), (1, .ref (hr_ad E 0 0)), (2, .ref (hr_ad E 14 0)), (3, .ref (hr_ad E 27 0))] dL_law_522 (by decide) rfl ?_
  refine hr_aload_n C dL_law_524 rfl 5 rfl ?_
  refine hr_cVi (As := []) (st := []) C (ct_X4_thrown l E u2 u1.2) (cwV 0 C.1.2.2.2.2 (hr_gV kM_L_74 kI_X4_thrown kS_X4_thrown kN_X4 kC_X4_thrown) rfl rfl rfl (by decide +kernel) ⟨(Nat.le_of_ble_eq_true rfl), (Nat.le_of_ble_eq_true rfl)⟩) (by decide) rfl rfl rfl (Nat.le_of_ble_eq_true rfl) dL_law_525 ⟨show _ ≤ 601024 by omega, show _ ≤ 7293034 by omega⟩ (fun r3 S3 h3 => ?_) rfl
  refine hr_tp (y := u2 14 0 0) h3.1 ?_
  refine hr_st (S1 := u2) h3.2 ?_
  refine hr_iload C dL_law_528 1 rfl ?_
  refine hr_icmp_eq C 535 dL_law_530 (by decide) (fun c530 => ?_) (fun c530 => ?_)
  · skip
    refine hr_iload C dL_law_535 1 rfl ?_
    refine hr_if_ne C 559 dL_law_537 (by decide) (fun c537 => ?_) (fun c537 => ?_)
    · skip
      refine hr_goto C 1074 dL_law_559 (by decide) ?_
      refine hr_sub [2, 3, 4, 5, 6] rfl ?_
      refine hr_wd (k := cells + 4) (n := slots + 24) (by omega) (by omega) ?_
      exact K _ _ hP.1
    · skip
      refine hr_aload_n C dL_law_540 rfl 6 rfl ?_
      refine hr_iconst (v := 0) C dL_law_541 (by decide) ?_
      refine hr_lald C dL_law_542 ?_
      refine hr_iload C dL_law_543 0 rfl ?_
      refine hr_if_eq C 552 dL_law_545 (by decide) (fun c545 => ?_) (fun c545 => ?_)
      · skip
        refine hr_lconst (v := 0) C dL_law_552 (by decide) ?_
        refine hr_lcmp (v := 0) C dL_law_553 (by rw [hP.2.2 c537, show hl_z r2 = 0 from if_pos c545]; exact lg_cmp_rf _) ?_
        refine hr_if_eq C 559 dL_law_554 (by decide) (fun c554 => ?_) (fun c554 => ?_)
        · skip
          refine hr_goto C 1074 dL_law_559 (by decide) ?_
          refine hr_sub [2, 3, 4, 5, 6] rfl ?_
          refine hr_wd (k := cells + 4) (n := slots + 24) (by omega) (by omega) ?_
          exact K _ _ hP.1
        · skip
          exact absurd rfl c554
      · skip
        refine hr_lconst (v := 1) C dL_law_548 (by decide) ?_
        refine hr_goto C 553 dL_law_549 (by decide) ?_
        refine hr_lcmp (v := 0) C dL_law_553 (by rw [hP.2.2 c537, show hl_z r2 = 1 from if_neg c545]; exact lg_cmp_rf _) ?_
        refine hr_if_eq C 559 dL_law_554 (by decide) (fun c554 => ?_) (fun c554 => ?_)
        · skip
          refine hr_goto C 1074 dL_law_559 (by decide) ?_
          refine hr_sub [2, 3, 4, 5, 6] rfl ?_
          refine hr_wd (k := cells + 4) (n := slots + 24) (by omega) (by omega) ?_
          exact K _ _ hP.1
        · skip
          exact absurd rfl c554
  · exact absurd hP.2.1 c530
set_option maxHeartbeats 4000000 in
set_option maxRecDepth 100000 in
theorem lc_lose {p : Program} {l : Launch} {e : Env} {s : State} {m : MethodId} {below : List Frame} {meth : Method} {c : Code} {Q : State → Prop} {E : hr_E} {cells slots b L : Nat} {xs : Nat → Int32} {c0 : Cond} (htr : l.stackTraces = false) (C : hr_C p s m #[Value.ref b] meth c cL_law RL c0 7 E) (hX : va_X b L xs s s.heap) (hbl : b < s.heap.size) (hbA : ¬ hr_A E b) (hL : L ≤ 2048) (t : Nat) (S : hr_S) (o : Int64) (hR : hr_R S) (ht : 4 * t + 4 ≤ L) (hcl : cells + 4 ≤ 601024) (hsl : slots + 24 ≤ 7293034)
  (K : ∀ (S2 : hr_S) (o2 : Int64), hr_R S2 → hr_G p l e room_1 s m #[Value.ref b] below meth c Q E 7 (cells + 4) (slots + 24) S2 o2 [(4, .int (nI (4 * t))), (0, .ref b), (1, .ref (hr_ad E 0 0)), (2, .ref (hr_ad E 14 0)), (3, .ref (hr_ad E 27 0))] 1074 []) : hr_G p l e room_1 s m #[Value.ref b] below meth c Q E 7 cells slots S o [(4, .int (nI (4 * t))), (0, .ref b), (1, .ref (hr_ad E 0 0)), (2, .ref (hr_ad E 14 0)), (3, .ref (hr_ad E 27 0))] 562 [] := by
  refine hr_aload_n C dL_law_562 rfl 2 rfl ?_
  refine hr_aload_n C dL_law_563 rfl 1 rfl ?_
  refine hr_iload C dL_law_564 0 rfl ?_
  refine hr_iconst (v := 1) C dL_law_566 (by decide) ?_
  refine hr_iadd (v := nI (4 * t + 1)) C dL_law_567 (nI_add (4 * t) 1) ?_
  refine hr_sld (4 * t + 1) C hX hbl hbA rfl (by omega) (by omega) dL_law_568 ?_
  refine hr_aload_n C dL_law_569 rfl 4 rfl ?_
  refine hr_lS (As := [.ref (hr_ad E 0 0), .int (xs (4 * t + 1)), .ref (hr_ad E 27 0)]) (st := []) C (ct_L_lose l htr E S o (xs (4 * t + 1)) hR.1.1) (vx_cwSW 3 C.1.2.2.2.2 (hr_gT kM_L_97 kT_L_lose kN_L kC_L_lose) rfl rfl rfl (by decide +kernel) ⟨(Nat.le_of_ble_eq_true rfl), (Nat.le_of_ble_eq_true rfl)⟩) rfl (Nat.le_of_ble_eq_true rfl) dL_law_570 ⟨show _ ≤ 601024 by omega, show _ ≤ 7293034 by omega⟩ (fun r1 u1 h1 => ?_) rfl
  refine hr_istore C [(5, .int (r1)), (4, .int (nI (4 * t))), (0, .ref b), (1, .ref (hr_ad E 0 0)), (2, .ref (hr_ad E 14 0)), (3, .ref (hr_ad E 27 0))] dL_law_573 (by decide) rfl ?_
  refine hr_aload_n C dL_law_575 rfl 4 rfl ?_
  refine hr_aload_n C dL_law_576 rfl 2 rfl ?_
  refine hr_iload C dL_law_577 1 rfl ?_
  refine hr_iconst (v := 1) C dL_law_579 (by decide) ?_
  refine hr_iadd (v := nI (4 * t + 1)) C dL_law_580 (nI_add (4 * t) 1) ?_
  refine hr_sld (4 * t + 1) C hX hbl hbA rfl (by omega) (by omega) dL_law_581 ?_
  refine hr_cVi (As := [.int (xs (4 * t + 1))]) (st := []) C (ct_X4_lose l E u1.1 u1.2 (xs (4 * t + 1)) (pm_lose hR (xs (4 * t + 1)) h1)) (cwV 1 C.1.2.2.2.2 (hr_gV kM_L_99 kI_X4_lose kS_X4_lose kN_X4 kC_X4_lose) rfl rfl rfl (by decide +kernel) ⟨(Nat.le_of_ble_eq_true rfl), (Nat.le_of_ble_eq_true rfl)⟩) (by decide) rfl rfl rfl (Nat.le_of_ble_eq_true rfl) dL_law_582 ⟨show _ ≤ 601024 by omega, show _ ≤ 7293034 by omega⟩ (fun r2 u2 h2 => ?_) rfl
  have hP := pu_lose hR (xs (4 * t + 1)) h1 h2
  refine hr_istore C [(6, .int (r2)), (5, .int (r1)), (4, .int (nI (4 * t))), (0, .ref b), (1, .ref (hr_ad E 0 0)), (2, .ref (hr_ad E 14 0)), (3, .ref (hr_ad E 27 0))] dL_law_585 (by decide) rfl ?_
  refine hr_aload_n C dL_law_587 rfl 5 rfl ?_
  refine hr_cVi (As := []) (st := []) C (ct_X4_thrown l E u2 u1.2) (cwV 0 C.1.2.2.2.2 (hr_gV kM_L_74 kI_X4_thrown kS_X4_thrown kN_X4 kC_X4_thrown) rfl rfl rfl (by decide +kernel) ⟨(Nat.le_of_ble_eq_true rfl), (Nat.le_of_ble_eq_true rfl)⟩) (by decide) rfl rfl rfl (Nat.le_of_ble_eq_true rfl) dL_law_588 ⟨show _ ≤ 601024 by omega, show _ ≤ 7293034 by omega⟩ (fun r3 S3 h3 => ?_) rfl
  refine hr_tp (y := u2 14 0 0) h3.1 ?_
  refine hr_st (S1 := u2) h3.2 ?_
  refine hr_iload C dL_law_591 1 rfl ?_
  refine hr_icmp_eq C 598 dL_law_593 (by decide) (fun c593 => ?_) (fun c593 => ?_)
  · skip
    refine hr_iload C dL_law_598 1 rfl ?_
    refine hr_if_ne C 615 dL_law_600 (by decide) (fun c600 => ?_) (fun c600 => ?_)
    · skip
      refine hr_goto C 1074 dL_law_615 (by decide) ?_
      refine hr_sub [2, 3, 4, 5, 6] rfl ?_
      refine hr_wd (k := cells + 4) (n := slots + 24) (by omega) (by omega) ?_
      exact K _ _ hP.1
    · skip
      refine hr_aload_n C dL_law_603 rfl 6 rfl ?_
      refine hr_iconst (v := 0) C dL_law_604 (by decide) ?_
      refine hr_lald C dL_law_605 ?_
      refine hr_iload C dL_law_606 0 rfl ?_
      refine hr_i2l C dL_law_608 rfl ?_
      refine hr_lcmp (v := 0) C dL_law_609 (by rw [hP.2.2 c600]; exact lg_cmp_rf _) ?_
      refine hr_if_eq C 615 dL_law_610 (by decide) (fun c610 => ?_) (fun c610 => ?_)
      · skip
        refine hr_goto C 1074 dL_law_615 (by decide) ?_
        refine hr_sub [2, 3, 4, 5, 6] rfl ?_
        refine hr_wd (k := cells + 4) (n := slots + 24) (by omega) (by omega) ?_
        exact K _ _ hP.1
      · skip
        exact absurd rfl c610
  · exact absurd hP.2.1 c593
set_option maxHeartbeats 4000000 in
set_option maxRecDepth 100000 in
theorem lc_twice {p : Program} {l : Launch} {e : Env} {s : State} {m : MethodId} {below : List Frame} {meth : Method} {c : Code} {Q : State → Prop} {E : hr_E} {cells slots b L : Nat} {xs : Nat → Int32} {c0 : Cond} (htr : l.stackTraces = false) (C : hr_C p s m #[Value.ref b] meth c cL_law RL c0 7 E) (hX : va_X b L xs s s.heap) (hbl : b < s.heap.size) (hbA : ¬ hr_A E b) (hL : L ≤ 2048) (t : Nat) (S : hr_S) (o : Int64) (hR : hr_R S) (ht : 4 * t + 4 ≤ L) (hcl : cells + 4 ≤ 601024) (hsl : slots + 24 ≤ 7293034)
  (K : ∀ (S2 : hr_S) (o2 : Int64), hr_R S2 → hr_G p l e room_1 s m #[Value.ref b] below meth c Q E 7 (cells + 4) (slots + 24) S2 o2 [(4, .int (nI (4 * t))), (0, .ref b), (1, .ref (hr_ad E 0 0)), (2, .ref (hr_ad E 14 0)), (3, .ref (hr_ad E 27 0))] 1074 []) : hr_G p l e room_1 s m #[Value.ref b] below meth c Q E 7 cells slots S o [(4, .int (nI (4 * t))), (0, .ref b), (1, .ref (hr_ad E 0 0)), (2, .ref (hr_ad E 14 0)), (3, .ref (hr_ad E 27 0))] 618 [] := by
  refine hr_aload_n C dL_law_618 rfl 2 rfl ?_
  refine hr_aload_n C dL_law_619 rfl 1 rfl ?_
  refine hr_iload C dL_law_620 0 rfl ?_
  refine hr_iconst (v := 1) C dL_law_622 (by decide) ?_
  refine hr_iadd (v := nI (4 * t + 1)) C dL_law_623 (nI_add (4 * t) 1) ?_
  refine hr_sld (4 * t + 1) C hX hbl hbA rfl (by omega) (by omega) dL_law_624 ?_
  refine hr_aload_n C dL_law_625 rfl 4 rfl ?_
  refine hr_lS (As := [.ref (hr_ad E 0 0), .int (xs (4 * t + 1)), .ref (hr_ad E 27 0)]) (st := []) C (ct_L_twice l htr E S o (xs (4 * t + 1)) hR.1.1) (vx_cwSW 3 C.1.2.2.2.2 (hr_gT kM_L_100 kT_L_twice kN_L kC_L_twice) rfl rfl rfl (by decide +kernel) ⟨(Nat.le_of_ble_eq_true rfl), (Nat.le_of_ble_eq_true rfl)⟩) rfl (Nat.le_of_ble_eq_true rfl) dL_law_626 ⟨show _ ≤ 601024 by omega, show _ ≤ 7293034 by omega⟩ (fun r1 u1 h1 => ?_) rfl
  refine hr_istore C [(5, .int (r1)), (4, .int (nI (4 * t))), (0, .ref b), (1, .ref (hr_ad E 0 0)), (2, .ref (hr_ad E 14 0)), (3, .ref (hr_ad E 27 0))] dL_law_629 (by decide) rfl ?_
  refine hr_aload_n C dL_law_631 rfl 4 rfl ?_
  refine hr_aload_n C dL_law_632 rfl 2 rfl ?_
  refine hr_iload C dL_law_633 1 rfl ?_
  refine hr_iconst (v := 1) C dL_law_635 (by decide) ?_
  refine hr_iadd (v := nI (4 * t + 1)) C dL_law_636 (nI_add (4 * t) 1) ?_
  refine hr_sld (4 * t + 1) C hX hbl hbA rfl (by omega) (by omega) dL_law_637 ?_
  refine hr_cVi (As := [.int (xs (4 * t + 1))]) (st := []) C (ct_X4_twice l E u1.1 u1.2 (xs (4 * t + 1)) (pm_twice hR (xs (4 * t + 1)) h1)) (cwV 1 C.1.2.2.2.2 (hr_gV kM_L_102 kI_X4_twice kS_X4_twice kN_X4 kC_X4_twice) rfl rfl rfl (by decide +kernel) ⟨(Nat.le_of_ble_eq_true rfl), (Nat.le_of_ble_eq_true rfl)⟩) (by decide) rfl rfl rfl (Nat.le_of_ble_eq_true rfl) dL_law_638 ⟨show _ ≤ 601024 by omega, show _ ≤ 7293034 by omega⟩ (fun r2 u2 h2 => ?_) rfl
  have hP := pu_twice hR (xs (4 * t + 1)) h1 h2
  refine hr_istore C [(6, .int (r2)), (5, .int (r1)), (4, .int (nI (4 * t))), (0, .ref b), (1, .ref (hr_ad E 0 0)), (2, .ref (hr_ad E 14 0)), (3, .ref (hr_ad E 27 0))] dL_law_641 (by decide) rfl ?_
  refine hr_aload_n C dL_law_643 rfl 5 rfl ?_
  refine hr_cVi (As := []) (st := []) C (ct_X4_thrown l E u2 u1.2) (cwV 0 C.1.2.2.2.2 (hr_gV kM_L_74 kI_X4_thrown kS_X4_thrown kN_X4 kC_X4_thrown) rfl rfl rfl (by decide +kernel) ⟨(Nat.le_of_ble_eq_true rfl), (Nat.le_of_ble_eq_true rfl)⟩) (by decide) rfl rfl rfl (Nat.le_of_ble_eq_true rfl) dL_law_644 ⟨show _ ≤ 601024 by omega, show _ ≤ 7293034 by omega⟩ (fun r3 S3 h3 => ?_) rfl
  refine hr_tp (y := u2 14 0 0) h3.1 ?_
  refine hr_st (S1 := u2) h3.2 ?_
  refine hr_iload C dL_law_647 1 rfl ?_
  refine hr_icmp_eq C 654 dL_law_649 (by decide) (fun c649 => ?_) (fun c649 => ?_)
  · skip
    refine hr_iload C dL_law_654 1 rfl ?_
    refine hr_if_ne C 671 dL_law_656 (by decide) (fun c656 => ?_) (fun c656 => ?_)
    · skip
      refine hr_goto C 1074 dL_law_671 (by decide) ?_
      refine hr_sub [2, 3, 4, 5, 6] rfl ?_
      refine hr_wd (k := cells + 4) (n := slots + 24) (by omega) (by omega) ?_
      exact K _ _ hP.1
    · skip
      refine hr_aload_n C dL_law_659 rfl 6 rfl ?_
      refine hr_iconst (v := 0) C dL_law_660 (by decide) ?_
      refine hr_lald C dL_law_661 ?_
      refine hr_iload C dL_law_662 0 rfl ?_
      refine hr_i2l C dL_law_664 rfl ?_
      refine hr_lcmp (v := 0) C dL_law_665 (by rw [hP.2.2 c656]; exact lg_cmp_rf _) ?_
      refine hr_if_eq C 671 dL_law_666 (by decide) (fun c666 => ?_) (fun c666 => ?_)
      · skip
        refine hr_goto C 1074 dL_law_671 (by decide) ?_
        refine hr_sub [2, 3, 4, 5, 6] rfl ?_
        refine hr_wd (k := cells + 4) (n := slots + 24) (by omega) (by omega) ?_
        exact K _ _ hP.1
      · skip
        exact absurd rfl c666
  · exact absurd hP.2.1 c649
set_option maxHeartbeats 4000000 in
set_option maxRecDepth 100000 in
theorem lc_poke {p : Program} {l : Launch} {e : Env} {s : State} {m : MethodId} {below : List Frame} {meth : Method} {c : Code} {Q : State → Prop} {E : hr_E} {cells slots b L : Nat} {xs : Nat → Int32} {c0 : Cond} (htr : l.stackTraces = false) (C : hr_C p s m #[Value.ref b] meth c cL_law RL c0 7 E) (hX : va_X b L xs s s.heap) (hbl : b < s.heap.size) (hbA : ¬ hr_A E b) (hL : L ≤ 2048) (t : Nat) (S : hr_S) (o : Int64) (hR : hr_R S) (ht : 4 * t + 4 ≤ L) (hcl : cells + 4 ≤ 601024) (hsl : slots + 24 ≤ 7293034)
  (K : ∀ (S2 : hr_S) (o2 : Int64), hr_R S2 → hr_G p l e room_1 s m #[Value.ref b] below meth c Q E 7 (cells + 4) (slots + 24) S2 o2 [(4, .int (nI (4 * t))), (0, .ref b), (1, .ref (hr_ad E 0 0)), (2, .ref (hr_ad E 14 0)), (3, .ref (hr_ad E 27 0))] 1074 []) : hr_G p l e room_1 s m #[Value.ref b] below meth c Q E 7 cells slots S o [(4, .int (nI (4 * t))), (0, .ref b), (1, .ref (hr_ad E 0 0)), (2, .ref (hr_ad E 14 0)), (3, .ref (hr_ad E 27 0))] 674 [] := by
  refine hr_aload_n C dL_law_674 rfl 2 rfl ?_
  refine hr_aload_n C dL_law_675 rfl 1 rfl ?_
  refine hr_iload C dL_law_676 0 rfl ?_
  refine hr_iconst (v := 1) C dL_law_678 (by decide) ?_
  refine hr_iadd (v := nI (4 * t + 1)) C dL_law_679 (nI_add (4 * t) 1) ?_
  refine hr_sld (4 * t + 1) C hX hbl hbA rfl (by omega) (by omega) dL_law_680 ?_
  refine hr_aload_n C dL_law_681 rfl 1 rfl ?_
  refine hr_iload C dL_law_682 0 rfl ?_
  refine hr_iconst (v := 2) C dL_law_684 (by decide) ?_
  refine hr_iadd (v := nI (4 * t + 2)) C dL_law_685 (nI_add (4 * t) 2) ?_
  refine hr_sld (4 * t + 2) C hX hbl hbA rfl (by omega) (by omega) dL_law_686 ?_
  refine hr_aload_n C dL_law_687 rfl 1 rfl ?_
  refine hr_iload C dL_law_688 0 rfl ?_
  refine hr_iconst (v := 3) C dL_law_690 (by decide) ?_
  refine hr_iadd (v := nI (4 * t + 3)) C dL_law_691 (nI_add (4 * t) 3) ?_
  refine hr_sld (4 * t + 3) C hX hbl hbA rfl (by omega) (by omega) dL_law_692 ?_
  refine hr_aload_n C dL_law_693 rfl 4 rfl ?_
  refine hr_lS (As := [.ref (hr_ad E 0 0), .int (xs (4 * t + 1)), .int (xs (4 * t + 2)), .int (xs (4 * t + 3)), .ref (hr_ad E 27 0)]) (st := []) C (ct_L_poke l htr E S o (xs (4 * t + 1)) (xs (4 * t + 2)) (xs (4 * t + 3)) hR.1.1) (vx_cwSW 5 C.1.2.2.2.2 (hr_gT kM_L_103 kT_L_poke kN_L kC_L_poke) rfl rfl rfl (by decide +kernel) ⟨(Nat.le_of_ble_eq_true rfl), (Nat.le_of_ble_eq_true rfl)⟩) rfl (Nat.le_of_ble_eq_true rfl) dL_law_694 ⟨show _ ≤ 601024 by omega, show _ ≤ 7293034 by omega⟩ (fun r1 u1 h1 => ?_) rfl
  refine hr_istore C [(5, .int (r1)), (4, .int (nI (4 * t))), (0, .ref b), (1, .ref (hr_ad E 0 0)), (2, .ref (hr_ad E 14 0)), (3, .ref (hr_ad E 27 0))] dL_law_697 (by decide) rfl ?_
  refine hr_aload_n C dL_law_699 rfl 4 rfl ?_
  refine hr_aload_n C dL_law_700 rfl 2 rfl ?_
  refine hr_iload C dL_law_701 1 rfl ?_
  refine hr_iconst (v := 1) C dL_law_703 (by decide) ?_
  refine hr_iadd (v := nI (4 * t + 1)) C dL_law_704 (nI_add (4 * t) 1) ?_
  refine hr_sld (4 * t + 1) C hX hbl hbA rfl (by omega) (by omega) dL_law_705 ?_
  refine hr_aload_n C dL_law_706 rfl 2 rfl ?_
  refine hr_iload C dL_law_707 1 rfl ?_
  refine hr_iconst (v := 2) C dL_law_709 (by decide) ?_
  refine hr_iadd (v := nI (4 * t + 2)) C dL_law_710 (nI_add (4 * t) 2) ?_
  refine hr_sld (4 * t + 2) C hX hbl hbA rfl (by omega) (by omega) dL_law_711 ?_
  refine hr_aload_n C dL_law_712 rfl 2 rfl ?_
  refine hr_iload C dL_law_713 1 rfl ?_
  refine hr_iconst (v := 3) C dL_law_715 (by decide) ?_
  refine hr_iadd (v := nI (4 * t + 3)) C dL_law_716 (nI_add (4 * t) 3) ?_
  refine hr_sld (4 * t + 3) C hX hbl hbA rfl (by omega) (by omega) dL_law_717 ?_
  refine hr_cVi (As := [.int (xs (4 * t + 1)), .int (xs (4 * t + 2)), .int (xs (4 * t + 3))]) (st := []) C (ct_X4_poke l E u1.1 u1.2 (xs (4 * t + 1)) (xs (4 * t + 2)) (xs (4 * t + 3)) (pm_poke hR (xs (4 * t + 1)) (xs (4 * t + 2)) (xs (4 * t + 3)) h1)) (cwV 3 C.1.2.2.2.2 (hr_gV kM_L_105 kI_X4_poke kS_X4_poke kN_X4 kC_X4_poke) rfl rfl rfl (by decide +kernel) ⟨(Nat.le_of_ble_eq_true rfl), (Nat.le_of_ble_eq_true rfl)⟩) (by decide) rfl rfl rfl (Nat.le_of_ble_eq_true rfl) dL_law_718 ⟨show _ ≤ 601024 by omega, show _ ≤ 7293034 by omega⟩ (fun r2 u2 h2 => ?_) rfl
  have hP := pu_poke hR (xs (4 * t + 1)) (xs (4 * t + 2)) (xs (4 * t + 3)) h1 h2
  refine hr_istore C [(6, .int (r2)), (5, .int (r1)), (4, .int (nI (4 * t))), (0, .ref b), (1, .ref (hr_ad E 0 0)), (2, .ref (hr_ad E 14 0)), (3, .ref (hr_ad E 27 0))] dL_law_721 (by decide) rfl ?_
  refine hr_aload_n C dL_law_723 rfl 5 rfl ?_
  refine hr_cVi (As := []) (st := []) C (ct_X4_thrown l E u2 u1.2) (cwV 0 C.1.2.2.2.2 (hr_gV kM_L_74 kI_X4_thrown kS_X4_thrown kN_X4 kC_X4_thrown) rfl rfl rfl (by decide +kernel) ⟨(Nat.le_of_ble_eq_true rfl), (Nat.le_of_ble_eq_true rfl)⟩) (by decide) rfl rfl rfl (Nat.le_of_ble_eq_true rfl) dL_law_724 ⟨show _ ≤ 601024 by omega, show _ ≤ 7293034 by omega⟩ (fun r3 S3 h3 => ?_) rfl
  refine hr_tp (y := u2 14 0 0) h3.1 ?_
  refine hr_st (S1 := u2) h3.2 ?_
  refine hr_iload C dL_law_727 1 rfl ?_
  refine hr_icmp_eq C 734 dL_law_729 (by decide) (fun c729 => ?_) (fun c729 => ?_)
  · skip
    refine hr_iload C dL_law_734 1 rfl ?_
    refine hr_if_ne C 751 dL_law_736 (by decide) (fun c736 => ?_) (fun c736 => ?_)
    · skip
      refine hr_goto C 1074 dL_law_751 (by decide) ?_
      refine hr_sub [2, 3, 4, 5, 6] rfl ?_
      refine hr_wd (k := cells + 4) (n := slots + 24) (by omega) (by omega) ?_
      exact K _ _ hP.1
    · skip
      refine hr_aload_n C dL_law_739 rfl 6 rfl ?_
      refine hr_iconst (v := 0) C dL_law_740 (by decide) ?_
      refine hr_lald C dL_law_741 ?_
      refine hr_iload C dL_law_742 0 rfl ?_
      refine hr_i2l C dL_law_744 rfl ?_
      refine hr_lcmp (v := 0) C dL_law_745 (by rw [hP.2.2 c736]; exact lg_cmp_rf _) ?_
      refine hr_if_eq C 751 dL_law_746 (by decide) (fun c746 => ?_) (fun c746 => ?_)
      · skip
        refine hr_goto C 1074 dL_law_751 (by decide) ?_
        refine hr_sub [2, 3, 4, 5, 6] rfl ?_
        refine hr_wd (k := cells + 4) (n := slots + 24) (by omega) (by omega) ?_
        exact K _ _ hP.1
      · skip
        exact absurd rfl c746
  · exact absurd hP.2.1 c729
set_option maxHeartbeats 4000000 in
set_option maxRecDepth 100000 in
theorem lc_cut {p : Program} {l : Launch} {e : Env} {s : State} {m : MethodId} {below : List Frame} {meth : Method} {c : Code} {Q : State → Prop} {E : hr_E} {cells slots b L : Nat} {xs : Nat → Int32} {c0 : Cond} (htr : l.stackTraces = false) (C : hr_C p s m #[Value.ref b] meth c cL_law RL c0 7 E) (hX : va_X b L xs s s.heap) (hbl : b < s.heap.size) (hbA : ¬ hr_A E b) (hL : L ≤ 2048) (t : Nat) (S : hr_S) (o : Int64) (hR : hr_R S) (ht : 4 * t + 4 ≤ L) (hcl : cells + 4 ≤ 601024) (hsl : slots + 24 ≤ 7293034)
  (K : ∀ (S2 : hr_S) (o2 : Int64), hr_R S2 → hr_G p l e room_1 s m #[Value.ref b] below meth c Q E 7 (cells + 4) (slots + 24) S2 o2 [(4, .int (nI (4 * t))), (0, .ref b), (1, .ref (hr_ad E 0 0)), (2, .ref (hr_ad E 14 0)), (3, .ref (hr_ad E 27 0))] 1074 []) : hr_G p l e room_1 s m #[Value.ref b] below meth c Q E 7 cells slots S o [(4, .int (nI (4 * t))), (0, .ref b), (1, .ref (hr_ad E 0 0)), (2, .ref (hr_ad E 14 0)), (3, .ref (hr_ad E 27 0))] 754 [] := by
  refine hr_aload_n C dL_law_754 rfl 2 rfl ?_
  refine hr_aload_n C dL_law_755 rfl 1 rfl ?_
  refine hr_iload C dL_law_756 0 rfl ?_
  refine hr_iconst (v := 1) C dL_law_758 (by decide) ?_
  refine hr_iadd (v := nI (4 * t + 1)) C dL_law_759 (nI_add (4 * t) 1) ?_
  refine hr_sld (4 * t + 1) C hX hbl hbA rfl (by omega) (by omega) dL_law_760 ?_
  refine hr_aload_n C dL_law_761 rfl 1 rfl ?_
  refine hr_iload C dL_law_762 0 rfl ?_
  refine hr_iconst (v := 2) C dL_law_764 (by decide) ?_
  refine hr_iadd (v := nI (4 * t + 2)) C dL_law_765 (nI_add (4 * t) 2) ?_
  refine hr_sld (4 * t + 2) C hX hbl hbA rfl (by omega) (by omega) dL_law_766 ?_
  refine hr_lS (As := [.ref (hr_ad E 0 0), .int (xs (4 * t + 1)), .int (xs (4 * t + 2))]) (st := []) C (ct_L_cut l htr E S o (xs (4 * t + 1)) (xs (4 * t + 2)) hR.1.1) (vx_cwSW 3 C.1.2.2.2.2 (hr_gT kM_L_106 kT_L_cut kN_L kC_L_cut) rfl rfl rfl (by decide +kernel) ⟨(Nat.le_of_ble_eq_true rfl), (Nat.le_of_ble_eq_true rfl)⟩) rfl (Nat.le_of_ble_eq_true rfl) dL_law_767 ⟨show _ ≤ 601024 by omega, show _ ≤ 7293034 by omega⟩ (fun r1 u1 h1 => ?_) rfl
  refine hr_istore C [(5, .int (r1)), (4, .int (nI (4 * t))), (0, .ref b), (1, .ref (hr_ad E 0 0)), (2, .ref (hr_ad E 14 0)), (3, .ref (hr_ad E 27 0))] dL_law_770 (by decide) rfl ?_
  refine hr_aload_n C dL_law_772 rfl 4 rfl ?_
  refine hr_aload_n C dL_law_773 rfl 2 rfl ?_
  refine hr_iload C dL_law_774 1 rfl ?_
  refine hr_iconst (v := 1) C dL_law_776 (by decide) ?_
  refine hr_iadd (v := nI (4 * t + 1)) C dL_law_777 (nI_add (4 * t) 1) ?_
  refine hr_sld (4 * t + 1) C hX hbl hbA rfl (by omega) (by omega) dL_law_778 ?_
  refine hr_aload_n C dL_law_779 rfl 2 rfl ?_
  refine hr_iload C dL_law_780 1 rfl ?_
  refine hr_iconst (v := 2) C dL_law_782 (by decide) ?_
  refine hr_iadd (v := nI (4 * t + 2)) C dL_law_783 (nI_add (4 * t) 2) ?_
  refine hr_sld (4 * t + 2) C hX hbl hbA rfl (by omega) (by omega) dL_law_784 ?_
  refine hr_cVv (As := [.int (xs (4 * t + 1)), .int (xs (4 * t + 2))]) (st := []) C (ct_X4_cut l E u1.1 u1.2 (xs (4 * t + 1)) (xs (4 * t + 2)) (pm_cut hR (xs (4 * t + 1)) (xs (4 * t + 2)) h1)) (cwV 2 C.1.2.2.2.2 (hr_gV kM_L_109 kI_X4_cut kS_X4_cut kN_X4 kC_X4_cut) rfl rfl rfl (by decide +kernel) ⟨(Nat.le_of_ble_eq_true rfl), (Nat.le_of_ble_eq_true rfl)⟩) (by decide) rfl rfl rfl (Nat.le_of_ble_eq_true rfl) dL_law_785 ⟨show _ ≤ 601024 by omega, show _ ≤ 7293034 by omega⟩ (fun u2 h2 => ?_) rfl
  have hP := pu_cut hR (xs (4 * t + 1)) (xs (4 * t + 2)) h1 h2
  refine hr_aload_n C dL_law_788 rfl 4 rfl ?_
  refine hr_cVi (As := []) (st := []) C (ct_X4_thrown l E u2 u1.2) (cwV 0 C.1.2.2.2.2 (hr_gV kM_L_74 kI_X4_thrown kS_X4_thrown kN_X4 kC_X4_thrown) rfl rfl rfl (by decide +kernel) ⟨(Nat.le_of_ble_eq_true rfl), (Nat.le_of_ble_eq_true rfl)⟩) (by decide) rfl rfl rfl (Nat.le_of_ble_eq_true rfl) dL_law_789 ⟨show _ ≤ 601024 by omega, show _ ≤ 7293034 by omega⟩ (fun r3 S3 h3 => ?_) rfl
  refine hr_tp (y := u2 14 0 0) h3.1 ?_
  refine hr_st (S1 := u2) h3.2 ?_
  refine hr_iload C dL_law_792 0 rfl ?_
  refine hr_icmp_eq C 799 dL_law_794 (by decide) (fun c794 => ?_) (fun c794 => ?_)
  · skip
    refine hr_goto C 1074 dL_law_799 (by decide) ?_
    refine hr_sub [1, 2, 3, 4, 5] rfl ?_
    refine hr_wd (k := cells + 4) (n := slots + 24) (by omega) (by omega) ?_
    exact K _ _ hP.1
  · exact absurd hP.2 c794
set_option maxHeartbeats 4000000 in
set_option maxRecDepth 100000 in
theorem lc_packet {p : Program} {l : Launch} {e : Env} {s : State} {m : MethodId} {below : List Frame} {meth : Method} {c : Code} {Q : State → Prop} {E : hr_E} {cells slots b L : Nat} {xs : Nat → Int32} {c0 : Cond} (htr : l.stackTraces = false) (C : hr_C p s m #[Value.ref b] meth c cL_law RL c0 7 E) (hX : va_X b L xs s s.heap) (hbl : b < s.heap.size) (hbA : ¬ hr_A E b) (hL : L ≤ 2048) (t : Nat) (S : hr_S) (o : Int64) (hR : hr_R S) (ht : 4 * t + 4 ≤ L) (hcl : cells + 4 ≤ 601024) (hsl : slots + 24 ≤ 7293034)
  (K : ∀ (S2 : hr_S) (o2 : Int64), hr_R S2 → hr_G p l e room_1 s m #[Value.ref b] below meth c Q E 7 (cells + 4) (slots + 24) S2 o2 [(4, .int (nI (4 * t))), (0, .ref b), (1, .ref (hr_ad E 0 0)), (2, .ref (hr_ad E 14 0)), (3, .ref (hr_ad E 27 0))] 1074 []) : hr_G p l e room_1 s m #[Value.ref b] below meth c Q E 7 cells slots S o [(4, .int (nI (4 * t))), (0, .ref b), (1, .ref (hr_ad E 0 0)), (2, .ref (hr_ad E 14 0)), (3, .ref (hr_ad E 27 0))] 802 [] := by
  refine hr_aload_n C dL_law_802 rfl 2 rfl ?_
  refine hr_aload_n C dL_law_803 rfl 1 rfl ?_
  refine hr_iload C dL_law_804 0 rfl ?_
  refine hr_iconst (v := 1) C dL_law_806 (by decide) ?_
  refine hr_iadd (v := nI (4 * t + 1)) C dL_law_807 (nI_add (4 * t) 1) ?_
  refine hr_sld (4 * t + 1) C hX hbl hbA rfl (by omega) (by omega) dL_law_808 ?_
  refine hr_aload_n C dL_law_809 rfl 1 rfl ?_
  refine hr_iload C dL_law_810 0 rfl ?_
  refine hr_iconst (v := 2) C dL_law_812 (by decide) ?_
  refine hr_iadd (v := nI (4 * t + 2)) C dL_law_813 (nI_add (4 * t) 2) ?_
  refine hr_sld (4 * t + 2) C hX hbl hbA rfl (by omega) (by omega) dL_law_814 ?_
  refine hr_aload_n C dL_law_815 rfl 4 rfl ?_
  refine hr_lS (As := [.ref (hr_ad E 0 0), .int (xs (4 * t + 1)), .int (xs (4 * t + 2)), .ref (hr_ad E 27 0)]) (st := []) C (ct_L_packet l htr E S o (xs (4 * t + 1)) (xs (4 * t + 2)) hR.1.1) (vx_cwSW 4 C.1.2.2.2.2 (hr_gT kM_L_110 kT_L_packet kN_L kC_L_packet) rfl rfl rfl (by decide +kernel) ⟨(Nat.le_of_ble_eq_true rfl), (Nat.le_of_ble_eq_true rfl)⟩) rfl (Nat.le_of_ble_eq_true rfl) dL_law_816 ⟨show _ ≤ 601024 by omega, show _ ≤ 7293034 by omega⟩ (fun r1 u1 h1 => ?_) rfl
  refine hr_istore C [(5, .int (r1)), (4, .int (nI (4 * t))), (0, .ref b), (1, .ref (hr_ad E 0 0)), (2, .ref (hr_ad E 14 0)), (3, .ref (hr_ad E 27 0))] dL_law_819 (by decide) rfl ?_
  refine hr_aload_n C dL_law_821 rfl 4 rfl ?_
  refine hr_aload_n C dL_law_822 rfl 2 rfl ?_
  refine hr_iload C dL_law_823 1 rfl ?_
  refine hr_iconst (v := 1) C dL_law_825 (by decide) ?_
  refine hr_iadd (v := nI (4 * t + 1)) C dL_law_826 (nI_add (4 * t) 1) ?_
  refine hr_sld (4 * t + 1) C hX hbl hbA rfl (by omega) (by omega) dL_law_827 ?_
  refine hr_aload_n C dL_law_828 rfl 2 rfl ?_
  refine hr_iload C dL_law_829 1 rfl ?_
  refine hr_iconst (v := 2) C dL_law_831 (by decide) ?_
  refine hr_iadd (v := nI (4 * t + 2)) C dL_law_832 (nI_add (4 * t) 2) ?_
  refine hr_sld (4 * t + 2) C hX hbl hbA rfl (by omega) (by omega) dL_law_833 ?_
  refine hr_cVi (As := [.int (xs (4 * t + 1)), .int (xs (4 * t + 2))]) (st := []) C (ct_X4_packet l E u1.1 u1.2 (xs (4 * t + 1)) (xs (4 * t + 2)) (pm_packet hR (xs (4 * t + 1)) (xs (4 * t + 2)) h1)) (cwV 2 C.1.2.2.2.2 (hr_gV kM_L_112 kI_X4_packet kS_X4_packet kN_X4 kC_X4_packet) rfl rfl rfl (by decide +kernel) ⟨(Nat.le_of_ble_eq_true rfl), (Nat.le_of_ble_eq_true rfl)⟩) (by decide) rfl rfl rfl (Nat.le_of_ble_eq_true rfl) dL_law_834 ⟨show _ ≤ 601024 by omega, show _ ≤ 7293034 by omega⟩ (fun r2 u2 h2 => ?_) rfl
  have hP := pu_packet hR (xs (4 * t + 1)) (xs (4 * t + 2)) h1 h2
  refine hr_istore C [(6, .int (r2)), (5, .int (r1)), (4, .int (nI (4 * t))), (0, .ref b), (1, .ref (hr_ad E 0 0)), (2, .ref (hr_ad E 14 0)), (3, .ref (hr_ad E 27 0))] dL_law_837 (by decide) rfl ?_
  refine hr_aload_n C dL_law_839 rfl 5 rfl ?_
  refine hr_cVi (As := []) (st := []) C (ct_X4_thrown l E u2 u1.2) (cwV 0 C.1.2.2.2.2 (hr_gV kM_L_74 kI_X4_thrown kS_X4_thrown kN_X4 kC_X4_thrown) rfl rfl rfl (by decide +kernel) ⟨(Nat.le_of_ble_eq_true rfl), (Nat.le_of_ble_eq_true rfl)⟩) (by decide) rfl rfl rfl (Nat.le_of_ble_eq_true rfl) dL_law_840 ⟨show _ ≤ 601024 by omega, show _ ≤ 7293034 by omega⟩ (fun r3 S3 h3 => ?_) rfl
  refine hr_tp (y := u2 14 0 0) h3.1 ?_
  refine hr_st (S1 := u2) h3.2 ?_
  refine hr_iload C dL_law_843 1 rfl ?_
  refine hr_icmp_eq C 850 dL_law_845 (by decide) (fun c845 => ?_) (fun c845 => ?_)
  · skip
    refine hr_iload C dL_law_850 1 rfl ?_
    refine hr_if_ne C 867 dL_law_852 (by decide) (fun c852 => ?_) (fun c852 => ?_)
    · skip
      refine hr_goto C 1074 dL_law_867 (by decide) ?_
      refine hr_sub [2, 3, 4, 5, 6] rfl ?_
      refine hr_wd (k := cells + 4) (n := slots + 24) (by omega) (by omega) ?_
      exact K _ _ hP.1
    · skip
      refine hr_aload_n C dL_law_855 rfl 6 rfl ?_
      refine hr_iconst (v := 0) C dL_law_856 (by decide) ?_
      refine hr_lald C dL_law_857 ?_
      refine hr_iload C dL_law_858 0 rfl ?_
      refine hr_i2l C dL_law_860 rfl ?_
      refine hr_lcmp (v := 0) C dL_law_861 (by rw [hP.2.2 c852]; exact lg_cmp_rf _) ?_
      refine hr_if_eq C 867 dL_law_862 (by decide) (fun c862 => ?_) (fun c862 => ?_)
      · skip
        refine hr_goto C 1074 dL_law_867 (by decide) ?_
        refine hr_sub [2, 3, 4, 5, 6] rfl ?_
        refine hr_wd (k := cells + 4) (n := slots + 24) (by omega) (by omega) ?_
        exact K _ _ hP.1
      · skip
        exact absurd rfl c862
  · exact absurd hP.2.1 c845
set_option maxHeartbeats 4000000 in
set_option maxRecDepth 100000 in
theorem lc_route {p : Program} {l : Launch} {e : Env} {s : State} {m : MethodId} {below : List Frame} {meth : Method} {c : Code} {Q : State → Prop} {E : hr_E} {cells slots b L : Nat} {xs : Nat → Int32} {c0 : Cond} (htr : l.stackTraces = false) (C : hr_C p s m #[Value.ref b] meth c cL_law RL c0 7 E) (hX : va_X b L xs s s.heap) (hbl : b < s.heap.size) (hbA : ¬ hr_A E b) (hL : L ≤ 2048) (t : Nat) (S : hr_S) (o : Int64) (hR : hr_R S) (ht : 4 * t + 4 ≤ L) (hcl : cells + 4 ≤ 601024) (hsl : slots + 24 ≤ 7293034)
  (K : ∀ (S2 : hr_S) (o2 : Int64), hr_R S2 → hr_G p l e room_1 s m #[Value.ref b] below meth c Q E 7 (cells + 4) (slots + 24) S2 o2 [(4, .int (nI (4 * t))), (0, .ref b), (1, .ref (hr_ad E 0 0)), (2, .ref (hr_ad E 14 0)), (3, .ref (hr_ad E 27 0))] 1074 []) : hr_G p l e room_1 s m #[Value.ref b] below meth c Q E 7 cells slots S o [(4, .int (nI (4 * t))), (0, .ref b), (1, .ref (hr_ad E 0 0)), (2, .ref (hr_ad E 14 0)), (3, .ref (hr_ad E 27 0))] 870 [] := by
  refine hr_aload_n C dL_law_870 rfl 2 rfl ?_
  refine hr_aload_n C dL_law_871 rfl 1 rfl ?_
  refine hr_iload C dL_law_872 0 rfl ?_
  refine hr_iconst (v := 1) C dL_law_874 (by decide) ?_
  refine hr_iadd (v := nI (4 * t + 1)) C dL_law_875 (nI_add (4 * t) 1) ?_
  refine hr_sld (4 * t + 1) C hX hbl hbA rfl (by omega) (by omega) dL_law_876 ?_
  refine hr_aload_n C dL_law_877 rfl 1 rfl ?_
  refine hr_iload C dL_law_878 0 rfl ?_
  refine hr_iconst (v := 2) C dL_law_880 (by decide) ?_
  refine hr_iadd (v := nI (4 * t + 2)) C dL_law_881 (nI_add (4 * t) 2) ?_
  refine hr_sld (4 * t + 2) C hX hbl hbA rfl (by omega) (by omega) dL_law_882 ?_
  refine hr_aload_n C dL_law_883 rfl 1 rfl ?_
  refine hr_iload C dL_law_884 0 rfl ?_
  refine hr_iconst (v := 3) C dL_law_886 (by decide) ?_
  refine hr_iadd (v := nI (4 * t + 3)) C dL_law_887 (nI_add (4 * t) 3) ?_
  refine hr_sld (4 * t + 3) C hX hbl hbA rfl (by omega) (by omega) dL_law_888 ?_
  refine hr_aload_n C dL_law_889 rfl 4 rfl ?_
  refine hr_lS (As := [.ref (hr_ad E 0 0), .int (xs (4 * t + 1)), .int (xs (4 * t + 2)), .int (xs (4 * t + 3)), .ref (hr_ad E 27 0)]) (st := []) C (ct_L_route l htr E S o (xs (4 * t + 1)) (xs (4 * t + 2)) (xs (4 * t + 3)) hR.1.1) (vx_cwSW 5 C.1.2.2.2.2 (hr_gT kM_L_113 kT_L_route kN_L kC_L_route) rfl rfl rfl (by decide +kernel) ⟨(Nat.le_of_ble_eq_true rfl), (Nat.le_of_ble_eq_true rfl)⟩) rfl (Nat.le_of_ble_eq_true rfl) dL_law_890 ⟨show _ ≤ 601024 by omega, show _ ≤ 7293034 by omega⟩ (fun r1 u1 h1 => ?_) rfl
  refine hr_istore C [(5, .int (r1)), (4, .int (nI (4 * t))), (0, .ref b), (1, .ref (hr_ad E 0 0)), (2, .ref (hr_ad E 14 0)), (3, .ref (hr_ad E 27 0))] dL_law_893 (by decide) rfl ?_
  refine hr_aload_n C dL_law_895 rfl 4 rfl ?_
  refine hr_aload_n C dL_law_896 rfl 2 rfl ?_
  refine hr_iload C dL_law_897 1 rfl ?_
  refine hr_iconst (v := 1) C dL_law_899 (by decide) ?_
  refine hr_iadd (v := nI (4 * t + 1)) C dL_law_900 (nI_add (4 * t) 1) ?_
  refine hr_sld (4 * t + 1) C hX hbl hbA rfl (by omega) (by omega) dL_law_901 ?_
  refine hr_aload_n C dL_law_902 rfl 2 rfl ?_
  refine hr_iload C dL_law_903 1 rfl ?_
  refine hr_iconst (v := 2) C dL_law_905 (by decide) ?_
  refine hr_iadd (v := nI (4 * t + 2)) C dL_law_906 (nI_add (4 * t) 2) ?_
  refine hr_sld (4 * t + 2) C hX hbl hbA rfl (by omega) (by omega) dL_law_907 ?_
  refine hr_aload_n C dL_law_908 rfl 2 rfl ?_
  refine hr_iload C dL_law_909 1 rfl ?_
  refine hr_iconst (v := 3) C dL_law_911 (by decide) ?_
  refine hr_iadd (v := nI (4 * t + 3)) C dL_law_912 (nI_add (4 * t) 3) ?_
  refine hr_sld (4 * t + 3) C hX hbl hbA rfl (by omega) (by omega) dL_law_913 ?_
  refine hr_cVi (As := [.int (xs (4 * t + 1)), .int (xs (4 * t + 2)), .int (xs (4 * t + 3))]) (st := []) C (ct_X4_route l E u1.1 u1.2 (xs (4 * t + 1)) (xs (4 * t + 2)) (xs (4 * t + 3))) (cwV 3 C.1.2.2.2.2 (hr_gV kM_L_115 kI_X4_route kS_X4_route kN_X4 kC_X4_route) rfl rfl rfl (by decide +kernel) ⟨(Nat.le_of_ble_eq_true rfl), (Nat.le_of_ble_eq_true rfl)⟩) (by decide) rfl rfl rfl (Nat.le_of_ble_eq_true rfl) dL_law_914 ⟨show _ ≤ 601024 by omega, show _ ≤ 7293034 by omega⟩ (fun r2 u2 h2 => ?_) rfl
  have hP := pu_route hR (xs (4 * t + 1)) (xs (4 * t + 2)) (xs (4 * t + 3)) h1 h2
  refine hr_istore C [(6, .int (r2)), (5, .int (r1)), (4, .int (nI (4 * t))), (0, .ref b), (1, .ref (hr_ad E 0 0)), (2, .ref (hr_ad E 14 0)), (3, .ref (hr_ad E 27 0))] dL_law_917 (by decide) rfl ?_
  refine hr_aload_n C dL_law_919 rfl 5 rfl ?_
  refine hr_cVi (As := []) (st := []) C (ct_X4_thrown l E u2 u1.2) (cwV 0 C.1.2.2.2.2 (hr_gV kM_L_74 kI_X4_thrown kS_X4_thrown kN_X4 kC_X4_thrown) rfl rfl rfl (by decide +kernel) ⟨(Nat.le_of_ble_eq_true rfl), (Nat.le_of_ble_eq_true rfl)⟩) (by decide) rfl rfl rfl (Nat.le_of_ble_eq_true rfl) dL_law_920 ⟨show _ ≤ 601024 by omega, show _ ≤ 7293034 by omega⟩ (fun r3 S3 h3 => ?_) rfl
  refine hr_tp (y := u2 14 0 0) h3.1 ?_
  refine hr_st (S1 := u2) h3.2 ?_
  refine hr_iload C dL_law_923 1 rfl ?_
  refine hr_icmp_eq C 930 dL_law_925 (by decide) (fun c925 => ?_) (fun c925 => ?_)
  · skip
    refine hr_iload C dL_law_930 1 rfl ?_
    refine hr_if_ne C 947 dL_law_932 (by decide) (fun c932 => ?_) (fun c932 => ?_)
    · skip
      refine hr_goto C 1074 dL_law_947 (by decide) ?_
      refine hr_sub [2, 3, 4, 5, 6] rfl ?_
      refine hr_wd (k := cells + 4) (n := slots + 24) (by omega) (by omega) ?_
      exact K _ _ hP.1
    · skip
      refine hr_aload_n C dL_law_935 rfl 6 rfl ?_
      refine hr_iconst (v := 0) C dL_law_936 (by decide) ?_
      refine hr_lald C dL_law_937 ?_
      refine hr_iload C dL_law_938 0 rfl ?_
      refine hr_i2l C dL_law_940 rfl ?_
      refine hr_lcmp (v := 0) C dL_law_941 (by rw [hP.2.2 c932]; exact lg_cmp_rf _) ?_
      refine hr_if_eq C 947 dL_law_942 (by decide) (fun c942 => ?_) (fun c942 => ?_)
      · skip
        refine hr_goto C 1074 dL_law_947 (by decide) ?_
        refine hr_sub [2, 3, 4, 5, 6] rfl ?_
        refine hr_wd (k := cells + 4) (n := slots + 24) (by omega) (by omega) ?_
        exact K _ _ hP.1
      · skip
        exact absurd rfl c942
  · exact absurd hP.2.1 c925
set_option maxHeartbeats 4000000 in
set_option maxRecDepth 100000 in
theorem lc_send {p : Program} {l : Launch} {e : Env} {s : State} {m : MethodId} {below : List Frame} {meth : Method} {c : Code} {Q : State → Prop} {E : hr_E} {cells slots b L : Nat} {xs : Nat → Int32} {c0 : Cond} (htr : l.stackTraces = false) (C : hr_C p s m #[Value.ref b] meth c cL_law RL c0 7 E) (hX : va_X b L xs s s.heap) (hbl : b < s.heap.size) (hbA : ¬ hr_A E b) (hL : L ≤ 2048) (t : Nat) (S : hr_S) (o : Int64) (hR : hr_R S) (ht : 4 * t + 4 ≤ L) (hcl : cells + 4 ≤ 601024) (hsl : slots + 24 ≤ 7293034)
  (K : ∀ (S2 : hr_S) (o2 : Int64), hr_R S2 → hr_G p l e room_1 s m #[Value.ref b] below meth c Q E 7 (cells + 4) (slots + 24) S2 o2 [(4, .int (nI (4 * t))), (0, .ref b), (1, .ref (hr_ad E 0 0)), (2, .ref (hr_ad E 14 0)), (3, .ref (hr_ad E 27 0))] 1074 []) : hr_G p l e room_1 s m #[Value.ref b] below meth c Q E 7 cells slots S o [(4, .int (nI (4 * t))), (0, .ref b), (1, .ref (hr_ad E 0 0)), (2, .ref (hr_ad E 14 0)), (3, .ref (hr_ad E 27 0))] 950 [] := by
  refine hr_aload_n C dL_law_950 rfl 2 rfl ?_
  refine hr_aload_n C dL_law_951 rfl 1 rfl ?_
  refine hr_iload C dL_law_952 0 rfl ?_
  refine hr_iconst (v := 1) C dL_law_954 (by decide) ?_
  refine hr_iadd (v := nI (4 * t + 1)) C dL_law_955 (nI_add (4 * t) 1) ?_
  refine hr_sld (4 * t + 1) C hX hbl hbA rfl (by omega) (by omega) dL_law_956 ?_
  refine hr_aload_n C dL_law_957 rfl 1 rfl ?_
  refine hr_iload C dL_law_958 0 rfl ?_
  refine hr_iconst (v := 2) C dL_law_960 (by decide) ?_
  refine hr_iadd (v := nI (4 * t + 2)) C dL_law_961 (nI_add (4 * t) 2) ?_
  refine hr_sld (4 * t + 2) C hX hbl hbA rfl (by omega) (by omega) dL_law_962 ?_
  refine hr_aload_n C dL_law_963 rfl 4 rfl ?_
  refine hr_lS (As := [.ref (hr_ad E 0 0), .int (xs (4 * t + 1)), .int (xs (4 * t + 2)), .ref (hr_ad E 27 0)]) (st := []) C (ct_L_send l htr E S o (xs (4 * t + 1)) (xs (4 * t + 2)) hR.1.1) (vx_cwSW 4 C.1.2.2.2.2 (hr_gT kM_L_116 kT_L_send kN_L kC_L_send) rfl rfl rfl (by decide +kernel) ⟨(Nat.le_of_ble_eq_true rfl), (Nat.le_of_ble_eq_true rfl)⟩) rfl (Nat.le_of_ble_eq_true rfl) dL_law_964 ⟨show _ ≤ 601024 by omega, show _ ≤ 7293034 by omega⟩ (fun r1 u1 h1 => ?_) rfl
  refine hr_istore C [(5, .int (r1)), (4, .int (nI (4 * t))), (0, .ref b), (1, .ref (hr_ad E 0 0)), (2, .ref (hr_ad E 14 0)), (3, .ref (hr_ad E 27 0))] dL_law_967 (by decide) rfl ?_
  refine hr_aload_n C dL_law_969 rfl 4 rfl ?_
  refine hr_aload_n C dL_law_970 rfl 2 rfl ?_
  refine hr_iload C dL_law_971 1 rfl ?_
  refine hr_iconst (v := 1) C dL_law_973 (by decide) ?_
  refine hr_iadd (v := nI (4 * t + 1)) C dL_law_974 (nI_add (4 * t) 1) ?_
  refine hr_sld (4 * t + 1) C hX hbl hbA rfl (by omega) (by omega) dL_law_975 ?_
  refine hr_aload_n C dL_law_976 rfl 2 rfl ?_
  refine hr_iload C dL_law_977 1 rfl ?_
  refine hr_iconst (v := 2) C dL_law_979 (by decide) ?_
  refine hr_iadd (v := nI (4 * t + 2)) C dL_law_980 (nI_add (4 * t) 2) ?_
  refine hr_sld (4 * t + 2) C hX hbl hbA rfl (by omega) (by omega) dL_law_981 ?_
  refine hr_cVi (As := [.int (xs (4 * t + 1)), .int (xs (4 * t + 2))]) (st := []) C (ct_X4_send l E u1.1 u1.2 (xs (4 * t + 1)) (xs (4 * t + 2)) (pm_send hR (xs (4 * t + 1)) (xs (4 * t + 2)) h1)) (cwV 2 C.1.2.2.2.2 (hr_gV kM_L_118 kI_X4_send kS_X4_send kN_X4 kC_X4_send) rfl rfl rfl (by decide +kernel) ⟨(Nat.le_of_ble_eq_true rfl), (Nat.le_of_ble_eq_true rfl)⟩) (by decide) rfl rfl rfl (Nat.le_of_ble_eq_true rfl) dL_law_982 ⟨show _ ≤ 601024 by omega, show _ ≤ 7293034 by omega⟩ (fun r2 u2 h2 => ?_) rfl
  have hP := pu_send hR (xs (4 * t + 1)) (xs (4 * t + 2)) h1 h2
  refine hr_istore C [(6, .int (r2)), (5, .int (r1)), (4, .int (nI (4 * t))), (0, .ref b), (1, .ref (hr_ad E 0 0)), (2, .ref (hr_ad E 14 0)), (3, .ref (hr_ad E 27 0))] dL_law_985 (by decide) rfl ?_
  refine hr_aload_n C dL_law_987 rfl 5 rfl ?_
  refine hr_cVi (As := []) (st := []) C (ct_X4_thrown l E u2 u1.2) (cwV 0 C.1.2.2.2.2 (hr_gV kM_L_74 kI_X4_thrown kS_X4_thrown kN_X4 kC_X4_thrown) rfl rfl rfl (by decide +kernel) ⟨(Nat.le_of_ble_eq_true rfl), (Nat.le_of_ble_eq_true rfl)⟩) (by decide) rfl rfl rfl (Nat.le_of_ble_eq_true rfl) dL_law_988 ⟨show _ ≤ 601024 by omega, show _ ≤ 7293034 by omega⟩ (fun r3 S3 h3 => ?_) rfl
  refine hr_tp (y := u2 14 0 0) h3.1 ?_
  refine hr_st (S1 := u2) h3.2 ?_
  refine hr_iload C dL_law_991 1 rfl ?_
  refine hr_icmp_eq C 998 dL_law_993 (by decide) (fun c993 => ?_) (fun c993 => ?_)
  · skip
    refine hr_iload C dL_law_998 1 rfl ?_
    refine hr_if_ne C 1015 dL_law_1000 (by decide) (fun c1000 => ?_) (fun c1000 => ?_)
    · skip
      refine hr_goto C 1074 dL_law_1015 (by decide) ?_
      refine hr_sub [2, 3, 4, 5, 6] rfl ?_
      refine hr_wd (k := cells + 4) (n := slots + 24) (by omega) (by omega) ?_
      exact K _ _ hP.1
    · skip
      refine hr_aload_n C dL_law_1003 rfl 6 rfl ?_
      refine hr_iconst (v := 0) C dL_law_1004 (by decide) ?_
      refine hr_lald C dL_law_1005 ?_
      refine hr_iload C dL_law_1006 0 rfl ?_
      refine hr_i2l C dL_law_1008 rfl ?_
      refine hr_lcmp (v := 0) C dL_law_1009 (by rw [hP.2.2 c1000]; exact lg_cmp_rf _) ?_
      refine hr_if_eq C 1015 dL_law_1010 (by decide) (fun c1010 => ?_) (fun c1010 => ?_)
      · skip
        refine hr_goto C 1074 dL_law_1015 (by decide) ?_
        refine hr_sub [2, 3, 4, 5, 6] rfl ?_
        refine hr_wd (k := cells + 4) (n := slots + 24) (by omega) (by omega) ?_
        exact K _ _ hP.1
      · skip
        exact absurd rfl c1010
  · exact absurd hP.2.1 c993
set_option maxHeartbeats 4000000 in
set_option maxRecDepth 100000 in
theorem lc_count {p : Program} {l : Launch} {e : Env} {s : State} {m : MethodId} {below : List Frame} {meth : Method} {c : Code} {Q : State → Prop} {E : hr_E} {cells slots b L : Nat} {xs : Nat → Int32} {c0 : Cond} (htr : l.stackTraces = false) (C : hr_C p s m #[Value.ref b] meth c cL_law RL c0 7 E) (hX : va_X b L xs s s.heap) (hbl : b < s.heap.size) (hbA : ¬ hr_A E b) (hL : L ≤ 2048) (t : Nat) (S : hr_S) (o : Int64) (hR : hr_R S) (ht : 4 * t + 4 ≤ L) (hcl : cells + 4 ≤ 601024) (hsl : slots + 24 ≤ 7293034)
  (K : ∀ (S2 : hr_S) (o2 : Int64), hr_R S2 → hr_G p l e room_1 s m #[Value.ref b] below meth c Q E 7 (cells + 4) (slots + 24) S2 o2 [(4, .int (nI (4 * t))), (0, .ref b), (1, .ref (hr_ad E 0 0)), (2, .ref (hr_ad E 14 0)), (3, .ref (hr_ad E 27 0))] 1074 []) : hr_G p l e room_1 s m #[Value.ref b] below meth c Q E 7 cells slots S o [(4, .int (nI (4 * t))), (0, .ref b), (1, .ref (hr_ad E 0 0)), (2, .ref (hr_ad E 14 0)), (3, .ref (hr_ad E 27 0))] 1018 [] := by
  refine hr_aload_n C dL_law_1018 rfl 2 rfl ?_
  refine hr_aload_n C dL_law_1019 rfl 1 rfl ?_
  refine hr_iload C dL_law_1020 0 rfl ?_
  refine hr_iconst (v := 1) C dL_law_1022 (by decide) ?_
  refine hr_iadd (v := nI (4 * t + 1)) C dL_law_1023 (nI_add (4 * t) 1) ?_
  refine hr_sld (4 * t + 1) C hX hbl hbA rfl (by omega) (by omega) dL_law_1024 ?_
  refine hr_aload_n C dL_law_1025 rfl 4 rfl ?_
  refine hr_lS (As := [.ref (hr_ad E 0 0), .int (xs (4 * t + 1)), .ref (hr_ad E 27 0)]) (st := []) C (ct_L_count l htr E S o (xs (4 * t + 1))) (vx_cwSW 3 C.1.2.2.2.2 (hr_gT kM_L_119 kT_L_count kN_L kC_L_count) rfl rfl rfl (by decide +kernel) ⟨(Nat.le_of_ble_eq_true rfl), (Nat.le_of_ble_eq_true rfl)⟩) rfl (Nat.le_of_ble_eq_true rfl) dL_law_1026 ⟨show _ ≤ 601024 by omega, show _ ≤ 7293034 by omega⟩ (fun r1 u1 h1 => ?_) rfl
  refine hr_istore C [(5, .int (r1)), (4, .int (nI (4 * t))), (0, .ref b), (1, .ref (hr_ad E 0 0)), (2, .ref (hr_ad E 14 0)), (3, .ref (hr_ad E 27 0))] dL_law_1029 (by decide) rfl ?_
  refine hr_aload_n C dL_law_1031 rfl 4 rfl ?_
  refine hr_aload_n C dL_law_1032 rfl 2 rfl ?_
  refine hr_iload C dL_law_1033 1 rfl ?_
  refine hr_iconst (v := 1) C dL_law_1035 (by decide) ?_
  refine hr_iadd (v := nI (4 * t + 1)) C dL_law_1036 (nI_add (4 * t) 1) ?_
  refine hr_sld (4 * t + 1) C hX hbl hbA rfl (by omega) (by omega) dL_law_1037 ?_
  refine hr_cVi (As := [.int (xs (4 * t + 1))]) (st := []) C (ct_X4_count l E u1.1 u1.2 (xs (4 * t + 1))) (cwV 1 C.1.2.2.2.2 (hr_gV kM_L_121 kI_X4_count kS_X4_count kN_X4 kC_X4_count) rfl rfl rfl (by decide +kernel) ⟨(Nat.le_of_ble_eq_true rfl), (Nat.le_of_ble_eq_true rfl)⟩) (by decide) rfl rfl rfl (Nat.le_of_ble_eq_true rfl) dL_law_1038 ⟨show _ ≤ 601024 by omega, show _ ≤ 7293034 by omega⟩ (fun r2 u2 h2 => ?_) rfl
  have hP := pu_count hR (xs (4 * t + 1)) h1 h2
  refine hr_istore C [(6, .int (r2)), (5, .int (r1)), (4, .int (nI (4 * t))), (0, .ref b), (1, .ref (hr_ad E 0 0)), (2, .ref (hr_ad E 14 0)), (3, .ref (hr_ad E 27 0))] dL_law_1041 (by decide) rfl ?_
  refine hr_aload_n C dL_law_1043 rfl 5 rfl ?_
  refine hr_cVi (As := []) (st := []) C (ct_X4_thrown l E u2 u1.2) (cwV 0 C.1.2.2.2.2 (hr_gV kM_L_74 kI_X4_thrown kS_X4_thrown kN_X4 kC_X4_thrown) rfl rfl rfl (by decide +kernel) ⟨(Nat.le_of_ble_eq_true rfl), (Nat.le_of_ble_eq_true rfl)⟩) (by decide) rfl rfl rfl (Nat.le_of_ble_eq_true rfl) dL_law_1044 ⟨show _ ≤ 601024 by omega, show _ ≤ 7293034 by omega⟩ (fun r3 S3 h3 => ?_) rfl
  refine hr_tp (y := u2 14 0 0) h3.1 ?_
  refine hr_st (S1 := u2) h3.2 ?_
  refine hr_iload C dL_law_1047 1 rfl ?_
  refine hr_icmp_eq C 1054 dL_law_1049 (by decide) (fun c1049 => ?_) (fun c1049 => ?_)
  · skip
    refine hr_iload C dL_law_1054 1 rfl ?_
    refine hr_if_ne C 1071 dL_law_1056 (by decide) (fun c1056 => ?_) (fun c1056 => ?_)
    · skip
      refine hr_goto C 1074 dL_law_1071 (by decide) ?_
      refine hr_sub [2, 3, 4, 5, 6] rfl ?_
      refine hr_wd (k := cells + 4) (n := slots + 24) (by omega) (by omega) ?_
      exact K _ _ hP.1
    · skip
      refine hr_aload_n C dL_law_1059 rfl 6 rfl ?_
      refine hr_iconst (v := 0) C dL_law_1060 (by decide) ?_
      refine hr_lald C dL_law_1061 ?_
      refine hr_iload C dL_law_1062 0 rfl ?_
      refine hr_i2l C dL_law_1064 rfl ?_
      refine hr_lcmp (v := 0) C dL_law_1065 (by rw [hP.2.2 c1056]; exact lg_cmp_rf _) ?_
      refine hr_if_eq C 1071 dL_law_1066 (by decide) (fun c1066 => ?_) (fun c1066 => ?_)
      · skip
        refine hr_goto C 1074 dL_law_1071 (by decide) ?_
        refine hr_sub [2, 3, 4, 5, 6] rfl ?_
        refine hr_wd (k := cells + 4) (n := slots + 24) (by omega) (by omega) ?_
        exact K _ _ hP.1
      · skip
        exact absurd rfl c1066
  · exact absurd hP.2.1 c1049
