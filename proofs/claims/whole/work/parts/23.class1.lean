theorem hr_lve {p : Program} {l : Launch} {e : Env} {R : Room} {s : State} {m : MethodId} {args : Array Value} {below : List Frame} {meth : Method} {c : Code} {Q : State → Prop} {E : hr_E} {nL cells slots pc : Nat} {S : hr_S} {o : Int64} {lv lv2 : List (Nat × Value)} {st : List Value} (h : lv = lv2) (K : hr_G p l e R s m args below meth c Q E nL cells slots S o lv2 pc st) : hr_G p l e R s m args below meth c Q E nL cells slots S o lv pc st := h ▸ K
theorem nb_of {x y : Int32} {N : Nat} (h0 : ¬ x < 0) (h : x < y) (hy : y = nI N) (hN : N < 2 ^ 31) : nb x N := by
  obtain ⟨j, hj, rfl⟩ := nI_of h0
  subst hy
  have : j < N := (nI_ltI hj hN).mp h
  exact nb_nI this (by omega)
theorem nb_lt0 {x : Int32} {N : Nat} (h : x < 0) (hN : N ≤ 2 ^ 31) : ¬ nb x N := fun z => by
  rw [z.1] at h
  exact absurd h (nI_pos (by have := z.2; omega))
theorem nb_ge {x y : Int32} {N : Nat} (h : ¬ x < y) (hy : y = nI N) (hN : N < 2 ^ 31) : ¬ nb x N := fun z => by
  rw [z.1, hy] at h
  exact h (nI_lt z.2 hN)
/-- some of a table's routes is changed -/
def tb_any (S : hr_S) (t : Nat) : Nat → Bool
  | 0 => false
  | d + 1 => tb_any S t d || decide (¬ S 13 t d = 0)
theorem tb_any_of {S : hr_S} {t d : Nat} (h : ¬ S 13 t d = 0) : ∀ n, d < n → tb_any S t n = true
  | 0, hn => absurd hn (Nat.not_lt_zero _)
  | n + 1, hn => by
    unfold tb_any
    by_cases e : d = n
    · subst e; simp [h]
    · rw [tb_any_of h n (by omega)]; rfl
set_option maxHeartbeats 4000000 in
set_option maxRecDepth 100000 in
theorem ct_X1_addEntry (l : Launch) (E : hr_E) (S : hr_S) (o : Int64) (i : Nat) (hi : i < 202) (hb : nb (S 6 i 2) 165) (h4 : 4 ≤ un (S 6 i 2)) (f9 d9 t9 : Int32) : hr_Mv l E yX1_addEntry (Cond.code yX1_addEntry cX1_addEntry 5 none :: hr_W) ({ frames := 1, cells := 0, slots := 0, locals := 20 } : Room) [.ref (hr_ad E 6 i), .int f9, .int d9, .int t9] S o (fun u => u = pk_addE S i f9 d9 t9) := by
  refine hr_of (by decide) (Nat.le_of_ble_eq_true rfl) (fun p e s m below meth c C hr => ?_)
  have hb2 := hb.2
  refine hr_aload_n C dX1_addEntry_0 rfl 0 rfl ?_
  refine hr_get (k := 6) (i := i) (fld := 2) C (show i < 202 by omega) rfl rfl (by decide) kU_X1 kF_X1_22 rfl rfl dX1_addEntry_1 ?_
  refine hr_tp (y := nI (un (S 6 i 2))) hb.1 ?_
  refine hr_sipush (v := 144) C dX1_addEntry_4 (by decide) ?_
  refine hr_icmp_le C 11 dX1_addEntry_7 (by decide) (fun c7 => ?_) (fun c7 => ?_)
  · skip
    have c7 : (un (S 6 i 2)) ≤ 144 := (nI_leI (a := (un (S 6 i 2))) (b := 144) (by omega) (by omega)).mp c7
    have c7n : ¬ 144 < (un (S 6 i 2)) := Nat.not_lt.mpr c7
    refine hr_aload_n C dX1_addEntry_11 rfl 0 rfl ?_
    refine hr_cVi C (ct_X1_entries l E S o i (by omega) (un (S 6 i 2)) hb.1 h4 (by omega)) (cwV 0 C.1.2.2.2.2 (hr_gV kM_X1_25 kI_X1_entries kS_X1_entries kN_X1 kC_X1_entries) rfl rfl rfl (by decide +kernel) ⟨Nat.le_of_ble_eq_true rfl, Nat.le_of_ble_eq_true rfl⟩) (show i < 202 by omega) rfl rfl rfl (Nat.le_of_ble_eq_true rfl) dX1_addEntry_12 ⟨Nat.le_of_ble_eq_true rfl, Nat.le_of_ble_eq_true rfl⟩ (fun r1 S2 h3 => ?_) rfl
    refine hr_tp h3.1 ?_
    refine hr_st h3.2 ?_
    refine hr_cSi C (ct_X1_firstWord l E S o (((un (S 6 i 2)) - 4) / 20)) (cwS 1 C.1.2.2.2.2 (hr_gS kM_X1_29 kT_X1_firstWord kN_X1 kC_X1_firstWord) rfl rfl rfl (by decide +kernel) ⟨Nat.le_of_ble_eq_true rfl, Nat.le_of_ble_eq_true rfl⟩) rfl (Nat.le_of_ble_eq_true rfl) dX1_addEntry_15 ⟨Nat.le_of_ble_eq_true rfl, Nat.le_of_ble_eq_true rfl⟩ (fun r4 S5 h6 => ?_) rfl
    refine hr_tp h6.1 ?_
    refine hr_st h6.2 ?_
    refine hr_istore C [(4, .int (nI (1 + ((((un (S 6 i 2)) - 4) / 20) * 5)))), (0, .ref (hr_ad E 6 i)), (1, .int f9), (2, .int d9), (3, .int t9)] dX1_addEntry_18 (by decide) rfl ?_
    refine hr_aload_n C dX1_addEntry_20 rfl 1 rfl ?_
    refine hr_get (k := 6) (i := i) (fld := 3) C (show i < 202 by omega) rfl rfl (by decide) kU_X1 kF_X1_11 rfl rfl dX1_addEntry_21 ?_
    refine hr_iload C dX1_addEntry_24 0 rfl ?_
    refine hr_iload_n C dX1_addEntry_26 rfl 2 rfl ?_
    refine hr_bipush (v := 16) C dX1_addEntry_27 (by decide) ?_
    refine hr_ishl C dX1_addEntry_29 rfl ?_
    refine hr_iast (k := 7) (i := i) (1 + ((((un (S 6 i 2)) - 4) / 20) * 5)) C (show i < 202 by omega) rfl rfl (show 1 + ((((un (S 6 i 2)) - 4) / 20) * 5) < 41 by omega) (by decide) (by simp [hr_cell, hr_wA]) rfl dX1_addEntry_30 ?_
    refine hr_aload_n C dX1_addEntry_31 rfl 1 rfl ?_
    refine hr_get (k := 6) (i := i) (fld := 3) C (show i < 202 by omega) rfl rfl (by decide) kU_X1 kF_X1_11 rfl rfl dX1_addEntry_32 ?_
    refine hr_iload C dX1_addEntry_35 0 rfl ?_
    refine hr_iconst (v := 1) C dX1_addEntry_37 (by decide) ?_
    refine hr_iadd (v := nI ((1 + ((((un (S 6 i 2)) - 4) / 20) * 5)) + 1)) C dX1_addEntry_38 (nI_add (1 + ((((un (S 6 i 2)) - 4) / 20) * 5)) 1) ?_
    refine hr_ldc (v := 167772160) C dX1_addEntry_39 kK_X1_33 ?_
    refine hr_iload_n C dX1_addEntry_41 rfl 3 rfl ?_
    refine hr_bipush (v := 8) C dX1_addEntry_42 (by decide) ?_
    refine hr_ishl C dX1_addEntry_44 rfl ?_
    refine hr_ior C dX1_addEntry_45 rfl ?_
    refine hr_iast (k := 7) (i := i) ((1 + ((((un (S 6 i 2)) - 4) / 20) * 5)) + 1) C (show i < 202 by omega) rfl rfl (show (1 + ((((un (S 6 i 2)) - 4) / 20) * 5)) + 1 < 41 by omega) (by decide) (by simp [hr_cell, hr_wA]) rfl dX1_addEntry_46 ?_
    refine hr_aload_n C dX1_addEntry_47 rfl 1 rfl ?_
    refine hr_get (k := 6) (i := i) (fld := 3) C (show i < 202 by omega) rfl rfl (by decide) kU_X1 kF_X1_11 rfl rfl dX1_addEntry_48 ?_
    refine hr_iload C dX1_addEntry_51 0 rfl ?_
    refine hr_iconst (v := 2) C dX1_addEntry_53 (by decide) ?_
    refine hr_iadd (v := nI ((1 + ((((un (S 6 i 2)) - 4) / 20) * 5)) + 2)) C dX1_addEntry_54 (nI_add (1 + ((((un (S 6 i 2)) - 4) / 20) * 5)) 2) ?_
    refine hr_sipush (v := (-256)) C dX1_addEntry_55 (by decide) ?_
    refine hr_iast (k := 7) (i := i) ((1 + ((((un (S 6 i 2)) - 4) / 20) * 5)) + 2) C (show i < 202 by omega) rfl rfl (show (1 + ((((un (S 6 i 2)) - 4) / 20) * 5)) + 2 < 41 by omega) (by decide) (by simp [hr_cell, hr_wA]) rfl dX1_addEntry_58 ?_
    refine hr_aload_n C dX1_addEntry_59 rfl 1 rfl ?_
    refine hr_get (k := 6) (i := i) (fld := 3) C (show i < 202 by omega) rfl rfl (by decide) kU_X1 kF_X1_11 rfl rfl dX1_addEntry_60 ?_
    refine hr_iload C dX1_addEntry_63 0 rfl ?_
    refine hr_iconst (v := 3) C dX1_addEntry_65 (by decide) ?_
    refine hr_iadd (v := nI ((1 + ((((un (S 6 i 2)) - 4) / 20) * 5)) + 3)) C dX1_addEntry_66 (nI_add (1 + ((((un (S 6 i 2)) - 4) / 20) * 5)) 3) ?_
    refine hr_iconst (v := 0) C dX1_addEntry_67 (by decide) ?_
    refine hr_iast (k := 7) (i := i) ((1 + ((((un (S 6 i 2)) - 4) / 20) * 5)) + 3) C (show i < 202 by omega) rfl rfl (show (1 + ((((un (S 6 i 2)) - 4) / 20) * 5)) + 3 < 41 by omega) (by decide) (by simp [hr_cell, hr_wA]) rfl dX1_addEntry_68 ?_
    refine hr_aload_n C dX1_addEntry_69 rfl 1 rfl ?_
    refine hr_get (k := 6) (i := i) (fld := 3) C (show i < 202 by omega) rfl rfl (by decide) kU_X1 kF_X1_11 rfl rfl dX1_addEntry_70 ?_
    refine hr_iload C dX1_addEntry_73 0 rfl ?_
    refine hr_iconst (v := 4) C dX1_addEntry_75 (by decide) ?_
    refine hr_iadd (v := nI ((1 + ((((un (S 6 i 2)) - 4) / 20) * 5)) + 4)) C dX1_addEntry_76 (nI_add (1 + ((((un (S 6 i 2)) - 4) / 20) * 5)) 4) ?_
    refine hr_iload_n C dX1_addEntry_77 rfl 4 rfl ?_
    refine hr_iast (k := 7) (i := i) ((1 + ((((un (S 6 i 2)) - 4) / 20) * 5)) + 4) C (show i < 202 by omega) rfl rfl (show (1 + ((((un (S 6 i 2)) - 4) / 20) * 5)) + 4 < 41 by omega) (by decide) (by simp [hr_cell, hr_wA]) rfl dX1_addEntry_78 ?_
    refine hr_aload_n C dX1_addEntry_79 rfl 1 rfl ?_
    refine hr_dup C dX1_addEntry_80 rfl ?_
    refine hr_get (k := 6) (i := i) (fld := 2) C (show i < 202 by omega) rfl rfl (by decide) kU_X1 kF_X1_22 rfl rfl dX1_addEntry_81 ?_
    refine hr_tp (y := S 6 i 2) rfl ?_
    refine hr_tp (y := nI (un (S 6 i 2))) hb.1 ?_
    refine hr_bipush (v := 20) C dX1_addEntry_84 (by decide) ?_
    refine hr_iadd (v := nI ((un (S 6 i 2)) + 20)) C dX1_addEntry_86 (nI_add (un (S 6 i 2)) 20) ?_
    refine hr_put (k := 6) (i := i) (fld := 2) C (show i < 202 by omega) rfl rfl (by decide) kU_X1 kF_X1_22 rfl tyX1 tyX1_ok nmX1 rfl (by decide +kernel) (Nat.le_of_ble_eq_true rfl) (by simp [hr_cell, hr_w, hr_wA, upd]) rfl dX1_addEntry_87 ?_
    exact hr_vret C hr dX1_addEntry_90 (by unfold pk_addE pk_add5 pk_ent; repeat (first | rw [if_pos c7] | rw [if_neg c7] | rw [if_neg (not_not_intro c7)]); try rfl)
  · skip
    have c7 : ¬ (un (S 6 i 2)) ≤ 144 := fun h => c7 ((nI_leI (a := (un (S 6 i 2))) (b := 144) (by omega) (by omega)).mpr h)
    have c7n : 144 < (un (S 6 i 2)) := Nat.not_le.mp c7
    exact hr_vret C hr dX1_addEntry_10 (by unfold pk_addE pk_add5 pk_ent; repeat (first | rw [if_pos c7] | rw [if_neg c7] | rw [if_neg (not_not_intro c7)]); try rfl)
set_option maxHeartbeats 4000000 in
set_option maxRecDepth 100000 in
theorem ct_X1_become (l : Launch) (E : hr_E) (S : hr_S) (o : Int64) (i : Nat) (hi : i < 202) (j : Nat) (hj : j < 202) (hne : ¬ j = i) : hr_Mv l E yX1_become (Cond.code yX1_become cX1_become 2 none :: hr_W) ({ frames := 1, cells := 0, slots := 0, locals := 40 } : Room) [.ref (hr_ad E 6 i), .ref (hr_ad E 6 j)] S o (fun u => u = pk_become S i j) := by
  refine hr_of (by decide) (Nat.le_of_ble_eq_true rfl) (fun p e s m below meth c C hr => ?_)
  refine hr_aload_n C dX1_become_0 rfl 0 rfl ?_
  refine hr_aload_n C dX1_become_1 rfl 1 rfl ?_
  refine hr_get (k := 6) (i := j) (fld := 0) C (show j < 202 by omega) rfl rfl (by decide) kU_X1 kF_X1_15 rfl rfl dX1_become_2 ?_
  refine hr_put (k := 6) (i := i) (fld := 0) C (show i < 202 by omega) rfl rfl (by decide) kU_X1 kF_X1_15 rfl tyX1 tyX1_ok nmX1 rfl (by decide +kernel) (Nat.le_of_ble_eq_true rfl) (by simp [hr_cell, hr_w, hr_wA, upd]) rfl dX1_become_5 ?_
  refine hr_aload_n C dX1_become_8 rfl 0 rfl ?_
  refine hr_aload_n C dX1_become_9 rfl 1 rfl ?_
  refine hr_get (k := 6) (i := j) (fld := 1) C (show j < 202 by omega) rfl rfl (by decide) kU_X1 kF_X1_19 rfl rfl dX1_become_10 ?_
  refine hr_tp (y := S 6 j 1) (by simp [hr_w, hr_wA, upd, hne]) ?_
  refine hr_put (k := 6) (i := i) (fld := 1) C (show i < 202 by omega) rfl rfl (by decide) kU_X1 kF_X1_19 rfl tyX1 tyX1_ok nmX1 rfl (by decide +kernel) (Nat.le_of_ble_eq_true rfl) (by simp [hr_cell, hr_w, hr_wA, upd]) rfl dX1_become_13 ?_
  refine hr_aload_n C dX1_become_16 rfl 0 rfl ?_
  refine hr_aload_n C dX1_become_17 rfl 1 rfl ?_
  refine hr_get (k := 6) (i := j) (fld := 2) C (show j < 202 by omega) rfl rfl (by decide) kU_X1 kF_X1_22 rfl rfl dX1_become_18 ?_
  refine hr_tp (y := S 6 j 2) (by simp [hr_w, hr_wA, upd, hne]) ?_
  refine hr_put (k := 6) (i := i) (fld := 2) C (show i < 202 by omega) rfl rfl (by decide) kU_X1 kF_X1_22 rfl tyX1 tyX1_ok nmX1 rfl (by decide +kernel) (Nat.le_of_ble_eq_true rfl) (by simp [hr_cell, hr_w, hr_wA, upd]) rfl dX1_become_21 ?_
  refine hr_aload_n C dX1_become_24 rfl 1 rfl ?_
  refine hr_get (k := 6) (i := j) (fld := 3) C (show j < 202 by omega) rfl rfl (by decide) kU_X1 kF_X1_11 rfl rfl dX1_become_25 ?_
  refine hr_iconst (v := 0) C dX1_become_28 (by decide) ?_
  refine hr_aload_n C dX1_become_29 rfl 0 rfl ?_
  refine hr_get (k := 6) (i := i) (fld := 3) C (show i < 202 by omega) rfl rfl (by decide) kU_X1 kF_X1_11 rfl rfl dX1_become_30 ?_
  refine hr_iconst (v := 0) C dX1_become_33 (by decide) ?_
  refine hr_aload_n C dX1_become_34 rfl 0 rfl ?_
  refine hr_get (k := 6) (i := i) (fld := 3) C (show i < 202 by omega) rfl rfl (by decide) kU_X1 kF_X1_11 rfl rfl dX1_become_35 ?_
  refine hr_alen (k := 7) (i := i) (t0 := 0) C (show i < 202 by omega) rfl rfl dX1_become_38 ?_
  refine hr_copy (k0 := 7) (i0 := j) (k := 7) (i := i) 0 0 41 C (show j < 202 by omega) (show i < 202 by omega) rfl rfl rfl rfl rfl (show 0 + 41 ≤ 41 by omega) (show 0 + 41 ≤ 41 by omega) (by decide) (by decide) kM_X1_34 kV_arraycopy kT_arraycopy kN_System (Nat.le_of_ble_eq_true rfl) (Nat.le_of_ble_eq_true rfl) (by simp [hr_cell, hr_wA]) rfl dX1_become_39 ?_
  exact hr_vret C hr dX1_become_42 rfl
set_option maxHeartbeats 4000000 in
set_option maxRecDepth 100000 in
theorem ct_X2_loseNext (l : Launch) (E : hr_E) (S : hr_S) (o : Int64) (t : Nat) (ht : t < 8) (x : Int32) : hr_Mi l E yX2_loseNext (Cond.code yX2_loseNext cX2_loseNext 4 (some .int) :: hr_W) ({ frames := 2, cells := 0, slots := 0, locals := 42 } : Room) [.ref (hr_ad E 8 t), .int x] S o (fun r u => r = nI (tb_lose S t x 8).2 ∧ u = (tb_lose S t x 8).1) := by
  refine hr_of (by decide) (Nat.le_of_ble_eq_true rfl) (fun p e s m below meth c C hr => ?_)
  refine hr_iconst (v := 0) C dX2_loseNext_0 (by decide) ?_
  refine hr_istore_n C [(2, .int 0), (0, .ref (hr_ad E 8 t)), (1, .int x)] dX2_loseNext_1 rfl (by decide) rfl ?_
  refine hr_iconst (v := 0) C dX2_loseNext_2 (by decide) ?_
  refine hr_istore_n C [(3, .int 0), (2, .int 0), (0, .ref (hr_ad E 8 t)), (1, .int x)] dX2_loseNext_3 rfl (by decide) rfl ?_
  have LP4 : ∀ (n d : Nat) , d ≤ 8 → 8 + 1 ≤ d + n → hr_G p l e ({ frames := 2, cells := 0, slots := 0, locals := 42 } : Room) s m #[.ref (hr_ad E 8 t), .int x] below meth c (MQ below (va_Qi (fun r u => r = nI (tb_lose S t x 8).2 ∧ u = (tb_lose S t x 8).1) (fun u t => hr_P E u o t.heap) (hr_A E)) #[.ref (hr_ad E 8 t), .int x] s 0 0 (hr_A E)) E 4 0 0 ((tb_lose S t x d).1) o [(0, .ref (hr_ad E 8 t)), (1, .int x), (2, .int (nI ((tb_lose S t x d).2))), (3, .int (nI d))] 4 [] := by
    intro n
    induction n with
    | zero => intro d  h1 h2; omega
    | succ n ih =>
      intro d  hv1 hv2
      refine hr_iload_n C dX2_loseNext_4 rfl 3 rfl ?_
      refine hr_bipush (v := 8) C dX2_loseNext_5 (by decide) ?_
      refine hr_icmp_ge C 51 dX2_loseNext_7 (by decide) (fun c7 => ?_) (fun c7 => ?_)
      · skip
        have c7 : 8 ≤ d := (nI_leI (a := 8) (b := d) (by omega) (by omega)).mp c7
        have c7n : ¬ d < 8 := Nat.not_lt.mpr c7
        refine hr_iload_n C dX2_loseNext_51 rfl 2 rfl ?_
        exact hr_iret C hr dX2_loseNext_52 ⟨by rw [show d = 8 by omega], by rw [show d = 8 by omega]⟩
      · skip
        have c7 : ¬ 8 ≤ d := fun h => c7 ((nI_leI (a := 8) (b := d) (by omega) (by omega)).mpr h)
        have c7n : d < 8 := Nat.not_le.mp c7
        refine hr_aload_n C dX2_loseNext_10 rfl 0 rfl ?_
        refine hr_iload_n C dX2_loseNext_11 rfl 3 rfl ?_
        refine hr_cVi C (ct_X2_reaches l E ((tb_lose S t x d).1) o t (by omega) d (by omega)) (cwV 1 C.1.2.2.2.2 (hr_gV kM_X2_59 kI_X2_reaches kS_X2_reaches kN_X2 kC_X2_reaches) rfl rfl rfl (by decide +kernel) ⟨Nat.le_of_ble_eq_true rfl, Nat.le_of_ble_eq_true rfl⟩) (show t < 8 by omega) rfl rfl rfl (Nat.le_of_ble_eq_true rfl) dX2_loseNext_12 ⟨Nat.le_of_ble_eq_true rfl, Nat.le_of_ble_eq_true rfl⟩ (fun r1 S2 h3 => ?_) rfl
        refine hr_tp h3.1 ?_
        refine hr_st h3.2 ?_
        refine hr_if_eq C 45 dX2_loseNext_15 (by decide) (fun c15 => ?_) (fun c15 => ?_)
        · skip
          have c15 : ¬ ((¬ ((tb_lose S t x d).1) 9 t d = -1) ∧ ((tb_lose S t x d).1) 9 t d < 16) := hr_bz.mp c15
          refine hr_iinc (v := nI (d + 1)) C [(3, .int (nI (d + 1))), (0, .ref (hr_ad E 8 t)), (1, .int x), (2, .int (nI ((tb_lose S t x d).2)))] dX2_loseNext_45 3 rfl (nI_add d 1) (by decide) rfl ?_
          refine hr_goto C 4 dX2_loseNext_48 (by decide) ?_
          have e1 : tb_lose S t x (d + 1) = tb_lose S t x d := by rw [tb_lose, if_neg (fun h => c15 h.1)]
          refine hr_sub [1, 2, 3, 0] rfl ?_
          refine hr_lve (lv2 := [(0, .ref (hr_ad E 8 t)), (1, .int x), (2, .int (nI ((tb_lose S t x (d + 1)).2))), (3, .int (nI (d + 1)))]) (by rw [e1]; rfl) ?_
          refine hr_st (S1 := (tb_lose S t x (d + 1)).1) (by rw [e1]) ?_
          exact ih (d + 1)  (by omega) (by omega)
        · skip
          have c15 : (¬ ((tb_lose S t x d).1) 9 t d = -1) ∧ ((tb_lose S t x d).1) 9 t d < 16 := hr_bn.mp c15
          refine hr_aload_n C dX2_loseNext_18 rfl 0 rfl ?_
          refine hr_get (k := 8) (i := t) (fld := 1) C (show t < 8 by omega) rfl rfl (by decide) kU_X2 kF_X2_15 rfl rfl dX2_loseNext_19 ?_
          refine hr_iload_n C dX2_loseNext_22 rfl 3 rfl ?_
          refine hr_iald (k := 10) (i := t) d C (show t < 8 by omega) rfl rfl (show d < 8 by omega) (by decide) dX2_loseNext_23 ?_
          refine hr_iload_n C dX2_loseNext_24 rfl 1 rfl ?_
          refine hr_icmp_ne C 45 dX2_loseNext_25 (by decide) (fun c25 => ?_) (fun c25 => ?_)
          · skip
            refine hr_iinc (v := nI (d + 1)) C [(3, .int (nI (d + 1))), (0, .ref (hr_ad E 8 t)), (1, .int x), (2, .int (nI ((tb_lose S t x d).2)))] dX2_loseNext_45 3 rfl (nI_add d 1) (by decide) rfl ?_
            refine hr_goto C 4 dX2_loseNext_48 (by decide) ?_
            have e1 : tb_lose S t x (d + 1) = tb_lose S t x d := by rw [tb_lose, if_neg (fun h => c25 h.2.1)]
            refine hr_sub [1, 2, 3, 0] rfl ?_
            refine hr_lve (lv2 := [(0, .ref (hr_ad E 8 t)), (1, .int x), (2, .int (nI ((tb_lose S t x (d + 1)).2))), (3, .int (nI (d + 1)))]) (by rw [e1]; rfl) ?_
            refine hr_st (S1 := (tb_lose S t x (d + 1)).1) (by rw [e1]) ?_
            exact ih (d + 1)  (by omega) (by omega)
          · skip
            refine hr_aload_n C dX2_loseNext_28 rfl 0 rfl ?_
            refine hr_get (k := 8) (i := t) (fld := 3) C (show t < 8 by omega) rfl rfl (by decide) kU_X2 kF_X2_21 rfl rfl dX2_loseNext_29 ?_
            refine hr_iload_n C dX2_loseNext_32 rfl 3 rfl ?_
            refine hr_iald (k := 12) (i := t) d C (show t < 8 by omega) rfl rfl (show d < 8 by omega) (by decide) dX2_loseNext_33 ?_
            refine hr_if_ne C 45 dX2_loseNext_34 (by decide) (fun c34 => ?_) (fun c34 => ?_)
            · skip
              refine hr_iinc (v := nI (d + 1)) C [(3, .int (nI (d + 1))), (0, .ref (hr_ad E 8 t)), (1, .int x), (2, .int (nI ((tb_lose S t x d).2)))] dX2_loseNext_45 3 rfl (nI_add d 1) (by decide) rfl ?_
              refine hr_goto C 4 dX2_loseNext_48 (by decide) ?_
              have e1 : tb_lose S t x (d + 1) = tb_lose S t x d := by rw [tb_lose, if_neg (fun h => c34 h.2.2)]
              refine hr_sub [1, 2, 3, 0] rfl ?_
              refine hr_lve (lv2 := [(0, .ref (hr_ad E 8 t)), (1, .int x), (2, .int (nI ((tb_lose S t x (d + 1)).2))), (3, .int (nI (d + 1)))]) (by rw [e1]; rfl) ?_
              refine hr_st (S1 := (tb_lose S t x (d + 1)).1) (by rw [e1]) ?_
              exact ih (d + 1)  (by omega) (by omega)
            · skip
              refine hr_aload_n C dX2_loseNext_37 rfl 0 rfl ?_
              refine hr_iload_n C dX2_loseNext_38 rfl 3 rfl ?_
              refine hr_cVv C (ct_X2_becomeGone l E ((tb_lose S t x d).1) o t (by omega) d (by omega)) (cwV 1 C.1.2.2.2.2 (hr_gV kM_X2_52 kI_X2_becomeGone kS_X2_becomeGone kN_X2 kC_X2_becomeGone) rfl rfl rfl (by decide +kernel) ⟨Nat.le_of_ble_eq_true rfl, Nat.le_of_ble_eq_true rfl⟩) (show t < 8 by omega) rfl rfl rfl (Nat.le_of_ble_eq_true rfl) dX2_loseNext_39 ⟨Nat.le_of_ble_eq_true rfl, Nat.le_of_ble_eq_true rfl⟩ (fun S5 h6 => ?_) rfl
              refine hr_st h6 ?_
              refine hr_iinc (v := nI ((tb_lose S t x d).2 + 1)) C [(2, .int (nI ((tb_lose S t x d).2 + 1))), (0, .ref (hr_ad E 8 t)), (1, .int x), (3, .int (nI d))] dX2_loseNext_42 2 rfl (nI_add ((tb_lose S t x d).2) 1) (by decide) rfl ?_
              refine hr_iinc (v := nI (d + 1)) C [(3, .int (nI (d + 1))), (2, .int (nI ((tb_lose S t x d).2 + 1))), (0, .ref (hr_ad E 8 t)), (1, .int x)] dX2_loseNext_45 3 rfl (nI_add d 1) (by decide) rfl ?_
              refine hr_goto C 4 dX2_loseNext_48 (by decide) ?_
              have e1 : tb_lose S t x (d + 1) = (tb_gone (tb_lose S t x d).1 t d, (tb_lose S t x d).2 + 1) := by rw [tb_lose, if_pos ⟨c15, c25, c34⟩]
              refine hr_sub [2, 3, 1, 0] rfl ?_
              refine hr_lve (lv2 := [(0, .ref (hr_ad E 8 t)), (1, .int x), (2, .int (nI ((tb_lose S t x (d + 1)).2))), (3, .int (nI (d + 1)))]) (by rw [e1]; rfl) ?_
              refine hr_st (S1 := (tb_lose S t x (d + 1)).1) (by rw [e1]) ?_
              exact ih (d + 1)  (by omega) (by omega)
  refine hr_sub [2, 3, 1, 0] rfl ?_
  refine hr_st (S1 := (tb_lose S t x 0).1) rfl ?_
  exact LP4 (8 + 1) 0  (by omega) (by omega)
set_option maxHeartbeats 4000000 in
set_option maxRecDepth 100000 in
theorem ct_X2_hasChanges (l : Launch) (E : hr_E) (S : hr_S) (o : Int64) (t : Nat) (ht : t < 8) : hr_Mi l E yX2_hasChanges (Cond.code yX2_hasChanges cX2_hasChanges 2 (some .boolean) :: hr_W) ({ frames := 0, cells := 0, slots := 0, locals := 0 } : Room) [.ref (hr_ad E 8 t)] S o (fun r u => r = (if tb_any S t 8 = true then 1 else 0) ∧ u = S) := by
  refine hr_of (by decide) (Nat.le_of_ble_eq_true rfl) (fun p e s m below meth c C hr => ?_)
  refine hr_iconst (v := 0) C dX2_hasChanges_0 (by decide) ?_
  refine hr_istore_n C [(1, .int 0), (0, .ref (hr_ad E 8 t))] dX2_hasChanges_1 rfl (by decide) rfl ?_
  have LP2 : ∀ (n d : Nat) , d ≤ 8 → 8 + 1 ≤ d + n → tb_any S t d = false → hr_G p l e ({ frames := 0, cells := 0, slots := 0, locals := 0 } : Room) s m #[.ref (hr_ad E 8 t)] below meth c (MQ below (va_Qi (fun r u => r = (if tb_any S t 8 = true then 1 else 0) ∧ u = S) (fun u t => hr_P E u o t.heap) (hr_A E)) #[.ref (hr_ad E 8 t)] s 0 0 (hr_A E)) E 2 0 0 S o [(0, .ref (hr_ad E 8 t)), (1, .int (nI d))] 2 [] := by
    intro n
    induction n with
    | zero => intro d  h1 h2; omega
    | succ n ih =>
      intro d  hv1 hv2 ha
      refine hr_iload_n C dX2_hasChanges_2 rfl 1 rfl ?_
      refine hr_bipush (v := 8) C dX2_hasChanges_3 (by decide) ?_
      refine hr_icmp_ge C 25 dX2_hasChanges_5 (by decide) (fun c5 => ?_) (fun c5 => ?_)
      · skip
        have c5 : 8 ≤ d := (nI_leI (a := 8) (b := d) (by omega) (by omega)).mp c5
        have c5n : ¬ d < 8 := Nat.not_lt.mpr c5
        refine hr_iconst (v := 0) C dX2_hasChanges_25 (by decide) ?_
        exact hr_zret C hr rfl dX2_hasChanges_26 ⟨by rw [← show d = 8 by omega, ha]; rfl, rfl⟩
      · skip
        have c5 : ¬ 8 ≤ d := fun h => c5 ((nI_leI (a := 8) (b := d) (by omega) (by omega)).mpr h)
        have c5n : d < 8 := Nat.not_le.mp c5
        refine hr_aload_n C dX2_hasChanges_8 rfl 0 rfl ?_
        refine hr_get (k := 8) (i := t) (fld := 4) C (show t < 8 by omega) rfl rfl (by decide) kU_X2 kF_X2_24 rfl rfl dX2_hasChanges_9 ?_
        refine hr_iload_n C dX2_hasChanges_12 rfl 1 rfl ?_
        refine hr_zald (k := 13) (i := t) d C (show t < 8 by omega) rfl rfl (show d < 8 by omega) (by decide) dX2_hasChanges_13 ?_
        refine hr_if_eq C 19 dX2_hasChanges_14 (by decide) (fun c14 => ?_) (fun c14 => ?_)
        · skip
          refine hr_iinc (v := nI (d + 1)) C [(1, .int (nI (d + 1))), (0, .ref (hr_ad E 8 t))] dX2_hasChanges_19 1 rfl (nI_add d 1) (by decide) rfl ?_
          refine hr_goto C 2 dX2_hasChanges_22 (by decide) ?_
          refine hr_sub [1, 0] rfl ?_
          refine hr_st (S1 := S) rfl ?_
          exact ih (d + 1)  (by omega) (by omega) (by unfold tb_any; rw [ha, c14]; rfl)
        · skip
          refine hr_iconst (v := 1) C dX2_hasChanges_17 (by decide) ?_
          exact hr_zret C hr rfl dX2_hasChanges_18 ⟨by rw [if_pos (tb_any_of c14 8 (by omega))], rfl⟩
  refine hr_sub [1, 0] rfl ?_
  refine hr_st (S1 := S) rfl ?_
  exact LP2 (8 + 1) 0  (by omega) (by omega) rfl
set_option maxHeartbeats 4000000 in
set_option maxRecDepth 100000 in
theorem ct_X2_read (l : Launch) (E : hr_E) (S : hr_S) (o : Int64) (t : Nat) (ht : t < 8) (d : Nat) (hd : d < 8) (w9 : Nat) (hw : w9 < 5) : hr_Mi l E yX2_read (Cond.code yX2_read cX2_read 3 (some .int) :: hr_W) ({ frames := 1, cells := 0, slots := 0, locals := 21 } : Room) [.ref (hr_ad E 8 t), .int (nI d), .int (nI w9)] S o (fun r u => r = tb_read S t d w9 ∧ u = S) := by
  refine hr_of (by decide) (Nat.le_of_ble_eq_true rfl) (fun p e s m below meth c C hr => ?_)
  refine hr_aload_n C dX2_read_0 rfl 0 rfl ?_
  refine hr_iload_n C dX2_read_1 rfl 1 rfl ?_
  refine hr_cVi C (ct_X2_has l E S o t (by omega) d (by omega)) (cwV 1 C.1.2.2.2.2 (hr_gV kM_X2_34 kI_X2_has kS_X2_has kN_X2 kC_X2_has) rfl rfl rfl (by decide +kernel) ⟨Nat.le_of_ble_eq_true rfl, Nat.le_of_ble_eq_true rfl⟩) (show t < 8 by omega) rfl rfl rfl (Nat.le_of_ble_eq_true rfl) dX2_read_2 ⟨Nat.le_of_ble_eq_true rfl, Nat.le_of_ble_eq_true rfl⟩ (fun r1 S2 h3 => ?_) rfl
  refine hr_tp h3.1 ?_
  refine hr_st h3.2 ?_
  refine hr_if_ne C 10 dX2_read_5 (by decide) (fun c5 => ?_) (fun c5 => ?_)
  · skip
    have c5 : ¬ S 9 t d = -1 := hr_bn.mp c5
    refine hr_iload_n C dX2_read_10 rfl 2 rfl ?_
    rcases (show w9 = 0 ∨ w9 = 1 ∨ w9 = 2 ∨ w9 = 3 ∨ w9 = 4 by omega) with rfl | rfl | rfl | rfl | rfl
    · skip
      refine hr_tabIn C 40 dX2_read_11 (by decide) (by decide) rfl (by decide) ?_
      refine hr_aload_n C dX2_read_40 rfl 0 rfl ?_
      refine hr_get (k := 8) (i := t) (fld := 0) C (show t < 8 by omega) rfl rfl (by decide) kU_X2 kF_X2_9 rfl rfl dX2_read_41 ?_
      refine hr_iload_n C dX2_read_44 rfl 1 rfl ?_
      refine hr_iald (k := 9) (i := t) d C (show t < 8 by omega) rfl rfl (show d < 8 by omega) (by decide) dX2_read_45 ?_
      exact hr_iret C hr dX2_read_46 ⟨by unfold tb_read; simp [c5], rfl⟩
    · skip
      refine hr_tabIn C 47 dX2_read_11 (by decide) (by decide) rfl (by decide) ?_
      refine hr_aload_n C dX2_read_47 rfl 0 rfl ?_
      refine hr_get (k := 8) (i := t) (fld := 1) C (show t < 8 by omega) rfl rfl (by decide) kU_X2 kF_X2_15 rfl rfl dX2_read_48 ?_
      refine hr_iload_n C dX2_read_51 rfl 1 rfl ?_
      refine hr_iald (k := 10) (i := t) d C (show t < 8 by omega) rfl rfl (show d < 8 by omega) (by decide) dX2_read_52 ?_
      exact hr_iret C hr dX2_read_53 ⟨by unfold tb_read; simp [c5], rfl⟩
    · skip
      refine hr_tabIn C 54 dX2_read_11 (by decide) (by decide) rfl (by decide) ?_
      refine hr_aload_n C dX2_read_54 rfl 0 rfl ?_
      refine hr_get (k := 8) (i := t) (fld := 2) C (show t < 8 by omega) rfl rfl (by decide) kU_X2 kF_X2_18 rfl rfl dX2_read_55 ?_
      refine hr_iload_n C dX2_read_58 rfl 1 rfl ?_
      refine hr_iald (k := 11) (i := t) d C (show t < 8 by omega) rfl rfl (show d < 8 by omega) (by decide) dX2_read_59 ?_
      exact hr_iret C hr dX2_read_60 ⟨by unfold tb_read; simp [c5], rfl⟩
    · skip
      refine hr_tabIn C 61 dX2_read_11 (by decide) (by decide) rfl (by decide) ?_
      refine hr_aload_n C dX2_read_61 rfl 0 rfl ?_
      refine hr_get (k := 8) (i := t) (fld := 4) C (show t < 8 by omega) rfl rfl (by decide) kU_X2 kF_X2_24 rfl rfl dX2_read_62 ?_
      refine hr_iload_n C dX2_read_65 rfl 1 rfl ?_
      refine hr_zald (k := 13) (i := t) d C (show t < 8 by omega) rfl rfl (show d < 8 by omega) (by decide) dX2_read_66 ?_
      refine hr_if_eq C 74 dX2_read_67 (by decide) (fun c67 => ?_) (fun c67 => ?_)
      · skip
        refine hr_iconst (v := 0) C dX2_read_74 (by decide) ?_
        exact hr_iret C hr dX2_read_75 ⟨by unfold tb_read; simp [c5, c67], rfl⟩
      · skip
        refine hr_iconst (v := 1) C dX2_read_70 (by decide) ?_
        refine hr_goto C 75 dX2_read_71 (by decide) ?_
        exact hr_iret C hr dX2_read_75 ⟨by unfold tb_read; simp [c5, c67], rfl⟩
    · skip
      refine hr_tabOut C 76 dX2_read_11 (by decide) (by decide) ?_
      refine hr_aload_n C dX2_read_76 rfl 0 rfl ?_
      refine hr_get (k := 8) (i := t) (fld := 3) C (show t < 8 by omega) rfl rfl (by decide) kU_X2 kF_X2_21 rfl rfl dX2_read_77 ?_
      refine hr_iload_n C dX2_read_80 rfl 1 rfl ?_
      refine hr_iald (k := 12) (i := t) d C (show t < 8 by omega) rfl rfl (show d < 8 by omega) (by decide) dX2_read_81 ?_
      exact hr_iret C hr dX2_read_82 ⟨by unfold tb_read; simp [c5], rfl⟩
  · skip
    have c5 : ¬ (¬ S 9 t d = -1) := hr_bz.mp c5
    refine hr_iconst (v := (-1)) C dX2_read_8 (by decide) ?_
    exact hr_iret C hr dX2_read_9 ⟨by unfold tb_read; simp [c5], rfl⟩
set_option maxHeartbeats 4000000 in
set_option maxRecDepth 100000 in
theorem ct_X0_at (l : Launch) (E : hr_E) (S : hr_S) (o : Int64) (k : Nat) (hk : k < 200) (hb : nb (S 5 0 k) 200) : hr_Mr l E yX0_at (Cond.code yX0_at cX0_at 2 (some (.object "HopRouters$Packet")) :: hr_W) ({ frames := 0, cells := 0, slots := 0, locals := 0 } : Room) [.ref (hr_ad E 3 0), .int (nI k)] S o (hr_ad E 6 (un (S 5 0 k))) (fun u => u = S) := by
  refine hr_of (by decide) (Nat.le_of_ble_eq_true rfl) (fun p e s m below meth c C hr => ?_)
  refine hr_aload_n C dX0_at_0 rfl 0 rfl ?_
  refine hr_get (k := 3) (i := 0) (fld := 0) C (by decide) rfl rfl (by decide) kU_X0 kF_X0_11 rfl rfl dX0_at_1 ?_
  refine hr_aload_n C dX0_at_4 rfl 0 rfl ?_
  refine hr_get (k := 3) (i := 0) (fld := 1) C (by decide) rfl rfl (by decide) kU_X0 kF_X0_17 rfl rfl dX0_at_5 ?_
  refine hr_iload_n C dX0_at_8 rfl 1 rfl ?_
  refine hr_iald (k := 5) (i := 0) k C (by decide) rfl rfl (show k < 200 by omega) (by decide) dX0_at_9 ?_
  refine hr_tp (y := nI (un (S 5 0 k))) hb.1 ?_
  refine hr_aald (k := 4) (i := 0) (t0 := 3) (k2 := 6) (un (S 5 0 k)) C (by decide) rfl rfl rfl hb.2 (by decide) dX0_at_10 ?_
  exact hr_aret C hr (Or.inl ⟨_, rfl⟩) dX0_at_11 rfl
set_option maxHeartbeats 4000000 in
set_option maxRecDepth 100000 in
theorem ct_X0_launch (l : Launch) (E : hr_E) (S : hr_S) (o : Int64) (q : Nat) (hq : q < 202) (hI : hr_CI S) (hne : ai_n S < 200 → ¬ ai_o S (ai_n S) = q) : hr_Mv l E yX0_launch (Cond.code yX0_launch cX0_launch 2 none :: hr_W) ({ frames := 2, cells := 0, slots := 0, locals := 61 } : Room) [.ref (hr_ad E 3 0), .ref (hr_ad E 6 q)] S o (fun u => u = ai_launch S q) := by
  refine hr_of (by decide) (Nat.le_of_ble_eq_true rfl) (fun p e s m below meth c C hr => ?_)
  have hn2 := hI.1.2
  refine hr_aload_n C dX0_launch_0 rfl 0 rfl ?_
  refine hr_dup C dX0_launch_1 rfl ?_
  refine hr_get (k := 3) (i := 0) (fld := 3) C (by decide) rfl rfl (by decide) kU_X0 kF_X0_22 rfl rfl dX0_launch_2 ?_
  refine hr_iconst (v := 1) C dX0_launch_5 (by decide) ?_
  refine hr_iadd C dX0_launch_6 rfl ?_
  refine hr_put (k := 3) (i := 0) (fld := 3) C (by decide) rfl rfl (by decide) kU_X0 kF_X0_22 rfl tyX0 tyX0_ok nmX0 rfl (by decide +kernel) (Nat.le_of_ble_eq_true rfl) (by simp [hr_cell, hr_w, hr_wA, upd]) rfl dX0_launch_7 ?_
  refine hr_aload_n C dX0_launch_10 rfl 0 rfl ?_
  refine hr_get (k := 3) (i := 0) (fld := 2) C (by decide) rfl rfl (by decide) kU_X0 kF_X0_26 rfl rfl dX0_launch_11 ?_
  refine hr_tp (y := S 3 0 2) (by simp [hr_w, hr_wA, upd]) ?_
  refine hr_tp (y := nI (un (S 3 0 2))) hI.1.1 ?_
  refine hr_sipush (v := 200) C dX0_launch_14 (by decide) ?_
  refine hr_icmp_lt C 31 dX0_launch_17 (by decide) (fun c17 => ?_) (fun c17 => ?_)
  · skip
    have c17 : (un (S 3 0 2)) < 200 := (nI_ltI (a := (un (S 3 0 2))) (b := 200) (by omega) (by omega)).mp c17
    have c17n : ¬ 200 ≤ (un (S 3 0 2)) := Nat.not_le.mpr c17
    refine hr_aload_n C dX0_launch_31 rfl 0 rfl ?_
    refine hr_get (k := 3) (i := 0) (fld := 0) C (by decide) rfl rfl (by decide) kU_X0 kF_X0_11 rfl rfl dX0_launch_32 ?_
    refine hr_aload_n C dX0_launch_35 rfl 0 rfl ?_
    refine hr_get (k := 3) (i := 0) (fld := 1) C (by decide) rfl rfl (by decide) kU_X0 kF_X0_17 rfl rfl dX0_launch_36 ?_
    refine hr_aload_n C dX0_launch_39 rfl 0 rfl ?_
    refine hr_get (k := 3) (i := 0) (fld := 2) C (by decide) rfl rfl (by decide) kU_X0 kF_X0_26 rfl rfl dX0_launch_40 ?_
    refine hr_tp (y := S 3 0 2) (by simp [hr_w, hr_wA, upd]) ?_
    refine hr_tp (y := nI (un (S 3 0 2))) hI.1.1 ?_
    refine hr_iald (k := 5) (i := 0) (un (S 3 0 2)) C (by decide) rfl rfl c17 (by decide) dX0_launch_43 ?_
    refine hr_tp (y := S 5 0 (un (S 3 0 2))) rfl ?_
    refine hr_tp (y := nI (un (S 5 0 (un (S 3 0 2))))) (hI.2.1 _ c17).1 ?_
    refine hr_aald (k := 4) (i := 0) (t0 := 3) (k2 := 6) (un (S 5 0 (un (S 3 0 2)))) C (by decide) rfl rfl rfl (hI.2.1 _ c17).2 (by decide) dX0_launch_44 ?_
    refine hr_aload_n C dX0_launch_45 rfl 1 rfl ?_
    refine hr_cVv C (ct_X1_become l E (hr_w S 3 0 3 ((S 3 0 3) + 1)) o (un (S 5 0 (un (S 3 0 2)))) (Nat.lt_trans (hI.2.1 _ c17).2 (by decide)) q hq (fun h => hne c17 h.symm)) (cwV 1 C.1.2.2.2.2 (hr_gV kM_X0_32 kI_X1_become kS_X1_become kN_X1 kC_X1_become) rfl rfl rfl (by decide +kernel) ⟨Nat.le_of_ble_eq_true rfl, Nat.le_of_ble_eq_true rfl⟩) (show _ < 202 from Nat.lt_trans (hI.2.1 _ c17).2 (by decide)) rfl rfl rfl (Nat.le_of_ble_eq_true rfl) dX0_launch_46 ⟨Nat.le_of_ble_eq_true rfl, Nat.le_of_ble_eq_true rfl⟩ (fun S2 h3 => ?_) rfl
    refine hr_st h3 ?_
    refine hr_aload_n C dX0_launch_49 rfl 0 rfl ?_
    refine hr_dup C dX0_launch_50 rfl ?_
    refine hr_get (k := 3) (i := 0) (fld := 2) C (by decide) rfl rfl (by decide) kU_X0 kF_X0_26 rfl rfl dX0_launch_51 ?_
    refine hr_tp (y := nI (un (S 3 0 2))) (show S 3 0 2 = _ from hI.1.1) ?_
    refine hr_iconst (v := 1) C dX0_launch_54 (by decide) ?_
    refine hr_iadd (v := nI ((un (S 3 0 2)) + 1)) C dX0_launch_55 (nI_add (un (S 3 0 2)) 1) ?_
    refine hr_put (k := 3) (i := 0) (fld := 2) C (by decide) rfl rfl (by decide) kU_X0 kF_X0_26 rfl tyX0 tyX0_ok nmX0 rfl (by decide +kernel) (Nat.le_of_ble_eq_true rfl) (by simp [hr_cell, hr_w, hr_wA, upd]) rfl dX0_launch_56 ?_
    exact hr_vret C hr dX0_launch_59 (by unfold ai_launch; first | (rw [if_pos (show ai_n S < 200 from c17)]; try rfl) | (rw [if_neg (show ¬ ai_n S < 200 from c17)]; try rfl))
  · skip
    have c17 : ¬ (un (S 3 0 2)) < 200 := fun h => c17 ((nI_ltI (a := (un (S 3 0 2))) (b := 200) (by omega) (by omega)).mpr h)
    have c17n : 200 ≤ (un (S 3 0 2)) := Nat.not_lt.mp c17
    refine hr_aload_n C dX0_launch_20 rfl 0 rfl ?_
    refine hr_dup C dX0_launch_21 rfl ?_
    refine hr_get (k := 3) (i := 0) (fld := 4) C (by decide) rfl rfl (by decide) kU_X0 kF_X0_29 rfl rfl dX0_launch_22 ?_
    refine hr_tp (y := S 3 0 4) (by simp [hr_w, hr_wA, upd]) ?_
    refine hr_iconst (v := 1) C dX0_launch_25 (by decide) ?_
    refine hr_iadd C dX0_launch_26 rfl ?_
    refine hr_put (k := 3) (i := 0) (fld := 4) C (by decide) rfl rfl (by decide) kU_X0 kF_X0_29 rfl tyX0 tyX0_ok nmX0 rfl (by decide +kernel) (Nat.le_of_ble_eq_true rfl) (by simp [hr_cell, hr_w, hr_wA, upd]) rfl dX0_launch_27 ?_
    exact hr_vret C hr dX0_launch_30 (by unfold ai_launch; first | (rw [if_pos (show ai_n S < 200 from c17)]; try rfl) | (rw [if_neg (show ¬ ai_n S < 200 from c17)]; try rfl))
set_option maxHeartbeats 4000000 in
set_option maxRecDepth 100000 in
theorem ct_X0_remove (l : Launch) (E : hr_E) (S : hr_S) (o : Int64) (k : Nat) (hk : k < ai_n S) (hI : hr_CI S) : hr_Mv l E yX0_remove (Cond.code yX0_remove cX0_remove 3 none :: hr_W) ({ frames := 1, cells := 0, slots := 0, locals := 40 } : Room) [.ref (hr_ad E 3 0), .int (nI k)] S o (fun u => u = ai_remove S k) := by
  refine hr_of (by decide) (Nat.le_of_ble_eq_true rfl) (fun p e s m below meth c C hr => ?_)
  have hn2 := hI.1.2
  have hk2 : k < un (S 3 0 2) := hk
  refine hr_aload_n C dX0_remove_0 rfl 0 rfl ?_
  refine hr_get (k := 3) (i := 0) (fld := 1) C (by decide) rfl rfl (by decide) kU_X0 kF_X0_17 rfl rfl dX0_remove_1 ?_
  refine hr_iload_n C dX0_remove_4 rfl 1 rfl ?_
  refine hr_iald (k := 5) (i := 0) k C (by decide) rfl rfl (show k < 200 by omega) (by decide) dX0_remove_5 ?_
  refine hr_istore_n C [(2, .int (S 5 0 k)), (0, .ref (hr_ad E 3 0)), (1, .int (nI k))] dX0_remove_6 rfl (by decide) rfl ?_
  refine hr_aload_n C dX0_remove_7 rfl 1 rfl ?_
  refine hr_dup C dX0_remove_8 rfl ?_
  refine hr_get (k := 3) (i := 0) (fld := 2) C (by decide) rfl rfl (by decide) kU_X0 kF_X0_26 rfl rfl dX0_remove_9 ?_
  refine hr_tp (y := nI (un (S 3 0 2))) hI.1.1 ?_
  refine hr_iconst (v := 1) C dX0_remove_12 (by decide) ?_
  refine hr_isub (v := nI ((un (S 3 0 2)) - 1)) C dX0_remove_13 (pk_sub (a := (un (S 3 0 2))) (b := 1) (by omega)) ?_
  refine hr_put (k := 3) (i := 0) (fld := 2) C (by decide) rfl rfl (by decide) kU_X0 kF_X0_26 rfl tyX0 tyX0_ok nmX0 rfl (by decide +kernel) (Nat.le_of_ble_eq_true rfl) (by simp [hr_cell, hr_w, hr_wA, upd]) rfl dX0_remove_14 ?_
  refine hr_aload_n C dX0_remove_17 rfl 1 rfl ?_
  refine hr_get (k := 3) (i := 0) (fld := 1) C (by decide) rfl rfl (by decide) kU_X0 kF_X0_17 rfl rfl dX0_remove_18 ?_
  refine hr_iload_n C dX0_remove_21 rfl 2 rfl ?_
  refine hr_iconst (v := 1) C dX0_remove_22 (by decide) ?_
  refine hr_iadd (v := nI (k + 1)) C dX0_remove_23 (nI_add k 1) ?_
  refine hr_aload_n C dX0_remove_24 rfl 1 rfl ?_
  refine hr_get (k := 3) (i := 0) (fld := 1) C (by decide) rfl rfl (by decide) kU_X0 kF_X0_17 rfl rfl dX0_remove_25 ?_
  refine hr_iload_n C dX0_remove_28 rfl 2 rfl ?_
  refine hr_aload_n C dX0_remove_29 rfl 1 rfl ?_
  refine hr_get (k := 3) (i := 0) (fld := 2) C (by decide) rfl rfl (by decide) kU_X0 kF_X0_26 rfl rfl dX0_remove_30 ?_
  refine hr_tp (y := nI ((un (S 3 0 2)) - 1)) (by simp [hr_w, hr_wA, upd]) ?_
  refine hr_iload_n C dX0_remove_33 rfl 2 rfl ?_
  refine hr_isub (v := nI (((un (S 3 0 2)) - 1) - k)) C dX0_remove_34 (pk_sub (a := ((un (S 3 0 2)) - 1)) (b := k) (by omega)) ?_
  refine hr_copy (k0 := 5) (i0 := 0) (k := 5) (i := 0) (k + 1) k (((un (S 3 0 2)) - 1) - k) C (by decide) (by decide) rfl rfl rfl rfl rfl (show (k + 1) + (((un (S 3 0 2)) - 1) - k) ≤ 200 by omega) (show k + (((un (S 3 0 2)) - 1) - k) ≤ 200 by omega) (by decide) (by decide) kM_X0_36 kV_arraycopy kT_arraycopy kN_System (Nat.le_of_ble_eq_true rfl) (Nat.le_of_ble_eq_true rfl) (by simp [hr_cell, hr_wA]) rfl dX0_remove_35 ?_
  refine hr_aload_n C dX0_remove_38 rfl 1 rfl ?_
  refine hr_get (k := 3) (i := 0) (fld := 1) C (by decide) rfl rfl (by decide) kU_X0 kF_X0_17 rfl rfl dX0_remove_39 ?_
  refine hr_aload_n C dX0_remove_42 rfl 1 rfl ?_
  refine hr_get (k := 3) (i := 0) (fld := 2) C (by decide) rfl rfl (by decide) kU_X0 kF_X0_26 rfl rfl dX0_remove_43 ?_
  refine hr_tp (y := nI ((un (S 3 0 2)) - 1)) (by simp [hr_w, hr_wA, upd]) ?_
  refine hr_iload_n C dX0_remove_46 rfl 0 rfl ?_
  refine hr_iast (k := 5) (i := 0) ((un (S 3 0 2)) - 1) C (by decide) rfl rfl (show (un (S 3 0 2)) - 1 < 200 by omega) (by decide) (by simp [hr_cell, hr_wA]) rfl dX0_remove_47 ?_
  exact hr_vret C hr dX0_remove_48 rfl
set_option maxHeartbeats 4000000 in
set_option maxRecDepth 100000 in
theorem ct_X3_isUp (l : Launch) (E : hr_E) (S : hr_S) (o : Int64) (a b : Nat) (ha : a < 8) (hb : b < 8) (hz : S 1 0 (a * 8 + b) = 0 ∨ S 1 0 (a * 8 + b) = 1) : hr_Mi l E yX3_isUp (Cond.code yX3_isUp cX3_isUp 3 (some .boolean) :: hr_W) ({ frames := 0, cells := 0, slots := 0, locals := 0 } : Room) [.ref (hr_ad E 0 0), .int (nI a), .int (nI b)] S o (fun r u => r = (if ¬ S 1 0 (a * 8 + b) = 0 then 1 else 0) ∧ u = S) := by
  refine hr_of (by decide) (Nat.le_of_ble_eq_true rfl) (fun p e s m below meth c C hr => ?_)
  refine hr_aload_n C dX3_isUp_0 rfl 0 rfl ?_
  refine hr_get (k := 0) (i := 0) (fld := 0) C (by decide) rfl rfl (by decide) kU_X3 kF_X3_9 rfl rfl dX3_isUp_1 ?_
  refine hr_iload_n C dX3_isUp_4 rfl 1 rfl ?_
  refine hr_bipush (v := 8) C dX3_isUp_5 (by decide) ?_
  refine hr_imul (v := nI (a * 8)) C dX3_isUp_7 (pk_mul a 8) ?_
  refine hr_iload_n C dX3_isUp_8 rfl 2 rfl ?_
  refine hr_iadd (v := nI ((a * 8) + b)) C dX3_isUp_9 (nI_add (a * 8) b) ?_
  refine hr_zald (k := 1) (i := 0) ((a * 8) + b) C (by decide) rfl rfl (show (a * 8) + b < 64 by omega) (by decide) dX3_isUp_10 ?_
  exact hr_zret C hr (by rcases hz with h | h <;> rw [h] <;> rfl) dX3_isUp_11 ⟨by rcases hz with h | h <;> simp [h], rfl⟩
set_option maxHeartbeats 4000000 in
set_option maxRecDepth 100000 in
theorem ct_X3_checkRouter (l : Launch) (htr : l.stackTraces = false) (E : hr_E) (S : hr_S) (o : Int64) (a : Int32) : hr_Xv l E yX3_checkRouter (Cond.code yX3_checkRouter cX3_checkRouter 1 none :: hr_W) ({ frames := 6, cells := 1, slots := 6, locals := 90 } : Room) [.int a] S o (fun u => u = S ∧ nb a 8) (fun X => X = "java/lang/IndexOutOfBoundsException" ∧ ¬ nb a 8) 1 6 := by
  refine hr_ofX (by decide) (Nat.le_of_ble_eq_true rfl) (fun p e s m below meth c C hr htab => ?_)
  refine hr_iload_n C dX3_checkRouter_0 rfl 0 rfl ?_
  refine hr_if_lt C 10 dX3_checkRouter_1 (by decide) (fun c1 => ?_) (fun c1 => ?_)
  · skip
    have c1n : ¬ 0 ≤ a := Int32.not_le.mpr c1
    exact hr_throw (text := "no such router") C htr htab (by decide) ⟨rfl, nb_lt0 c1 (by decide)⟩ kL_X3_131 kN_IndexOutOfBoundsException (by decide) (hr_at_135 C) hr_good_135 dX3_checkRouter_10 dX3_checkRouter_13 dX3_checkRouter_14 dX3_checkRouter_16 dX3_checkRouter_19 (Nat.le_of_ble_eq_true rfl) (Nat.le_of_ble_eq_true rfl) (Nat.le_of_ble_eq_true rfl) (Nat.le_of_ble_eq_true rfl) (Nat.le_of_ble_eq_true rfl) (Nat.le_of_ble_eq_true rfl) rfl
  · skip
    have c1n : 0 ≤ a := Int32.not_lt.mp c1
    refine hr_iload_n C dX3_checkRouter_4 rfl 0 rfl ?_
    refine hr_bipush (v := 8) C dX3_checkRouter_5 (by decide) ?_
    refine hr_icmp_lt C 20 dX3_checkRouter_7 (by decide) (fun c7 => ?_) (fun c7 => ?_)
    · skip
      have c7n : ¬ 8 ≤ a := Int32.not_le.mpr c7
      refine hr_xr ?_ (Nat.le_of_ble_eq_true rfl) (Nat.le_of_ble_eq_true rfl)
      exact hr_vret C hr dX3_checkRouter_20 ⟨rfl, nb_of c1 c7 rfl (by decide)⟩
    · skip
      have c7n : 8 ≤ a := Int32.not_lt.mp c7
      exact hr_throw (text := "no such router") C htr htab (by decide) ⟨rfl, nb_ge c7 rfl (by decide)⟩ kL_X3_131 kN_IndexOutOfBoundsException (by decide) (hr_at_135 C) hr_good_135 dX3_checkRouter_10 dX3_checkRouter_13 dX3_checkRouter_14 dX3_checkRouter_16 dX3_checkRouter_19 (Nat.le_of_ble_eq_true rfl) (Nat.le_of_ble_eq_true rfl) (Nat.le_of_ble_eq_true rfl) (Nat.le_of_ble_eq_true rfl) (Nat.le_of_ble_eq_true rfl) (Nat.le_of_ble_eq_true rfl) rfl
set_option maxHeartbeats 4000000 in
set_option maxRecDepth 100000 in
theorem ct_X3_checkPair (l : Launch) (htr : l.stackTraces = false) (E : hr_E) (S : hr_S) (o : Int64) (a b : Int32) : hr_Xv l E yX3_checkPair (Cond.code yX3_checkPair cX3_checkPair 2 none :: hr_W) ({ frames := 7, cells := 3, slots := 18, locals := 110 } : Room) [.int a, .int b] S o (fun u => u = S ∧ nb a 8 ∧ nb b 8 ∧ ¬ a = b) (fun X => (X = "java/lang/IndexOutOfBoundsException" ∧ ¬ (nb a 8 ∧ nb b 8)) ∨ (X = "java/lang/IllegalArgumentException" ∧ (nb a 8 ∧ nb b 8) ∧ a = b)) 3 18 := by
  refine hr_ofX (by decide) (Nat.le_of_ble_eq_true rfl) (fun p e s m below meth c C hr htab => ?_)
  refine hr_iload_n C dX3_checkPair_0 rfl 0 rfl ?_
  refine hr_xSv C htab (ct_X3_checkRouter l htr E S o a) (cwS 1 C.1.2.2.2.2 (hr_gS kM_X3_60 kT_X3_checkRouter kN_X3 kC_X3_checkRouter) rfl rfl rfl (by decide +kernel) ⟨Nat.le_of_ble_eq_true rfl, Nat.le_of_ble_eq_true rfl⟩) rfl (Nat.le_of_ble_eq_true rfl) dX3_checkPair_1 ⟨Nat.le_of_ble_eq_true rfl, Nat.le_of_ble_eq_true rfl⟩ ⟨Nat.le_of_ble_eq_true rfl, Nat.le_of_ble_eq_true rfl⟩ (fun X h => Or.inl ⟨h.1, fun z => h.2 z.1⟩) (fun S2 h3 => ?_) rfl
  obtain ⟨h3, fa⟩ := h3
  refine hr_st h3 ?_
  refine hr_iload_n C dX3_checkPair_4 rfl 1 rfl ?_
  refine hr_xSv C htab (ct_X3_checkRouter l htr E S o b) (cwS 1 C.1.2.2.2.2 (hr_gS kM_X3_60 kT_X3_checkRouter kN_X3 kC_X3_checkRouter) rfl rfl rfl (by decide +kernel) ⟨Nat.le_of_ble_eq_true rfl, Nat.le_of_ble_eq_true rfl⟩) rfl (Nat.le_of_ble_eq_true rfl) dX3_checkPair_5 ⟨Nat.le_of_ble_eq_true rfl, Nat.le_of_ble_eq_true rfl⟩ ⟨Nat.le_of_ble_eq_true rfl, Nat.le_of_ble_eq_true rfl⟩ (fun X h => Or.inl ⟨h.1, fun z => h.2 z.2⟩) (fun S5 h6 => ?_) rfl
  obtain ⟨h6, fb⟩ := h6
  refine hr_st h6 ?_
  refine hr_iload_n C dX3_checkPair_8 rfl 0 rfl ?_
  refine hr_iload_n C dX3_checkPair_9 rfl 1 rfl ?_
  refine hr_icmp_ne C 23 dX3_checkPair_10 (by decide) (fun c10 => ?_) (fun c10 => ?_)
  · skip
    refine hr_xr ?_ (Nat.le_of_ble_eq_true rfl) (Nat.le_of_ble_eq_true rfl)
    exact hr_vret C hr dX3_checkPair_23 ⟨rfl, fa, fb, c10⟩
  · skip
    exact hr_throw (text := "both routers are the same") C htr htab (by decide) (Or.inr ⟨rfl, ⟨fa, fb⟩, c10⟩) kL_X3_82 kN_IllegalArgumentException (by decide) (hr_at_86 C) hr_good_86 dX3_checkPair_13 dX3_checkPair_16 dX3_checkPair_17 dX3_checkPair_19 dX3_checkPair_22 (Nat.le_of_ble_eq_true rfl) (Nat.le_of_ble_eq_true rfl) (Nat.le_of_ble_eq_true rfl) (Nat.le_of_ble_eq_true rfl) (Nat.le_of_ble_eq_true rfl) (Nat.le_of_ble_eq_true rfl) rfl
set_option maxHeartbeats 4000000 in
set_option maxRecDepth 100000 in
theorem ct_X3_checkPacket (l : Launch) (htr : l.stackTraces = false) (E : hr_E) (S : hr_S) (o : Int64) (k : Int32) (hI : hr_CI S) : hr_Xv l E yX3_checkPacket (Cond.code yX3_checkPacket cX3_checkPacket 2 none :: hr_W) ({ frames := 6, cells := 1, slots := 6, locals := 90 } : Room) [.ref (hr_ad E 0 0), .int k] S o (fun u => u = S ∧ nb k (ai_n S)) (fun X => X = "java/lang/IndexOutOfBoundsException" ∧ ¬ nb k (ai_n S)) 1 6 := by
  refine hr_ofX (by decide) (Nat.le_of_ble_eq_true rfl) (fun p e s m below meth c C hr htab => ?_)
  have hn2 := hI.1.2
  refine hr_iload_n C dX3_checkPacket_0 rfl 1 rfl ?_
  refine hr_if_lt C 15 dX3_checkPacket_1 (by decide) (fun c1 => ?_) (fun c1 => ?_)
  · skip
    have c1n : ¬ 0 ≤ k := Int32.not_le.mpr c1
    exact hr_throw (text := "no such packet") C htr htab (by decide) ⟨rfl, nb_lt0 c1 (by have : ai_n S < 201 := hn2; omega)⟩ kL_X3_131 kN_IndexOutOfBoundsException (by decide) (hr_at_135 C) hr_good_135 dX3_checkPacket_15 dX3_checkPacket_18 dX3_checkPacket_19 dX3_checkPacket_21 dX3_checkPacket_24 (Nat.le_of_ble_eq_true rfl) (Nat.le_of_ble_eq_true rfl) (Nat.le_of_ble_eq_true rfl) (Nat.le_of_ble_eq_true rfl) (Nat.le_of_ble_eq_true rfl) (Nat.le_of_ble_eq_true rfl) rfl
  · skip
    have c1n : 0 ≤ k := Int32.not_lt.mp c1
    refine hr_iload_n C dX3_checkPacket_4 rfl 1 rfl ?_
    refine hr_aload_n C dX3_checkPacket_5 rfl 0 rfl ?_
    refine hr_get (k := 0) (i := 0) (fld := 2) C (by decide) rfl rfl (by decide) kU_X3 kF_X3_22 rfl rfl dX3_checkPacket_6 ?_
    refine hr_get (k := 3) (i := 0) (fld := 2) C (by decide) rfl rfl (by decide) kU_X0 kF_X3_79 rfl rfl dX3_checkPacket_9 ?_
    refine hr_icmp_lt C 25 dX3_checkPacket_12 (by decide) (fun c12 => ?_) (fun c12 => ?_)
    · skip
      have c12n : ¬ (S 3 0 2) ≤ k := Int32.not_le.mpr c12
      refine hr_xr ?_ (Nat.le_of_ble_eq_true rfl) (Nat.le_of_ble_eq_true rfl)
      exact hr_vret C hr dX3_checkPacket_25 ⟨rfl, nb_of c1 c12 hI.1.1 (by have : ai_n S < 201 := hn2; omega)⟩
    · skip
      have c12n : (S 3 0 2) ≤ k := Int32.not_lt.mp c12
      exact hr_throw (text := "no such packet") C htr htab (by decide) ⟨rfl, nb_ge c12 hI.1.1 (by have : ai_n S < 201 := hn2; omega)⟩ kL_X3_131 kN_IndexOutOfBoundsException (by decide) (hr_at_135 C) hr_good_135 dX3_checkPacket_15 dX3_checkPacket_18 dX3_checkPacket_19 dX3_checkPacket_21 dX3_checkPacket_24 (Nat.le_of_ble_eq_true rfl) (Nat.le_of_ble_eq_true rfl) (Nat.le_of_ble_eq_true rfl) (Nat.le_of_ble_eq_true rfl) (Nat.le_of_ble_eq_true rfl) (Nat.le_of_ble_eq_true rfl) rfl
set_option maxHeartbeats 4000000 in
set_option maxRecDepth 100000 in
theorem ct_X3_checkByte (l : Launch) (htr : l.stackTraces = false) (E : hr_E) (S : hr_S) (o : Int64) (i : Nat) (hi : i < 202) (j : Int32) (hb : nb (S 6 i 2) 165) : hr_Xv l E yX3_checkByte (Cond.code yX3_checkByte cX3_checkByte 2 none :: hr_W) ({ frames := 6, cells := 1, slots := 6, locals := 90 } : Room) [.ref (hr_ad E 6 i), .int j] S o (fun u => u = S ∧ nb j (un (S 6 i 2))) (fun X => X = "java/lang/IndexOutOfBoundsException" ∧ ¬ nb j (un (S 6 i 2))) 1 6 := by
  refine hr_ofX (by decide) (Nat.le_of_ble_eq_true rfl) (fun p e s m below meth c C hr htab => ?_)
  have hb2 := hb.2
  refine hr_iload_n C dX3_checkByte_0 rfl 1 rfl ?_
  refine hr_if_lt C 12 dX3_checkByte_1 (by decide) (fun c1 => ?_) (fun c1 => ?_)
  · skip
    have c1n : ¬ 0 ≤ j := Int32.not_le.mpr c1
    exact hr_throw (text := "no such byte") C htr htab (by decide) ⟨rfl, nb_lt0 c1 (by omega)⟩ kL_X3_131 kN_IndexOutOfBoundsException (by decide) (hr_at_135 C) hr_good_135 dX3_checkByte_12 dX3_checkByte_15 dX3_checkByte_16 dX3_checkByte_18 dX3_checkByte_21 (Nat.le_of_ble_eq_true rfl) (Nat.le_of_ble_eq_true rfl) (Nat.le_of_ble_eq_true rfl) (Nat.le_of_ble_eq_true rfl) (Nat.le_of_ble_eq_true rfl) (Nat.le_of_ble_eq_true rfl) rfl
  · skip
    have c1n : 0 ≤ j := Int32.not_lt.mp c1
    refine hr_iload_n C dX3_checkByte_4 rfl 1 rfl ?_
    refine hr_aload_n C dX3_checkByte_5 rfl 0 rfl ?_
    refine hr_get (k := 6) (i := i) (fld := 2) C (show i < 202 by omega) rfl rfl (by decide) kU_X1 kF_X3_120 rfl rfl dX3_checkByte_6 ?_
    refine hr_icmp_lt C 22 dX3_checkByte_9 (by decide) (fun c9 => ?_) (fun c9 => ?_)
    · skip
      have c9n : ¬ (S 6 i 2) ≤ j := Int32.not_le.mpr c9
      refine hr_xr ?_ (Nat.le_of_ble_eq_true rfl) (Nat.le_of_ble_eq_true rfl)
      exact hr_vret C hr dX3_checkByte_22 ⟨rfl, nb_of c1 c9 hb.1 (by omega)⟩
    · skip
      have c9n : (S 6 i 2) ≤ j := Int32.not_lt.mp c9
      exact hr_throw (text := "no such byte") C htr htab (by decide) ⟨rfl, nb_ge c9 hb.1 (by omega)⟩ kL_X3_131 kN_IndexOutOfBoundsException (by decide) (hr_at_135 C) hr_good_135 dX3_checkByte_12 dX3_checkByte_15 dX3_checkByte_16 dX3_checkByte_18 dX3_checkByte_21 (Nat.le_of_ble_eq_true rfl) (Nat.le_of_ble_eq_true rfl) (Nat.le_of_ble_eq_true rfl) (Nat.le_of_ble_eq_true rfl) (Nat.le_of_ble_eq_true rfl) (Nat.le_of_ble_eq_true rfl) rfl
def cl_mans (S : hr_S) (r d : Nat) : Int32 := if d = r then 1 else if ¬ S 9 r d = -1 then S 9 r d else 16
set_option maxHeartbeats 4000000 in
set_option maxRecDepth 100000 in
theorem ct_X3_metricAnswered (l : Launch) (E : hr_E) (S : hr_S) (o : Int64) (r9 d : Nat) (hr9 : r9 < 8) (hd : d < 8) : hr_Mi l E yX3_metricAnswered (Cond.code yX3_metricAnswered cX3_metricAnswered 3 (some .int) :: hr_W) ({ frames := 1, cells := 0, slots := 0, locals := 21 } : Room) [.ref (hr_ad E 0 0), .int (nI r9), .int (nI d)] S o (fun r u => r = cl_mans S r9 d ∧ u = S) := by
  refine hr_of (by decide) (Nat.le_of_ble_eq_true rfl) (fun p e s m below meth c C hr => ?_)
  refine hr_iload_n C dX3_metricAnswered_0 rfl 2 rfl ?_
  refine hr_iload_n C dX3_metricAnswered_1 rfl 1 rfl ?_
  refine hr_icmp_ne C 7 dX3_metricAnswered_2 (by decide) (fun c2 => ?_) (fun c2 => ?_)
  · skip
    have c2 : ¬ d = r9 := fun h => c2 ((nI_eq (a := d) (b := r9) (by omega) (by omega)).mpr h)
    refine hr_aload_n C dX3_metricAnswered_7 rfl 0 rfl ?_
    refine hr_get (k := 0) (i := 0) (fld := 1) C (by decide) rfl rfl (by decide) kU_X3 kF_X3_15 rfl rfl dX3_metricAnswered_8 ?_
    refine hr_iload_n C dX3_metricAnswered_11 rfl 1 rfl ?_
    refine hr_aald (k := 2) (i := 0) (t0 := 4) (k2 := 8) r9 C (by decide) rfl rfl rfl (show r9 < 8 by omega) (by decide) dX3_metricAnswered_12 ?_
    refine hr_iload_n C dX3_metricAnswered_13 rfl 2 rfl ?_
    refine hr_cVi C (ct_X2_has l E S o r9 (by omega) d (by omega)) (cwV 1 C.1.2.2.2.2 (hr_gV kM_X3_185 kI_X2_has kS_X2_has kN_X2 kC_X2_has) rfl rfl rfl (by decide +kernel) ⟨Nat.le_of_ble_eq_true rfl, Nat.le_of_ble_eq_true rfl⟩) (show r9 < 8 by omega) rfl rfl rfl (Nat.le_of_ble_eq_true rfl) dX3_metricAnswered_14 ⟨Nat.le_of_ble_eq_true rfl, Nat.le_of_ble_eq_true rfl⟩ (fun r1 S2 h3 => ?_) rfl
    refine hr_tp h3.1 ?_
    refine hr_st h3.2 ?_
    refine hr_if_eq C 34 dX3_metricAnswered_17 (by decide) (fun c17 => ?_) (fun c17 => ?_)
    · skip
      have c17 : ¬ (¬ S 9 r9 d = -1) := hr_bz.mp c17
      refine hr_bipush (v := 16) C dX3_metricAnswered_34 (by decide) ?_
      exact hr_iret C hr dX3_metricAnswered_36 ⟨by unfold cl_mans; repeat (first | rw [if_pos c2] | rw [if_neg c2] | rw [if_neg (not_not_intro c2)] | rw [if_pos c17] | rw [if_neg c17] | rw [if_neg (not_not_intro c17)]), rfl⟩
    · skip
      have c17 : ¬ S 9 r9 d = -1 := hr_bn.mp c17
      refine hr_aload_n C dX3_metricAnswered_20 rfl 0 rfl ?_
      refine hr_get (k := 0) (i := 0) (fld := 1) C (by decide) rfl rfl (by decide) kU_X3 kF_X3_15 rfl rfl dX3_metricAnswered_21 ?_
      refine hr_iload_n C dX3_metricAnswered_24 rfl 1 rfl ?_
      refine hr_aald (k := 2) (i := 0) (t0 := 4) (k2 := 8) r9 C (by decide) rfl rfl rfl (show r9 < 8 by omega) (by decide) dX3_metricAnswered_25 ?_
      refine hr_get (k := 8) (i := r9) (fld := 0) C (show r9 < 8 by omega) rfl rfl (by decide) kU_X2 kF_X3_231 rfl rfl dX3_metricAnswered_26 ?_
      refine hr_iload_n C dX3_metricAnswered_29 rfl 2 rfl ?_
      refine hr_iald (k := 9) (i := r9) d C (show r9 < 8 by omega) rfl rfl (show d < 8 by omega) (by decide) dX3_metricAnswered_30 ?_
      refine hr_goto C 36 dX3_metricAnswered_31 (by decide) ?_
      exact hr_iret C hr dX3_metricAnswered_36 ⟨by unfold cl_mans; repeat (first | rw [if_pos c2] | rw [if_neg c2] | rw [if_neg (not_not_intro c2)] | rw [if_pos c17] | rw [if_neg c17] | rw [if_neg (not_not_intro c17)]), rfl⟩
  · skip
    have c2 : d = r9 := (nI_eq (a := d) (b := r9) (by omega) (by omega)).mp c2
    refine hr_iconst (v := 1) C dX3_metricAnswered_5 (by decide) ?_
    exact hr_iret C hr dX3_metricAnswered_6 ⟨by unfold cl_mans; repeat (first | rw [if_pos c2] | rw [if_neg c2] | rw [if_neg (not_not_intro c2)]), rfl⟩
