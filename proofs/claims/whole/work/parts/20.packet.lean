theorem hr_sh : ∀ i, i < 164 → (3 - (nI i &&& 3)) * 8 = nI ((3 - i % 4) * 8) := by decide +kernel
theorem hr_sr : ∀ i, i < 164 → nI i >>> ((2 : Int32) &&& 31) = nI (i / 4) := by decide +kernel
/-- the byte i of a packet: of its words -/
def hr_by (w : Nat → Int32) (i : Nat) : Int32 := ((w (i / 4)).toUInt32 >>> ((nI ((3 - i % 4) * 8)).toUInt32 &&& Int32.toUInt32 31)).toInt32 &&& 255
/-- the word with the byte i another -/
def hr_sb (x : Int32) (i : Nat) (v : Int32) : Int32 := (x &&& ((255 : Int32) <<< (nI ((3 - i % 4) * 8) &&& 31) ^^^ (-1))) ||| (v <<< (nI ((3 - i % 4) * 8) &&& 31))
set_option maxHeartbeats 4000000 in
set_option maxRecDepth 100000 in
theorem ct_X1_shiftOf (l : Launch) (E : hr_E) (S : hr_S) (o : Int64) (i : Nat) (hi : i < 164) : hr_Mi l E yX1_shiftOf (Cond.code yX1_shiftOf cX1_shiftOf 1 (some .int) :: hr_W) ({ frames := 0, cells := 0, slots := 0, locals := 0 } : Room) [.int (nI i)] S o (fun r u => r = nI ((3 - i % 4) * 8) ∧ u = S) := by
  refine hr_of (by decide) (Nat.le_of_ble_eq_true rfl) (fun p e s m below meth c C hr => ?_)
  refine hr_iconst (v := 3) C dX1_shiftOf_0 (by decide) ?_
  refine hr_iload_n C dX1_shiftOf_1 rfl 0 rfl ?_
  refine hr_iconst (v := 3) C dX1_shiftOf_2 (by decide) ?_
  refine hr_iand C dX1_shiftOf_3 rfl ?_
  refine hr_isub C dX1_shiftOf_4 rfl ?_
  refine hr_bipush (v := 8) C dX1_shiftOf_5 (by decide) ?_
  refine hr_imul C dX1_shiftOf_7 rfl ?_
  exact hr_iret C hr dX1_shiftOf_8 ⟨hr_sh i hi, rfl⟩
set_option maxHeartbeats 4000000 in
set_option maxRecDepth 100000 in
theorem ct_X1_firstWord (l : Launch) (E : hr_E) (S : hr_S) (o : Int64) (e9 : Nat) : hr_Mi l E yX1_firstWord (Cond.code yX1_firstWord cX1_firstWord 1 (some .int) :: hr_W) ({ frames := 0, cells := 0, slots := 0, locals := 0 } : Room) [.int (nI e9)] S o (fun r u => r = nI (1 + (e9 * 5)) ∧ u = S) := by
  refine hr_of (by decide) (Nat.le_of_ble_eq_true rfl) (fun p e s m below meth c C hr => ?_)
  refine hr_iconst (v := 1) C dX1_firstWord_0 (by decide) ?_
  refine hr_iload_n C dX1_firstWord_1 rfl 0 rfl ?_
  refine hr_iconst (v := 5) C dX1_firstWord_2 (by decide) ?_
  refine hr_imul (v := nI (e9 * 5)) C dX1_firstWord_3 (pk_mul e9 5) ?_
  refine hr_iadd (v := nI (1 + (e9 * 5))) C dX1_firstWord_4 (nI_add 1 (e9 * 5)) ?_
  exact hr_iret C hr dX1_firstWord_5 ⟨rfl, rfl⟩
set_option maxHeartbeats 4000000 in
set_option maxRecDepth 100000 in
theorem ct_X1_entries (l : Launch) (E : hr_E) (S : hr_S) (o : Int64) (i : Nat) (hi : i < 202) (L : Nat) (hL : S 6 i 2 = nI L) (hL4 : 4 ≤ L) (hL5 : L ≤ 164) : hr_Mi l E yX1_entries (Cond.code yX1_entries cX1_entries 1 (some .int) :: hr_W) ({ frames := 0, cells := 0, slots := 0, locals := 0 } : Room) [.ref (hr_ad E 6 i)] S o (fun r u => r = nI ((L - 4) / 20) ∧ u = S) := by
  refine hr_of (by decide) (Nat.le_of_ble_eq_true rfl) (fun p e s m below meth c C hr => ?_)
  refine hr_aload_n C dX1_entries_0 rfl 0 rfl ?_
  refine hr_get (k := 6) (i := i) (fld := 2) C (show i < 202 by omega) rfl rfl (by decide) kU_X1 kF_X1_22 rfl rfl dX1_entries_1 ?_
  refine hr_tp (y := nI L) hL ?_
  refine hr_iconst (v := 4) C dX1_entries_4 (by decide) ?_
  refine hr_isub (v := nI (L - 4)) C dX1_entries_5 (pk_sub (a := L) (b := 4) (by omega)) ?_
  refine hr_bipush (v := 20) C dX1_entries_6 (by decide) ?_
  refine hr_idiv (v := nI ((L - 4) / 20)) C dX1_entries_8 (by decide) (pk_div (a := (L - 4)) (d := 20) (by omega) (by omega) (by omega)) ?_
  exact hr_iret C hr dX1_entries_9 ⟨rfl, rfl⟩
set_option maxHeartbeats 4000000 in
set_option maxRecDepth 100000 in
theorem ct_X1_metric (l : Launch) (E : hr_E) (S : hr_S) (o : Int64) (i : Nat) (hi : i < 202) (e9 : Nat) (he : e9 < 8) : hr_Mi l E yX1_metric (Cond.code yX1_metric cX1_metric 2 (some .int) :: hr_W) ({ frames := 1, cells := 0, slots := 0, locals := 20 } : Room) [.ref (hr_ad E 6 i), .int (nI e9)] S o (fun r u => r = S 7 i (1 + (e9 * 5) + 4) ∧ u = S) := by
  refine hr_of (by decide) (Nat.le_of_ble_eq_true rfl) (fun p e s m below meth c C hr => ?_)
  refine hr_aload_n C dX1_metric_0 rfl 0 rfl ?_
  refine hr_get (k := 6) (i := i) (fld := 3) C (show i < 202 by omega) rfl rfl (by decide) kU_X1 kF_X1_11 rfl rfl dX1_metric_1 ?_
  refine hr_iload_n C dX1_metric_4 rfl 1 rfl ?_
  refine hr_cSi C (ct_X1_firstWord l E S o e9) (cwS 1 C.1.2.2.2.2 (hr_gS kM_X1_29 kT_X1_firstWord kN_X1 kC_X1_firstWord) rfl rfl rfl (by decide +kernel) ⟨Nat.le_of_ble_eq_true rfl, Nat.le_of_ble_eq_true rfl⟩) rfl (Nat.le_of_ble_eq_true rfl) dX1_metric_5 ⟨Nat.le_of_ble_eq_true rfl, Nat.le_of_ble_eq_true rfl⟩ (fun r1 S2 h3 => ?_) rfl
  refine hr_tp h3.1 ?_
  refine hr_st h3.2 ?_
  refine hr_iconst (v := 4) C dX1_metric_8 (by decide) ?_
  refine hr_iadd (v := nI ((1 + (e9 * 5)) + 4)) C dX1_metric_9 (nI_add (1 + (e9 * 5)) 4) ?_
  refine hr_iald (k := 7) (i := i) ((1 + (e9 * 5)) + 4) C (show i < 202 by omega) rfl rfl (show (1 + (e9 * 5)) + 4 < 41 by omega) (by decide) dX1_metric_10 ?_
  exact hr_iret C hr dX1_metric_11 ⟨rfl, rfl⟩
set_option maxHeartbeats 4000000 in
set_option maxRecDepth 100000 in
theorem ct_X1_destination (l : Launch) (E : hr_E) (S : hr_S) (o : Int64) (i : Nat) (hi : i < 202) (e9 : Nat) (he : e9 < 8) : hr_Mi l E yX1_destination (Cond.code yX1_destination cX1_destination 2 (some .int) :: hr_W) ({ frames := 1, cells := 0, slots := 0, locals := 20 } : Room) [.ref (hr_ad E 6 i), .int (nI e9)] S o (fun r u => r = (S 7 i (1 + (e9 * 5) + 1) >>> ((8 : Int32) &&& 31)) &&& 255 ∧ u = S) := by
  refine hr_of (by decide) (Nat.le_of_ble_eq_true rfl) (fun p e s m below meth c C hr => ?_)
  refine hr_aload_n C dX1_destination_0 rfl 0 rfl ?_
  refine hr_get (k := 6) (i := i) (fld := 3) C (show i < 202 by omega) rfl rfl (by decide) kU_X1 kF_X1_11 rfl rfl dX1_destination_1 ?_
  refine hr_iload_n C dX1_destination_4 rfl 1 rfl ?_
  refine hr_cSi C (ct_X1_firstWord l E S o e9) (cwS 1 C.1.2.2.2.2 (hr_gS kM_X1_29 kT_X1_firstWord kN_X1 kC_X1_firstWord) rfl rfl rfl (by decide +kernel) ⟨Nat.le_of_ble_eq_true rfl, Nat.le_of_ble_eq_true rfl⟩) rfl (Nat.le_of_ble_eq_true rfl) dX1_destination_5 ⟨Nat.le_of_ble_eq_true rfl, Nat.le_of_ble_eq_true rfl⟩ (fun r1 S2 h3 => ?_) rfl
  refine hr_tp h3.1 ?_
  refine hr_st h3.2 ?_
  refine hr_iconst (v := 1) C dX1_destination_8 (by decide) ?_
  refine hr_iadd (v := nI ((1 + (e9 * 5)) + 1)) C dX1_destination_9 (nI_add (1 + (e9 * 5)) 1) ?_
  refine hr_iald (k := 7) (i := i) ((1 + (e9 * 5)) + 1) C (show i < 202 by omega) rfl rfl (show (1 + (e9 * 5)) + 1 < 41 by omega) (by decide) dX1_destination_10 ?_
  refine hr_bipush (v := 8) C dX1_destination_11 (by decide) ?_
  refine hr_ishr C dX1_destination_13 rfl ?_
  refine hr_sipush (v := 255) C dX1_destination_14 (by decide) ?_
  refine hr_iand C dX1_destination_17 rfl ?_
  exact hr_iret C hr dX1_destination_18 ⟨rfl, rfl⟩
set_option maxHeartbeats 4000000 in
set_option maxRecDepth 100000 in
theorem ct_X1_isRequest (l : Launch) (E : hr_E) (S : hr_S) (o : Int64) (i : Nat) (hi : i < 202) : hr_Mi l E yX1_isRequest (Cond.code yX1_isRequest cX1_isRequest 1 (some .boolean) :: hr_W) ({ frames := 0, cells := 0, slots := 0, locals := 0 } : Room) [.ref (hr_ad E 6 i)] S o (fun r u => r = (if S 7 i 0 = 16908288 then 1 else 0) ∧ u = S) := by
  refine hr_of (by decide) (Nat.le_of_ble_eq_true rfl) (fun p e s m below meth c C hr => ?_)
  refine hr_aload_n C dX1_isRequest_0 rfl 0 rfl ?_
  refine hr_get (k := 6) (i := i) (fld := 3) C (show i < 202 by omega) rfl rfl (by decide) kU_X1 kF_X1_11 rfl rfl dX1_isRequest_1 ?_
  refine hr_iconst (v := 0) C dX1_isRequest_4 (by decide) ?_
  refine hr_iald (k := 7) (i := i) 0 C (show i < 202 by omega) rfl rfl (show 0 < 41 by omega) (by decide) dX1_isRequest_5 ?_
  refine hr_ldc (v := 16908288) C dX1_isRequest_6 kK_X1_43 ?_
  refine hr_icmp_ne C 15 dX1_isRequest_8 (by decide) (fun c8 => ?_) (fun c8 => ?_)
  · skip
    refine hr_iconst (v := 0) C dX1_isRequest_15 (by decide) ?_
    exact hr_zret C hr rfl dX1_isRequest_16 ⟨by first | (simp only [c8, and_true, true_and, and_false, false_and, or_true, true_or, or_false, false_or, if_true, if_false, reduceIte, not_true_eq_false, not_false_eq_true, and_self]; done) | (rw [if_neg (fun h => by have := h.1; omega)]) | (rw [if_neg (fun h => by have := h.2.1; omega)]), rfl⟩
  · skip
    refine hr_iconst (v := 1) C dX1_isRequest_11 (by decide) ?_
    refine hr_goto C 16 dX1_isRequest_12 (by decide) ?_
    exact hr_zret C hr rfl dX1_isRequest_16 ⟨by first | (simp only [c8, and_true, true_and, and_false, false_and, or_true, true_or, or_false, false_or, if_true, if_false, reduceIte, not_true_eq_false, not_false_eq_true, and_self]; done) | (rw [if_neg (fun h => by have := h.1; omega)]) | (rw [if_neg (fun h => by have := h.2.1; omega)]), rfl⟩
set_option maxHeartbeats 4000000 in
set_option maxRecDepth 100000 in
theorem ct_X1_isSound (l : Launch) (E : hr_E) (S : hr_S) (o : Int64) (i : Nat) (hi : i < 202) (L : Nat) (hL : S 6 i 2 = nI L) (hL5 : L ≤ 164) : hr_Mi l E yX1_isSound (Cond.code yX1_isSound cX1_isSound 1 (some .boolean) :: hr_W) ({ frames := 0, cells := 0, slots := 0, locals := 0 } : Room) [.ref (hr_ad E 6 i)] S o (fun r u => r = (if 24 ≤ L ∧ (L - 4) % 20 = 0 ∧ (S 7 i 0 = 16908288 ∨ S 7 i 0 = 33685504) then 1 else 0) ∧ u = S) := by
  refine hr_of (by decide) (Nat.le_of_ble_eq_true rfl) (fun p e s m below meth c C hr => ?_)
  refine hr_aload_n C dX1_isSound_0 rfl 0 rfl ?_
  refine hr_get (k := 6) (i := i) (fld := 2) C (show i < 202 by omega) rfl rfl (by decide) kU_X1 kF_X1_22 rfl rfl dX1_isSound_1 ?_
  refine hr_tp (y := nI L) hL ?_
  refine hr_bipush (v := 24) C dX1_isSound_4 (by decide) ?_
  refine hr_icmp_lt C 47 dX1_isSound_6 (by decide) (fun c6 => ?_) (fun c6 => ?_)
  · skip
    have c6 : L < 24 := (nI_ltI (a := L) (b := 24) (by omega) (by omega)).mp c6
    have c6n : ¬ 24 ≤ L := Nat.not_le.mpr c6
    refine hr_iconst (v := 0) C dX1_isSound_47 (by decide) ?_
    exact hr_zret C hr rfl dX1_isSound_48 ⟨by first | (simp only [c6, c6n, and_true, true_and, and_false, false_and, or_true, true_or, or_false, false_or, if_true, if_false, reduceIte, not_true_eq_false, not_false_eq_true, and_self]; done) | (rw [if_neg (fun h => by have := h.1; omega)]) | (rw [if_neg (fun h => by have := h.2.1; omega)]), rfl⟩
  · skip
    have c6 : ¬ L < 24 := fun h => c6 ((nI_ltI (a := L) (b := 24) (by omega) (by omega)).mpr h)
    have c6n : 24 ≤ L := Nat.not_lt.mp c6
    refine hr_aload_n C dX1_isSound_9 rfl 0 rfl ?_
    refine hr_get (k := 6) (i := i) (fld := 2) C (show i < 202 by omega) rfl rfl (by decide) kU_X1 kF_X1_22 rfl rfl dX1_isSound_10 ?_
    refine hr_tp (y := nI L) hL ?_
    refine hr_iconst (v := 4) C dX1_isSound_13 (by decide) ?_
    refine hr_isub (v := nI (L - 4)) C dX1_isSound_14 (pk_sub (a := L) (b := 4) (by omega)) ?_
    refine hr_bipush (v := 20) C dX1_isSound_15 (by decide) ?_
    refine hr_irem (v := nI ((L - 4) % 20)) C dX1_isSound_17 (by decide) (pk_rem (a := (L - 4)) (d := 20) (by omega) (by omega) (by omega)) ?_
    refine hr_if_ne C 47 dX1_isSound_18 (by decide) (fun c18 => ?_) (fun c18 => ?_)
    · skip
      have c18 : ¬ ((L - 4) % 20) = 0 := fun h => c18 ((nI_eq (a := ((L - 4) % 20)) (b := 0) (by omega) (by omega)).mpr h)
      refine hr_iconst (v := 0) C dX1_isSound_47 (by decide) ?_
      exact hr_zret C hr rfl dX1_isSound_48 ⟨by first | (simp only [c6, c6n, c18, and_true, true_and, and_false, false_and, or_true, true_or, or_false, false_or, if_true, if_false, reduceIte, not_true_eq_false, not_false_eq_true, and_self]; done) | (rw [if_neg (fun h => by have := h.1; omega)]) | (rw [if_neg (fun h => by have := h.2.1; omega)]), rfl⟩
    · skip
      have c18 : ((L - 4) % 20) = 0 := (nI_eq (a := ((L - 4) % 20)) (b := 0) (by omega) (by omega)).mp c18
      refine hr_aload_n C dX1_isSound_21 rfl 0 rfl ?_
      refine hr_get (k := 6) (i := i) (fld := 3) C (show i < 202 by omega) rfl rfl (by decide) kU_X1 kF_X1_11 rfl rfl dX1_isSound_22 ?_
      refine hr_iconst (v := 0) C dX1_isSound_25 (by decide) ?_
      refine hr_iald (k := 7) (i := i) 0 C (show i < 202 by omega) rfl rfl (show 0 < 41 by omega) (by decide) dX1_isSound_26 ?_
      refine hr_ldc (v := 16908288) C dX1_isSound_27 kK_X1_43 ?_
      refine hr_icmp_eq C 43 dX1_isSound_29 (by decide) (fun c29 => ?_) (fun c29 => ?_)
      · skip
        refine hr_iconst (v := 1) C dX1_isSound_43 (by decide) ?_
        refine hr_goto C 48 dX1_isSound_44 (by decide) ?_
        exact hr_zret C hr rfl dX1_isSound_48 ⟨by first | (simp only [c6, c6n, c18, c29, and_true, true_and, and_false, false_and, or_true, true_or, or_false, false_or, if_true, if_false, reduceIte, not_true_eq_false, not_false_eq_true, and_self]; done) | (rw [if_neg (fun h => by have := h.1; omega)]) | (rw [if_neg (fun h => by have := h.2.1; omega)]), rfl⟩
      · skip
        refine hr_aload_n C dX1_isSound_32 rfl 0 rfl ?_
        refine hr_get (k := 6) (i := i) (fld := 3) C (show i < 202 by omega) rfl rfl (by decide) kU_X1 kF_X1_11 rfl rfl dX1_isSound_33 ?_
        refine hr_iconst (v := 0) C dX1_isSound_36 (by decide) ?_
        refine hr_iald (k := 7) (i := i) 0 C (show i < 202 by omega) rfl rfl (show 0 < 41 by omega) (by decide) dX1_isSound_37 ?_
        refine hr_ldc (v := 33685504) C dX1_isSound_38 kK_X1_44 ?_
        refine hr_icmp_ne C 47 dX1_isSound_40 (by decide) (fun c40 => ?_) (fun c40 => ?_)
        · skip
          refine hr_iconst (v := 0) C dX1_isSound_47 (by decide) ?_
          exact hr_zret C hr rfl dX1_isSound_48 ⟨by first | (simp only [c6, c6n, c18, c29, c40, and_true, true_and, and_false, false_and, or_true, true_or, or_false, false_or, if_true, if_false, reduceIte, not_true_eq_false, not_false_eq_true, and_self]; done) | (rw [if_neg (fun h => by have := h.1; omega)]) | (rw [if_neg (fun h => by have := h.2.1; omega)]), rfl⟩
        · skip
          refine hr_iconst (v := 1) C dX1_isSound_43 (by decide) ?_
          refine hr_goto C 48 dX1_isSound_44 (by decide) ?_
          exact hr_zret C hr rfl dX1_isSound_48 ⟨by first | (simp only [c6, c6n, c18, c29, c40, and_true, true_and, and_false, false_and, or_true, true_or, or_false, false_or, if_true, if_false, reduceIte, not_true_eq_false, not_false_eq_true, and_self]; done) | (rw [if_neg (fun h => by have := h.1; omega)]) | (rw [if_neg (fun h => by have := h.2.1; omega)]), rfl⟩
set_option maxHeartbeats 4000000 in
set_option maxRecDepth 100000 in
theorem ct_X1_hasPlainFields (l : Launch) (E : hr_E) (S : hr_S) (o : Int64) (i : Nat) (hi : i < 202) (e9 : Nat) (he : e9 < 8) (fb : Int32) : hr_Mi l E yX1_hasPlainFields (Cond.code yX1_hasPlainFields cX1_hasPlainFields 4 (some .boolean) :: hr_W) ({ frames := 1, cells := 0, slots := 0, locals := 20 } : Room) [.ref (hr_ad E 6 i), .int (nI e9), .int fb] S o (fun r u => r = (if (S 7 i (1 + (e9 * 5) + 1) &&& (fb ^^^ (-1))) = 167772160 ∧ S 7 i (1 + (e9 * 5) + 2) = -256 ∧ S 7 i (1 + (e9 * 5) + 3) = 0 then 1 else 0) ∧ u = S) := by
  refine hr_of (by decide) (Nat.le_of_ble_eq_true rfl) (fun p e s m below meth c C hr => ?_)
  refine hr_iload_n C dX1_hasPlainFields_0 rfl 1 rfl ?_
  refine hr_cSi C (ct_X1_firstWord l E S o e9) (cwS 1 C.1.2.2.2.2 (hr_gS kM_X1_29 kT_X1_firstWord kN_X1 kC_X1_firstWord) rfl rfl rfl (by decide +kernel) ⟨Nat.le_of_ble_eq_true rfl, Nat.le_of_ble_eq_true rfl⟩) rfl (Nat.le_of_ble_eq_true rfl) dX1_hasPlainFields_1 ⟨Nat.le_of_ble_eq_true rfl, Nat.le_of_ble_eq_true rfl⟩ (fun r1 S2 h3 => ?_) rfl
  refine hr_tp h3.1 ?_
  refine hr_st h3.2 ?_
  refine hr_istore_n C [(3, .int (nI (1 + (e9 * 5)))), (0, .ref (hr_ad E 6 i)), (1, .int (nI e9)), (2, .int fb)] dX1_hasPlainFields_4 rfl (by decide) rfl ?_
  refine hr_aload_n C dX1_hasPlainFields_5 rfl 1 rfl ?_
  refine hr_get (k := 6) (i := i) (fld := 3) C (show i < 202 by omega) rfl rfl (by decide) kU_X1 kF_X1_11 rfl rfl dX1_hasPlainFields_6 ?_
  refine hr_iload_n C dX1_hasPlainFields_9 rfl 0 rfl ?_
  refine hr_iconst (v := 1) C dX1_hasPlainFields_10 (by decide) ?_
  refine hr_iadd (v := nI ((1 + (e9 * 5)) + 1)) C dX1_hasPlainFields_11 (nI_add (1 + (e9 * 5)) 1) ?_
  refine hr_iald (k := 7) (i := i) ((1 + (e9 * 5)) + 1) C (show i < 202 by omega) rfl rfl (show (1 + (e9 * 5)) + 1 < 41 by omega) (by decide) dX1_hasPlainFields_12 ?_
  refine hr_iload_n C dX1_hasPlainFields_13 rfl 3 rfl ?_
  refine hr_iconst (v := (-1)) C dX1_hasPlainFields_14 (by decide) ?_
  refine hr_ixor C dX1_hasPlainFields_15 rfl ?_
  refine hr_iand C dX1_hasPlainFields_16 rfl ?_
  refine hr_ldc (v := 167772160) C dX1_hasPlainFields_17 kK_X1_33 ?_
  refine hr_icmp_ne C 51 dX1_hasPlainFields_19 (by decide) (fun c19 => ?_) (fun c19 => ?_)
  · skip
    refine hr_iconst (v := 0) C dX1_hasPlainFields_51 (by decide) ?_
    exact hr_zret C hr rfl dX1_hasPlainFields_52 ⟨by first | (simp only [c19, and_true, true_and, and_false, false_and, or_true, true_or, or_false, false_or, if_true, if_false, reduceIte, not_true_eq_false, not_false_eq_true, and_self]; done) | (rw [if_neg (fun h => by have := h.1; omega)]) | (rw [if_neg (fun h => by have := h.2.1; omega)]), rfl⟩
  · skip
    refine hr_aload_n C dX1_hasPlainFields_22 rfl 1 rfl ?_
    refine hr_get (k := 6) (i := i) (fld := 3) C (show i < 202 by omega) rfl rfl (by decide) kU_X1 kF_X1_11 rfl rfl dX1_hasPlainFields_23 ?_
    refine hr_iload_n C dX1_hasPlainFields_26 rfl 0 rfl ?_
    refine hr_iconst (v := 2) C dX1_hasPlainFields_27 (by decide) ?_
    refine hr_iadd (v := nI ((1 + (e9 * 5)) + 2)) C dX1_hasPlainFields_28 (nI_add (1 + (e9 * 5)) 2) ?_
    refine hr_iald (k := 7) (i := i) ((1 + (e9 * 5)) + 2) C (show i < 202 by omega) rfl rfl (show (1 + (e9 * 5)) + 2 < 41 by omega) (by decide) dX1_hasPlainFields_29 ?_
    refine hr_sipush (v := (-256)) C dX1_hasPlainFields_30 (by decide) ?_
    refine hr_icmp_ne C 51 dX1_hasPlainFields_33 (by decide) (fun c33 => ?_) (fun c33 => ?_)
    · skip
      refine hr_iconst (v := 0) C dX1_hasPlainFields_51 (by decide) ?_
      exact hr_zret C hr rfl dX1_hasPlainFields_52 ⟨by first | (simp only [c19, c33, and_true, true_and, and_false, false_and, or_true, true_or, or_false, false_or, if_true, if_false, reduceIte, not_true_eq_false, not_false_eq_true, and_self]; done) | (rw [if_neg (fun h => by have := h.1; omega)]) | (rw [if_neg (fun h => by have := h.2.1; omega)]), rfl⟩
    · skip
      refine hr_aload_n C dX1_hasPlainFields_36 rfl 1 rfl ?_
      refine hr_get (k := 6) (i := i) (fld := 3) C (show i < 202 by omega) rfl rfl (by decide) kU_X1 kF_X1_11 rfl rfl dX1_hasPlainFields_37 ?_
      refine hr_iload_n C dX1_hasPlainFields_40 rfl 0 rfl ?_
      refine hr_iconst (v := 3) C dX1_hasPlainFields_41 (by decide) ?_
      refine hr_iadd (v := nI ((1 + (e9 * 5)) + 3)) C dX1_hasPlainFields_42 (nI_add (1 + (e9 * 5)) 3) ?_
      refine hr_iald (k := 7) (i := i) ((1 + (e9 * 5)) + 3) C (show i < 202 by omega) rfl rfl (show (1 + (e9 * 5)) + 3 < 41 by omega) (by decide) dX1_hasPlainFields_43 ?_
      refine hr_if_ne C 51 dX1_hasPlainFields_44 (by decide) (fun c44 => ?_) (fun c44 => ?_)
      · skip
        refine hr_iconst (v := 0) C dX1_hasPlainFields_51 (by decide) ?_
        exact hr_zret C hr rfl dX1_hasPlainFields_52 ⟨by first | (simp only [c19, c33, c44, and_true, true_and, and_false, false_and, or_true, true_or, or_false, false_or, if_true, if_false, reduceIte, not_true_eq_false, not_false_eq_true, and_self]; done) | (rw [if_neg (fun h => by have := h.1; omega)]) | (rw [if_neg (fun h => by have := h.2.1; omega)]), rfl⟩
      · skip
        refine hr_iconst (v := 1) C dX1_hasPlainFields_47 (by decide) ?_
        refine hr_goto C 52 dX1_hasPlainFields_48 (by decide) ?_
        exact hr_zret C hr rfl dX1_hasPlainFields_52 ⟨by first | (simp only [c19, c33, c44, and_true, true_and, and_false, false_and, or_true, true_or, or_false, false_or, if_true, if_false, reduceIte, not_true_eq_false, not_false_eq_true, and_self]; done) | (rw [if_neg (fun h => by have := h.1; omega)]) | (rw [if_neg (fun h => by have := h.2.1; omega)]), rfl⟩
set_option maxHeartbeats 4000000 in
set_option maxRecDepth 100000 in
theorem ct_X1_isSoundEntry (l : Launch) (E : hr_E) (S : hr_S) (o : Int64) (i : Nat) (hi : i < 202) (e9 : Nat) (he : e9 < 8) : hr_Mi l E yX1_isSoundEntry (Cond.code yX1_isSoundEntry cX1_isSoundEntry 3 (some .boolean) :: hr_W) ({ frames := 2, cells := 0, slots := 0, locals := 43 } : Room) [.ref (hr_ad E 6 i), .int (nI e9)] S o (fun r u => r = (if S 7 i (1 + (e9 * 5)) = 131072 ∧ ((S 7 i (1 + (e9 * 5) + 1) &&& ((1792 : Int32) ^^^ (-1))) = 167772160 ∧ S 7 i (1 + (e9 * 5) + 2) = -256 ∧ S 7 i (1 + (e9 * 5) + 3) = 0) ∧ 1 ≤ S 7 i (1 + (e9 * 5) + 4) ∧ S 7 i (1 + (e9 * 5) + 4) ≤ 16 then 1 else 0) ∧ u = S) := by
  refine hr_of (by decide) (Nat.le_of_ble_eq_true rfl) (fun p e s m below meth c C hr => ?_)
  refine hr_aload_n C dX1_isSoundEntry_0 rfl 0 rfl ?_
  refine hr_iload_n C dX1_isSoundEntry_1 rfl 1 rfl ?_
  refine hr_cVi C (ct_X1_metric l E S o i (by omega) e9 (by omega)) (cwV 1 C.1.2.2.2.2 (hr_gV kM_X1_45 kI_X1_metric kS_X1_metric kN_X1 kC_X1_metric) rfl rfl rfl (by decide +kernel) ⟨Nat.le_of_ble_eq_true rfl, Nat.le_of_ble_eq_true rfl⟩) (show i < 202 by omega) rfl rfl rfl (Nat.le_of_ble_eq_true rfl) dX1_isSoundEntry_2 ⟨Nat.le_of_ble_eq_true rfl, Nat.le_of_ble_eq_true rfl⟩ (fun r1 S2 h3 => ?_) rfl
  refine hr_tp h3.1 ?_
  refine hr_st h3.2 ?_
  refine hr_istore_n C [(2, .int (S 7 i (1 + (e9 * 5) + 4))), (0, .ref (hr_ad E 6 i)), (1, .int (nI e9))] dX1_isSoundEntry_5 rfl (by decide) rfl ?_
  refine hr_aload_n C dX1_isSoundEntry_6 rfl 1 rfl ?_
  refine hr_get (k := 6) (i := i) (fld := 3) C (show i < 202 by omega) rfl rfl (by decide) kU_X1 kF_X1_11 rfl rfl dX1_isSoundEntry_7 ?_
  refine hr_iload_n C dX1_isSoundEntry_10 rfl 2 rfl ?_
  refine hr_cSi C (ct_X1_firstWord l E S o e9) (cwS 1 C.1.2.2.2.2 (hr_gS kM_X1_29 kT_X1_firstWord kN_X1 kC_X1_firstWord) rfl rfl rfl (by decide +kernel) ⟨Nat.le_of_ble_eq_true rfl, Nat.le_of_ble_eq_true rfl⟩) rfl (Nat.le_of_ble_eq_true rfl) dX1_isSoundEntry_11 ⟨Nat.le_of_ble_eq_true rfl, Nat.le_of_ble_eq_true rfl⟩ (fun r4 S5 h6 => ?_) rfl
  refine hr_tp h6.1 ?_
  refine hr_st h6.2 ?_
  refine hr_iald (k := 7) (i := i) (1 + (e9 * 5)) C (show i < 202 by omega) rfl rfl (show 1 + (e9 * 5) < 41 by omega) (by decide) dX1_isSoundEntry_14 ?_
  refine hr_ldc (v := 131072) C dX1_isSoundEntry_15 kK_X1_48 ?_
  refine hr_icmp_ne C 46 dX1_isSoundEntry_17 (by decide) (fun c17 => ?_) (fun c17 => ?_)
  · skip
    refine hr_iconst (v := 0) C dX1_isSoundEntry_46 (by decide) ?_
    exact hr_zret C hr rfl dX1_isSoundEntry_47 ⟨by first | (simp only [c17, and_true, true_and, and_false, false_and, or_true, true_or, or_false, false_or, if_true, if_false, reduceIte, not_true_eq_false, not_false_eq_true, and_self]; done) | (rw [if_neg (fun h => by have := h.1; omega)]) | (rw [if_neg (fun h => by have := h.2.1; omega)]), rfl⟩
  · skip
    refine hr_aload_n C dX1_isSoundEntry_20 rfl 1 rfl ?_
    refine hr_iload_n C dX1_isSoundEntry_21 rfl 2 rfl ?_
    refine hr_sipush (v := 1792) C dX1_isSoundEntry_22 (by decide) ?_
    refine hr_cVi C (ct_X1_hasPlainFields l E S o i (by omega) e9 (by omega) 1792) (cwV 2 C.1.2.2.2.2 (hr_gV kM_X1_49 kI_X1_hasPlainFields kS_X1_hasPlainFields kN_X1 kC_X1_hasPlainFields) rfl rfl rfl (by decide +kernel) ⟨Nat.le_of_ble_eq_true rfl, Nat.le_of_ble_eq_true rfl⟩) (show i < 202 by omega) rfl rfl rfl (Nat.le_of_ble_eq_true rfl) dX1_isSoundEntry_25 ⟨Nat.le_of_ble_eq_true rfl, Nat.le_of_ble_eq_true rfl⟩ (fun r7 S8 h9 => ?_) rfl
    refine hr_tp h9.1 ?_
    refine hr_st h9.2 ?_
    refine hr_if_eq C 46 dX1_isSoundEntry_28 (by decide) (fun c28 => ?_) (fun c28 => ?_)
    · skip
      have c28 : ¬ ((S 7 i (1 + (e9 * 5) + 1) &&& (1792 ^^^ (-1))) = 167772160 ∧ S 7 i (1 + (e9 * 5) + 2) = -256 ∧ S 7 i (1 + (e9 * 5) + 3) = 0) := hr_bz.mp c28
      refine hr_iconst (v := 0) C dX1_isSoundEntry_46 (by decide) ?_
      exact hr_zret C hr rfl dX1_isSoundEntry_47 ⟨by first | (simp only [c17, c28, and_true, true_and, and_false, false_and, or_true, true_or, or_false, false_or, if_true, if_false, reduceIte, not_true_eq_false, not_false_eq_true, and_self]; done) | (rw [if_neg (fun h => by have := h.1; omega)]) | (rw [if_neg (fun h => by have := h.2.1; omega)]), rfl⟩
    · skip
      have c28 : (S 7 i (1 + (e9 * 5) + 1) &&& (1792 ^^^ (-1))) = 167772160 ∧ S 7 i (1 + (e9 * 5) + 2) = -256 ∧ S 7 i (1 + (e9 * 5) + 3) = 0 := hr_bn.mp c28
      refine hr_iload_n C dX1_isSoundEntry_31 rfl 0 rfl ?_
      refine hr_iconst (v := 1) C dX1_isSoundEntry_32 (by decide) ?_
      refine hr_icmp_lt C 46 dX1_isSoundEntry_33 (by decide) (fun c33 => ?_) (fun c33 => ?_)
      · skip
        have c33n : ¬ 1 ≤ (S 7 i (1 + (e9 * 5) + 4)) := Int32.not_le.mpr c33
        refine hr_iconst (v := 0) C dX1_isSoundEntry_46 (by decide) ?_
        exact hr_zret C hr rfl dX1_isSoundEntry_47 ⟨by first | (simp only [c17, c28, c33, c33n, and_true, true_and, and_false, false_and, or_true, true_or, or_false, false_or, if_true, if_false, reduceIte, not_true_eq_false, not_false_eq_true, and_self]; done) | (rw [if_neg (fun h => by have := h.1; omega)]) | (rw [if_neg (fun h => by have := h.2.1; omega)]), rfl⟩
      · skip
        have c33n : 1 ≤ (S 7 i (1 + (e9 * 5) + 4)) := Int32.not_lt.mp c33
        refine hr_iload_n C dX1_isSoundEntry_36 rfl 0 rfl ?_
        refine hr_bipush (v := 16) C dX1_isSoundEntry_37 (by decide) ?_
        refine hr_icmp_gt C 46 dX1_isSoundEntry_39 (by decide) (fun c39 => ?_) (fun c39 => ?_)
        · skip
          have c39n : ¬ (S 7 i (1 + (e9 * 5) + 4)) ≤ 16 := Int32.not_le.mpr c39
          refine hr_iconst (v := 0) C dX1_isSoundEntry_46 (by decide) ?_
          exact hr_zret C hr rfl dX1_isSoundEntry_47 ⟨by first | (simp only [c17, c28, c33, c33n, c39, c39n, and_true, true_and, and_false, false_and, or_true, true_or, or_false, false_or, if_true, if_false, reduceIte, not_true_eq_false, not_false_eq_true, and_self]; done) | (rw [if_neg (fun h => by have := h.1; omega)]) | (rw [if_neg (fun h => by have := h.2.1; omega)]), rfl⟩
        · skip
          have c39n : (S 7 i (1 + (e9 * 5) + 4)) ≤ 16 := Int32.not_lt.mp c39
          refine hr_iconst (v := 1) C dX1_isSoundEntry_42 (by decide) ?_
          refine hr_goto C 47 dX1_isSoundEntry_43 (by decide) ?_
          exact hr_zret C hr rfl dX1_isSoundEntry_47 ⟨by first | (simp only [c17, c28, c33, c33n, c39, c39n, and_true, true_and, and_false, false_and, or_true, true_or, or_false, false_or, if_true, if_false, reduceIte, not_true_eq_false, not_false_eq_true, and_self]; done) | (rw [if_neg (fun h => by have := h.1; omega)]) | (rw [if_neg (fun h => by have := h.2.1; omega)]), rfl⟩
set_option maxHeartbeats 4000000 in
set_option maxRecDepth 100000 in
theorem ct_X1_asksForAll (l : Launch) (E : hr_E) (S : hr_S) (o : Int64) (i : Nat) (hi : i < 202) (L : Nat) (hL : S 6 i 2 = nI L) (hL4 : 4 ≤ L) (hL5 : L ≤ 164) : hr_Mi l E yX1_asksForAll (Cond.code yX1_asksForAll cX1_asksForAll 1 (some .boolean) :: hr_W) ({ frames := 2, cells := 0, slots := 0, locals := 43 } : Room) [.ref (hr_ad E 6 i)] S o (fun r u => r = (if (L - 4) / 20 = 1 ∧ S 7 i (1 + (0 * 5)) = 0 ∧ ((S 7 i (1 + (0 * 5) + 1) &&& ((65280 : Int32) ^^^ (-1))) = 167772160 ∧ S 7 i (1 + (0 * 5) + 2) = -256 ∧ S 7 i (1 + (0 * 5) + 3) = 0) ∧ S 7 i (1 + (0 * 5) + 4) = 16 then 1 else 0) ∧ u = S) := by
  refine hr_of (by decide) (Nat.le_of_ble_eq_true rfl) (fun p e s m below meth c C hr => ?_)
  refine hr_aload_n C dX1_asksForAll_0 rfl 0 rfl ?_
  refine hr_cVi C (ct_X1_entries l E S o i (by omega) L hL hL4 hL5) (cwV 0 C.1.2.2.2.2 (hr_gV kM_X1_25 kI_X1_entries kS_X1_entries kN_X1 kC_X1_entries) rfl rfl rfl (by decide +kernel) ⟨Nat.le_of_ble_eq_true rfl, Nat.le_of_ble_eq_true rfl⟩) (show i < 202 by omega) rfl rfl rfl (Nat.le_of_ble_eq_true rfl) dX1_asksForAll_1 ⟨Nat.le_of_ble_eq_true rfl, Nat.le_of_ble_eq_true rfl⟩ (fun r1 S2 h3 => ?_) rfl
  refine hr_tp h3.1 ?_
  refine hr_st h3.2 ?_
  refine hr_iconst (v := 1) C dX1_asksForAll_4 (by decide) ?_
  refine hr_icmp_ne C 44 dX1_asksForAll_5 (by decide) (fun c5 => ?_) (fun c5 => ?_)
  · skip
    have c5 : ¬ ((L - 4) / 20) = 1 := fun h => c5 ((nI_eq (a := ((L - 4) / 20)) (b := 1) (by omega) (by omega)).mpr h)
    refine hr_iconst (v := 0) C dX1_asksForAll_44 (by decide) ?_
    exact hr_zret C hr rfl dX1_asksForAll_45 ⟨by first | (simp only [c5, and_true, true_and, and_false, false_and, or_true, true_or, or_false, false_or, if_true, if_false, reduceIte, not_true_eq_false, not_false_eq_true, and_self]; done) | (rw [if_neg (fun h => by have := h.1; omega)]) | (rw [if_neg (fun h => by have := h.2.1; omega)]), rfl⟩
  · skip
    have c5 : ((L - 4) / 20) = 1 := (nI_eq (a := ((L - 4) / 20)) (b := 1) (by omega) (by omega)).mp c5
    refine hr_aload_n C dX1_asksForAll_8 rfl 0 rfl ?_
    refine hr_get (k := 6) (i := i) (fld := 3) C (show i < 202 by omega) rfl rfl (by decide) kU_X1 kF_X1_11 rfl rfl dX1_asksForAll_9 ?_
    refine hr_iconst (v := 0) C dX1_asksForAll_12 (by decide) ?_
    refine hr_cSi C (ct_X1_firstWord l E S o 0) (cwS 1 C.1.2.2.2.2 (hr_gS kM_X1_29 kT_X1_firstWord kN_X1 kC_X1_firstWord) rfl rfl rfl (by decide +kernel) ⟨Nat.le_of_ble_eq_true rfl, Nat.le_of_ble_eq_true rfl⟩) rfl (Nat.le_of_ble_eq_true rfl) dX1_asksForAll_13 ⟨Nat.le_of_ble_eq_true rfl, Nat.le_of_ble_eq_true rfl⟩ (fun r4 S5 h6 => ?_) rfl
    refine hr_tp h6.1 ?_
    refine hr_st h6.2 ?_
    refine hr_iald (k := 7) (i := i) (1 + (0 * 5)) C (show i < 202 by omega) rfl rfl (show 1 + (0 * 5) < 41 by omega) (by decide) dX1_asksForAll_16 ?_
    refine hr_if_ne C 44 dX1_asksForAll_17 (by decide) (fun c17 => ?_) (fun c17 => ?_)
    · skip
      refine hr_iconst (v := 0) C dX1_asksForAll_44 (by decide) ?_
      exact hr_zret C hr rfl dX1_asksForAll_45 ⟨by first | (simp only [c5, c17, and_true, true_and, and_false, false_and, or_true, true_or, or_false, false_or, if_true, if_false, reduceIte, not_true_eq_false, not_false_eq_true, and_self]; done) | (rw [if_neg (fun h => by have := h.1; omega)]) | (rw [if_neg (fun h => by have := h.2.1; omega)]), rfl⟩
    · skip
      refine hr_aload_n C dX1_asksForAll_20 rfl 0 rfl ?_
      refine hr_iconst (v := 0) C dX1_asksForAll_21 (by decide) ?_
      refine hr_ldc (v := 65280) C dX1_asksForAll_22 kK_X1_53 ?_
      refine hr_cVi C (ct_X1_hasPlainFields l E S o i (by omega) 0 (by omega) 65280) (cwV 2 C.1.2.2.2.2 (hr_gV kM_X1_49 kI_X1_hasPlainFields kS_X1_hasPlainFields kN_X1 kC_X1_hasPlainFields) rfl rfl rfl (by decide +kernel) ⟨Nat.le_of_ble_eq_true rfl, Nat.le_of_ble_eq_true rfl⟩) (show i < 202 by omega) rfl rfl rfl (Nat.le_of_ble_eq_true rfl) dX1_asksForAll_24 ⟨Nat.le_of_ble_eq_true rfl, Nat.le_of_ble_eq_true rfl⟩ (fun r7 S8 h9 => ?_) rfl
      refine hr_tp h9.1 ?_
      refine hr_st h9.2 ?_
      refine hr_if_eq C 44 dX1_asksForAll_27 (by decide) (fun c27 => ?_) (fun c27 => ?_)
      · skip
        have c27 : ¬ ((S 7 i (1 + (0 * 5) + 1) &&& (65280 ^^^ (-1))) = 167772160 ∧ S 7 i (1 + (0 * 5) + 2) = -256 ∧ S 7 i (1 + (0 * 5) + 3) = 0) := hr_bz.mp c27
        refine hr_iconst (v := 0) C dX1_asksForAll_44 (by decide) ?_
        exact hr_zret C hr rfl dX1_asksForAll_45 ⟨by first | (simp only [c5, c17, c27, and_true, true_and, and_false, false_and, or_true, true_or, or_false, false_or, if_true, if_false, reduceIte, not_true_eq_false, not_false_eq_true, and_self]; done) | (rw [if_neg (fun h => by have := h.1; omega)]) | (rw [if_neg (fun h => by have := h.2.1; omega)]), rfl⟩
      · skip
        have c27 : (S 7 i (1 + (0 * 5) + 1) &&& (65280 ^^^ (-1))) = 167772160 ∧ S 7 i (1 + (0 * 5) + 2) = -256 ∧ S 7 i (1 + (0 * 5) + 3) = 0 := hr_bn.mp c27
        refine hr_aload_n C dX1_asksForAll_30 rfl 0 rfl ?_
        refine hr_iconst (v := 0) C dX1_asksForAll_31 (by decide) ?_
        refine hr_cVi C (ct_X1_metric l E S o i (by omega) 0 (by omega)) (cwV 1 C.1.2.2.2.2 (hr_gV kM_X1_45 kI_X1_metric kS_X1_metric kN_X1 kC_X1_metric) rfl rfl rfl (by decide +kernel) ⟨Nat.le_of_ble_eq_true rfl, Nat.le_of_ble_eq_true rfl⟩) (show i < 202 by omega) rfl rfl rfl (Nat.le_of_ble_eq_true rfl) dX1_asksForAll_32 ⟨Nat.le_of_ble_eq_true rfl, Nat.le_of_ble_eq_true rfl⟩ (fun r10 S11 h12 => ?_) rfl
        refine hr_tp h12.1 ?_
        refine hr_st h12.2 ?_
        refine hr_bipush (v := 16) C dX1_asksForAll_35 (by decide) ?_
        refine hr_icmp_ne C 44 dX1_asksForAll_37 (by decide) (fun c37 => ?_) (fun c37 => ?_)
        · skip
          refine hr_iconst (v := 0) C dX1_asksForAll_44 (by decide) ?_
          exact hr_zret C hr rfl dX1_asksForAll_45 ⟨by first | (simp only [c5, c17, c27, c37, and_true, true_and, and_false, false_and, or_true, true_or, or_false, false_or, if_true, if_false, reduceIte, not_true_eq_false, not_false_eq_true, and_self]; done) | (rw [if_neg (fun h => by have := h.1; omega)]) | (rw [if_neg (fun h => by have := h.2.1; omega)]), rfl⟩
        · skip
          refine hr_iconst (v := 1) C dX1_asksForAll_40 (by decide) ?_
          refine hr_goto C 45 dX1_asksForAll_41 (by decide) ?_
          exact hr_zret C hr rfl dX1_asksForAll_45 ⟨by first | (simp only [c5, c17, c27, c37, and_true, true_and, and_false, false_and, or_true, true_or, or_false, false_or, if_true, if_false, reduceIte, not_true_eq_false, not_false_eq_true, and_self]; done) | (rw [if_neg (fun h => by have := h.1; omega)]) | (rw [if_neg (fun h => by have := h.2.1; omega)]), rfl⟩
set_option maxHeartbeats 4000000 in
set_option maxRecDepth 100000 in
theorem ct_X1_byteAt (l : Launch) (E : hr_E) (S : hr_S) (o : Int64) (i : Nat) (hi : i < 202) (j : Nat) (hj : j < 164) : hr_Mi l E yX1_byteAt (Cond.code yX1_byteAt cX1_byteAt 2 (some .int) :: hr_W) ({ frames := 1, cells := 0, slots := 0, locals := 20 } : Room) [.ref (hr_ad E 6 i), .int (nI j)] S o (fun r u => r = hr_by (S 7 i) j ∧ u = S) := by
  refine hr_of (by decide) (Nat.le_of_ble_eq_true rfl) (fun p e s m below meth c C hr => ?_)
  refine hr_aload_n C dX1_byteAt_0 rfl 0 rfl ?_
  refine hr_get (k := 6) (i := i) (fld := 3) C (show i < 202 by omega) rfl rfl (by decide) kU_X1 kF_X1_11 rfl rfl dX1_byteAt_1 ?_
  refine hr_iload_n C dX1_byteAt_4 rfl 1 rfl ?_
  refine hr_iconst (v := 2) C dX1_byteAt_5 (by decide) ?_
  refine hr_ishr C dX1_byteAt_6 rfl ?_
  refine hr_tp (y := nI (j / 4)) (hr_sr j hj) ?_
  refine hr_iald (k := 7) (i := i) (j / 4) C (show i < 202 by omega) rfl rfl (show j / 4 < 41 by omega) (by decide) dX1_byteAt_7 ?_
  refine hr_iload_n C dX1_byteAt_8 rfl 1 rfl ?_
  refine hr_cSi C (ct_X1_shiftOf l E S o j (by omega)) (cwS 1 C.1.2.2.2.2 (hr_gS kM_X1_40 kT_X1_shiftOf kN_X1 kC_X1_shiftOf) rfl rfl rfl (by decide +kernel) ⟨Nat.le_of_ble_eq_true rfl, Nat.le_of_ble_eq_true rfl⟩) rfl (Nat.le_of_ble_eq_true rfl) dX1_byteAt_9 ⟨Nat.le_of_ble_eq_true rfl, Nat.le_of_ble_eq_true rfl⟩ (fun r1 S2 h3 => ?_) rfl
  refine hr_tp h3.1 ?_
  refine hr_st h3.2 ?_
  refine hr_iushr C dX1_byteAt_12 rfl ?_
  refine hr_sipush (v := 255) C dX1_byteAt_13 (by decide) ?_
  refine hr_iand C dX1_byteAt_16 rfl ?_
  exact hr_iret C hr dX1_byteAt_17 ⟨rfl, rfl⟩
set_option maxHeartbeats 4000000 in
set_option maxRecDepth 100000 in
theorem ct_X1_setByte (l : Launch) (E : hr_E) (S : hr_S) (o : Int64) (i : Nat) (hi : i < 202) (j : Nat) (hj : j < 164) (v : Int32) : hr_Mv l E yX1_setByte (Cond.code yX1_setByte cX1_setByte 4 none :: hr_W) ({ frames := 1, cells := 0, slots := 0, locals := 20 } : Room) [.ref (hr_ad E 6 i), .int (nI j), .int v] S o (fun u => u = hr_w S 7 i (j / 4) (hr_sb (S 7 i (j / 4)) j v)) := by
  refine hr_of (by decide) (Nat.le_of_ble_eq_true rfl) (fun p e s m below meth c C hr => ?_)
  refine hr_aload_n C dX1_setByte_0 rfl 0 rfl ?_
  refine hr_get (k := 6) (i := i) (fld := 3) C (show i < 202 by omega) rfl rfl (by decide) kU_X1 kF_X1_11 rfl rfl dX1_setByte_1 ?_
  refine hr_iload_n C dX1_setByte_4 rfl 1 rfl ?_
  refine hr_iconst (v := 2) C dX1_setByte_5 (by decide) ?_
  refine hr_ishr C dX1_setByte_6 rfl ?_
  refine hr_tp (y := nI (j / 4)) (hr_sr j hj) ?_
  refine hr_iald (k := 7) (i := i) (j / 4) C (show i < 202 by omega) rfl rfl (show j / 4 < 41 by omega) (by decide) dX1_setByte_7 ?_
  refine hr_sipush (v := 255) C dX1_setByte_8 (by decide) ?_
  refine hr_iload_n C dX1_setByte_11 rfl 1 rfl ?_
  refine hr_cSi C (ct_X1_shiftOf l E S o j (by omega)) (cwS 1 C.1.2.2.2.2 (hr_gS kM_X1_40 kT_X1_shiftOf kN_X1 kC_X1_shiftOf) rfl rfl rfl (by decide +kernel) ⟨Nat.le_of_ble_eq_true rfl, Nat.le_of_ble_eq_true rfl⟩) rfl (Nat.le_of_ble_eq_true rfl) dX1_setByte_12 ⟨Nat.le_of_ble_eq_true rfl, Nat.le_of_ble_eq_true rfl⟩ (fun r1 S2 h3 => ?_) rfl
  refine hr_tp h3.1 ?_
  refine hr_st h3.2 ?_
  refine hr_ishl C dX1_setByte_15 rfl ?_
  refine hr_iconst (v := (-1)) C dX1_setByte_16 (by decide) ?_
  refine hr_ixor C dX1_setByte_17 rfl ?_
  refine hr_iand C dX1_setByte_18 rfl ?_
  refine hr_istore_n C [(3, .int ((S 7 i (j / 4)) &&& ((255 <<< ((nI ((3 - j % 4) * 8)) &&& 31)) ^^^ (-1)))), (0, .ref (hr_ad E 6 i)), (1, .int (nI j)), (2, .int v)] dX1_setByte_19 rfl (by decide) rfl ?_
  refine hr_aload_n C dX1_setByte_20 rfl 1 rfl ?_
  refine hr_get (k := 6) (i := i) (fld := 3) C (show i < 202 by omega) rfl rfl (by decide) kU_X1 kF_X1_11 rfl rfl dX1_setByte_21 ?_
  refine hr_iload_n C dX1_setByte_24 rfl 2 rfl ?_
  refine hr_iconst (v := 2) C dX1_setByte_25 (by decide) ?_
  refine hr_ishr C dX1_setByte_26 rfl ?_
  refine hr_tp (y := nI (j / 4)) (hr_sr j hj) ?_
  refine hr_iload_n C dX1_setByte_27 rfl 0 rfl ?_
  refine hr_iload_n C dX1_setByte_28 rfl 3 rfl ?_
  refine hr_iload_n C dX1_setByte_29 rfl 2 rfl ?_
  refine hr_cSi C (ct_X1_shiftOf l E S o j (by omega)) (cwS 1 C.1.2.2.2.2 (hr_gS kM_X1_40 kT_X1_shiftOf kN_X1 kC_X1_shiftOf) rfl rfl rfl (by decide +kernel) ⟨Nat.le_of_ble_eq_true rfl, Nat.le_of_ble_eq_true rfl⟩) rfl (Nat.le_of_ble_eq_true rfl) dX1_setByte_30 ⟨Nat.le_of_ble_eq_true rfl, Nat.le_of_ble_eq_true rfl⟩ (fun r4 S5 h6 => ?_) rfl
  refine hr_tp h6.1 ?_
  refine hr_st h6.2 ?_
  refine hr_ishl C dX1_setByte_33 rfl ?_
  refine hr_ior C dX1_setByte_34 rfl ?_
  refine hr_iast (k := 7) (i := i) (j / 4) C (show i < 202 by omega) rfl rfl (show j / 4 < 41 by omega) (by decide) (by simp [hr_cell, hr_wA]) rfl dX1_setByte_35 ?_
  exact hr_vret C hr dX1_setByte_36 rfl
set_option maxHeartbeats 4000000 in
set_option maxRecDepth 100000 in
theorem ct_X1_begin (l : Launch) (E : hr_E) (S : hr_S) (o : Int64) (i : Nat) (hi : i < 202) (a b h : Int32) : hr_Mv l E yX1_begin (Cond.code yX1_begin cX1_begin 4 none :: hr_W) ({ frames := 0, cells := 0, slots := 0, locals := 0 } : Room) [.ref (hr_ad E 6 i), .int a, .int b, .int h] S o (fun u => u = hr_w (hr_w (hr_w (hr_w S 6 i 0 a) 6 i 1 b) 7 i 0 h) 6 i 2 4) := by
  refine hr_of (by decide) (Nat.le_of_ble_eq_true rfl) (fun p e s m below meth c C hr => ?_)
  refine hr_aload_n C dX1_begin_0 rfl 0 rfl ?_
  refine hr_iload_n C dX1_begin_1 rfl 1 rfl ?_
  refine hr_put (k := 6) (i := i) (fld := 0) C (show i < 202 by omega) rfl rfl (by decide) kU_X1 kF_X1_15 rfl tyX1 tyX1_ok nmX1 rfl (by decide +kernel) (Nat.le_of_ble_eq_true rfl) (by simp [hr_cell, hr_w, hr_wA, upd]) rfl dX1_begin_2 ?_
  refine hr_aload_n C dX1_begin_5 rfl 0 rfl ?_
  refine hr_iload_n C dX1_begin_6 rfl 2 rfl ?_
  refine hr_put (k := 6) (i := i) (fld := 1) C (show i < 202 by omega) rfl rfl (by decide) kU_X1 kF_X1_19 rfl tyX1 tyX1_ok nmX1 rfl (by decide +kernel) (Nat.le_of_ble_eq_true rfl) (by simp [hr_cell, hr_w, hr_wA, upd]) rfl dX1_begin_7 ?_
  refine hr_aload_n C dX1_begin_10 rfl 0 rfl ?_
  refine hr_get (k := 6) (i := i) (fld := 3) C (show i < 202 by omega) rfl rfl (by decide) kU_X1 kF_X1_11 rfl rfl dX1_begin_11 ?_
  refine hr_iconst (v := 0) C dX1_begin_14 (by decide) ?_
  refine hr_iload_n C dX1_begin_15 rfl 3 rfl ?_
  refine hr_iast (k := 7) (i := i) 0 C (show i < 202 by omega) rfl rfl (show 0 < 41 by omega) (by decide) (by simp [hr_cell, hr_wA]) rfl dX1_begin_16 ?_
  refine hr_aload_n C dX1_begin_17 rfl 0 rfl ?_
  refine hr_iconst (v := 4) C dX1_begin_18 (by decide) ?_
  refine hr_put (k := 6) (i := i) (fld := 2) C (show i < 202 by omega) rfl rfl (by decide) kU_X1 kF_X1_22 rfl tyX1 tyX1_ok nmX1 rfl (by decide +kernel) (Nat.le_of_ble_eq_true rfl) (by simp [hr_cell, hr_w, hr_wA, upd]) rfl dX1_begin_19 ?_
  exact hr_vret C hr dX1_begin_22 rfl
