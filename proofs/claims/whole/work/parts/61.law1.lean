theorem kX_IO : Cond.castable "java/lang/IndexOutOfBoundsException" "java/lang/IndexOutOfBoundsException" ∈ hr_Wx := hl_x (hr_t1 (n := 146) rfl)
theorem kX_IA : Cond.castable "java/lang/IllegalArgumentException" "java/lang/IllegalArgumentException" ∈ hr_Wx := hl_x (hr_t1 (n := 214) rfl)
theorem kX_IS : Cond.castable "java/lang/IllegalStateException" "java/lang/IllegalStateException" ∈ hr_Wx := hl_x (hr_t2 (n := 2) rfl)
set_option maxHeartbeats 4000000 in
set_option maxRecDepth 100000 in
theorem ct_L_link (l : Launch) (htr : l.stackTraces = false) (E : hr_E) (S : hr_S) (o : Int64) (a b up : Int32) (hI : hr_CI S) : hr_Li l E yL_link (Cond.codeWith yL_link cL_link 6 (some .int) [(0, 19, 22, 13), (0, 19, 26, 15)] :: hr_W) ({ frames := 9, cells := 3, slots := 18, locals := 154 } : Room) [.ref (hr_ad E 0 0), .int a, .int b, .int up, .ref (hr_ad E 27 0)] S o (hl_Q (fun r u => (r = (if cl_lv S (un a) (un b) = up then 0 else 1) ∧ u = (if cl_lv S (un a) (un b) = up then S else cl_link S (un a) (un b) up)) ∧ nb a 8 ∧ nb b 8 ∧ ¬ a = b) (fun X => (X = "java/lang/IndexOutOfBoundsException" ∧ ¬ (nb a 8 ∧ nb b 8)) ∨ (X = "java/lang/IllegalArgumentException" ∧ (nb a 8 ∧ nb b 8) ∧ a = b)) hl_k hl_z S o) 3 18 := by
  refine hr_ofL (by decide) (Nat.le_of_ble_eq_true rfl) (fun p e s m below meth c C hr htab => ?_)
  refine hr_aload C dL_link_0 4 rfl ?_
  refine hr_iconst (v := 0) C dL_link_2 (by decide) ?_
  refine hr_aload_n C dL_link_3 rfl 0 rfl ?_
  refine hr_iload_n C dL_link_4 rfl 1 rfl ?_
  refine hr_iload_n C dL_link_5 rfl 2 rfl ?_
  refine hr_iload_n C dL_link_6 rfl 3 rfl ?_
  refine hr_lVi (As := [.int a, .int b, .int up]) (st := [.int 0, .ref (hr_ad E 27 0)]) C htab (ct_X3_link l htr E S o a b up hI) (cwV 3 C.1.2.2.2.2 (hr_gV kM_L_7 kI_X3_link kS_X3_link kN_X3 kC_X3_link) rfl rfl rfl (by decide +kernel) ⟨(Nat.le_of_ble_eq_true rfl), (Nat.le_of_ble_eq_true rfl)⟩) (by decide) rfl rfl rfl (Nat.le_of_ble_eq_true rfl) dL_link_7 ⟨(Nat.le_of_ble_eq_true rfl), (Nat.le_of_ble_eq_true rfl)⟩ (fun X hx => ?_) (fun r S1 h => ?_) rfl
  · have hx0 := hx
    rcases hx with ⟨rfl, h⟩ | ⟨rfl, h⟩
    · refine ⟨22, ⟨[], ⟨0, 19, 22, 13⟩, [⟨0, 19, 26, 15⟩], _, rfl, (fun z hz => absurd hz List.not_mem_nil), by decide, by decide, kL_L_13, kX_IO, rfl⟩, fun q => ?_⟩
      refine hr_astore C [(5, .ref q), (0, .ref (hr_ad E 0 0)), (1, .int a), (2, .int b), (3, .int up), (4, .ref (hr_ad E 27 0))] dL_link_22 (by decide) rfl ?_
      refine hr_iconst (v := 1) C dL_link_24 (by decide) ?_
      exact hr_liret C hr dL_link_25 (Or.inr ⟨_, hx0, by decide, rfl⟩)
    · refine ⟨26, ⟨[⟨0, 19, 22, 13⟩], ⟨0, 19, 26, 15⟩, [], _, rfl, (List.forall_mem_cons.mpr ⟨⟨by decide, _, kL_L_13, by decide⟩, fun z hz => absurd hz List.not_mem_nil⟩), by decide, by decide, kL_L_15, kX_IA, rfl⟩, fun q => ?_⟩
      refine hr_astore C [(5, .ref q), (0, .ref (hr_ad E 0 0)), (1, .int a), (2, .int b), (3, .int up), (4, .ref (hr_ad E 27 0))] dL_link_26 (by decide) rfl ?_
      refine hr_iconst (v := 2) C dL_link_28 (by decide) ?_
      exact hr_liret C hr dL_link_29 (Or.inr ⟨_, hx0, by decide, rfl⟩)
  · skip
    refine hr_if_eq C 17 dL_link_10 (by decide) (fun c7 => ?_) (fun c7 => ?_)
    · skip
      refine hr_lconst (v := 0) C dL_link_17 (by decide) ?_
      refine hr_last C dL_link_18 ?_
      refine hr_goto C 30 dL_link_19 (by decide) ?_
      refine hr_iconst (v := 0) C dL_link_30 (by decide) ?_
      exact hr_liret C hr dL_link_31 (Or.inl ⟨rfl, r, h, by unfold hl_z; rw [if_pos c7]⟩)
    · skip
      refine hr_lconst (v := 1) C dL_link_13 (by decide) ?_
      refine hr_goto C 18 dL_link_14 (by decide) ?_
      refine hr_last C dL_link_18 ?_
      refine hr_goto C 30 dL_link_19 (by decide) ?_
      refine hr_iconst (v := 0) C dL_link_30 (by decide) ?_
      exact hr_liret C hr dL_link_31 (Or.inl ⟨rfl, r, h, by unfold hl_z; rw [if_neg c7]⟩)
set_option maxHeartbeats 4000000 in
set_option maxRecDepth 100000 in
theorem ct_L_sees (l : Launch) (htr : l.stackTraces = false) (E : hr_E) (S : hr_S) (o : Int64) (a b : Int32) (hI : hr_CI S) : hr_Li l E yL_sees (Cond.codeWith yL_sees cL_sees 5 (some .int) [(0, 10, 13, 13), (0, 10, 17, 15), (0, 10, 21, 21)] :: hr_W) ({ frames := 9, cells := 4, slots := 24, locals := 153 } : Room) [.ref (hr_ad E 0 0), .int a, .int b, .ref (hr_ad E 27 0)] S o (hl_Q (fun r u => (r = nI (tb_lose S (un a) (nI (un b)) 8).2 ∧ u = (tb_lose S (un a) (nI (un b)) 8).1) ∧ (nb a 8 ∧ nb b 8 ∧ ¬ a = b) ∧ S 1 0 (un a * 8 + un b) = 0) (fun X => ((X = "java/lang/IndexOutOfBoundsException" ∧ ¬ (nb a 8 ∧ nb b 8)) ∨ (X = "java/lang/IllegalArgumentException" ∧ (nb a 8 ∧ nb b 8) ∧ a = b)) ∨ (X = "java/lang/IllegalStateException" ∧ (nb a 8 ∧ nb b 8 ∧ ¬ a = b) ∧ ¬ S 1 0 (un a * 8 + un b) = 0)) hl_k (fun v => v.toInt64) S o) 4 24 := by
  refine hr_ofL (by decide) (Nat.le_of_ble_eq_true rfl) (fun p e s m below meth c C hr htab => ?_)
  refine hr_aload_n C dL_sees_0 rfl 3 rfl ?_
  refine hr_iconst (v := 0) C dL_sees_1 (by decide) ?_
  refine hr_aload_n C dL_sees_2 rfl 0 rfl ?_
  refine hr_iload_n C dL_sees_3 rfl 1 rfl ?_
  refine hr_iload_n C dL_sees_4 rfl 2 rfl ?_
  refine hr_lVi (As := [.int a, .int b]) (st := [.int 0, .ref (hr_ad E 27 0)]) C htab (ct_X3_sees l htr E S o a b hI) (cwV 2 C.1.2.2.2.2 (hr_gV kM_L_17 kI_X3_sees kS_X3_sees kN_X3 kC_X3_sees) rfl rfl rfl (by decide +kernel) ⟨(Nat.le_of_ble_eq_true rfl), (Nat.le_of_ble_eq_true rfl)⟩) (by decide) rfl rfl rfl (Nat.le_of_ble_eq_true rfl) dL_sees_5 ⟨(Nat.le_of_ble_eq_true rfl), (Nat.le_of_ble_eq_true rfl)⟩ (fun X hx => ?_) (fun r S1 h => ?_) rfl
  · have hx0 := hx
    rcases hx with (⟨rfl, h⟩ | ⟨rfl, h⟩) | ⟨rfl, h⟩
    · refine ⟨13, ⟨[], ⟨0, 10, 13, 13⟩, [⟨0, 10, 17, 15⟩, ⟨0, 10, 21, 21⟩], _, rfl, (fun z hz => absurd hz List.not_mem_nil), by decide, by decide, kL_L_13, kX_IO, rfl⟩, fun q => ?_⟩
      refine hr_astore C [(4, .ref q), (0, .ref (hr_ad E 0 0)), (1, .int a), (2, .int b), (3, .ref (hr_ad E 27 0))] dL_sees_13 (by decide) rfl ?_
      refine hr_iconst (v := 1) C dL_sees_15 (by decide) ?_
      exact hr_liret C hr dL_sees_16 (Or.inr ⟨_, hx0, by decide, rfl⟩)
    · refine ⟨17, ⟨[⟨0, 10, 13, 13⟩], ⟨0, 10, 17, 15⟩, [⟨0, 10, 21, 21⟩], _, rfl, (List.forall_mem_cons.mpr ⟨⟨by decide, _, kL_L_13, by decide⟩, fun z hz => absurd hz List.not_mem_nil⟩), by decide, by decide, kL_L_15, kX_IA, rfl⟩, fun q => ?_⟩
      refine hr_astore C [(4, .ref q), (0, .ref (hr_ad E 0 0)), (1, .int a), (2, .int b), (3, .ref (hr_ad E 27 0))] dL_sees_17 (by decide) rfl ?_
      refine hr_iconst (v := 2) C dL_sees_19 (by decide) ?_
      exact hr_liret C hr dL_sees_20 (Or.inr ⟨_, hx0, by decide, rfl⟩)
    · refine ⟨21, ⟨[⟨0, 10, 13, 13⟩, ⟨0, 10, 17, 15⟩], ⟨0, 10, 21, 21⟩, [], _, rfl, (List.forall_mem_cons.mpr ⟨⟨by decide, _, kL_L_13, by decide⟩, List.forall_mem_cons.mpr ⟨⟨by decide, _, kL_L_15, by decide⟩, fun z hz => absurd hz List.not_mem_nil⟩⟩), by decide, by decide, kL_L_21, kX_IS, rfl⟩, fun q => ?_⟩
      refine hr_astore C [(4, .ref q), (0, .ref (hr_ad E 0 0)), (1, .int a), (2, .int b), (3, .ref (hr_ad E 27 0))] dL_sees_21 (by decide) rfl ?_
      refine hr_iconst (v := 3) C dL_sees_23 (by decide) ?_
      exact hr_liret C hr dL_sees_24 (Or.inr ⟨_, hx0, by decide, rfl⟩)
  · skip
    refine hr_i2l C dL_sees_8 rfl ?_
    refine hr_last C dL_sees_9 ?_
    refine hr_goto C 25 dL_sees_10 (by decide) ?_
    refine hr_iconst (v := 0) C dL_sees_25 (by decide) ?_
    exact hr_liret C hr dL_sees_26 (Or.inl ⟨rfl, r, h, rfl⟩)
set_option maxHeartbeats 4000000 in
set_option maxRecDepth 100000 in
theorem ct_L_restart (l : Launch) (htr : l.stackTraces = false) (E : hr_E) (S : hr_S) (o : Int64) (a : Int32) (hI : hr_CI S) : hr_Li l E yL_restart (Cond.codeWith yL_restart cL_restart 4 (some .int) [(0, 9, 12, 13)] :: hr_W) ({ frames := 8, cells := 1, slots := 6, locals := 132 } : Room) [.ref (hr_ad E 0 0), .int a, .ref (hr_ad E 27 0)] S o (hl_Q (fun r u => (r = (cl_rsL (tb_fall S (un a) 8) (un a) 8) 3 0 2 ∧ u = (cl_rsL (tb_fall S (un a) 8) (un a) 8)) ∧ nb a 8) (fun X => X = "java/lang/IndexOutOfBoundsException" ∧ ¬ nb a 8) hl_k (fun v => v.toInt64) S o) 1 6 := by
  refine hr_ofL (by decide) (Nat.le_of_ble_eq_true rfl) (fun p e s m below meth c C hr htab => ?_)
  refine hr_aload_n C dL_restart_0 rfl 2 rfl ?_
  refine hr_iconst (v := 0) C dL_restart_1 (by decide) ?_
  refine hr_aload_n C dL_restart_2 rfl 0 rfl ?_
  refine hr_iload_n C dL_restart_3 rfl 1 rfl ?_
  refine hr_lVi (As := [.int a]) (st := [.int 0, .ref (hr_ad E 27 0)]) C htab (ct_X3_restart l htr E S o a hI) (cwV 1 C.1.2.2.2.2 (hr_gV kM_L_23 kI_X3_restart kS_X3_restart kN_X3 kC_X3_restart) rfl rfl rfl (by decide +kernel) ⟨(Nat.le_of_ble_eq_true rfl), (Nat.le_of_ble_eq_true rfl)⟩) (by decide) rfl rfl rfl (Nat.le_of_ble_eq_true rfl) dL_restart_4 ⟨(Nat.le_of_ble_eq_true rfl), (Nat.le_of_ble_eq_true rfl)⟩ (fun X hx => ?_) (fun r S1 h => ?_) rfl
  · have hx0 := hx
    rcases hx with ⟨rfl, h⟩
    · refine ⟨12, ⟨[], ⟨0, 9, 12, 13⟩, [], _, rfl, (fun z hz => absurd hz List.not_mem_nil), by decide, by decide, kL_L_13, kX_IO, rfl⟩, fun q => ?_⟩
      refine hr_astore_n C [(3, .ref q), (0, .ref (hr_ad E 0 0)), (1, .int a), (2, .ref (hr_ad E 27 0))] dL_restart_12 rfl (by decide) rfl ?_
      refine hr_iconst (v := 1) C dL_restart_13 (by decide) ?_
      exact hr_liret C hr dL_restart_14 (Or.inr ⟨_, hx0, by decide, rfl⟩)
  · skip
    refine hr_i2l C dL_restart_7 rfl ?_
    refine hr_last C dL_restart_8 ?_
    refine hr_goto C 15 dL_restart_9 (by decide) ?_
    refine hr_iconst (v := 0) C dL_restart_15 (by decide) ?_
    exact hr_liret C hr dL_restart_16 (Or.inl ⟨rfl, r, h, rfl⟩)
set_option maxHeartbeats 4000000 in
set_option maxRecDepth 100000 in
theorem ct_L_ask (l : Launch) (htr : l.stackTraces = false) (E : hr_E) (S : hr_S) (o : Int64) (a b ds : Int32) (hI : hr_CI S) : hr_Li l E yL_ask (Cond.codeWith yL_ask cL_ask 6 (some .int) [(0, 12, 15, 13), (0, 12, 19, 15), (0, 12, 23, 21)] :: hr_W) ({ frames := 9, cells := 4, slots := 24, locals := 155 } : Room) [.ref (hr_ad E 0 0), .int a, .int b, .int ds, .ref (hr_ad E 27 0)] S o (hl_Q (fun r u => (r = (ai_launch (cl_askL S (un a) (un b) ds 8) 200) 3 0 2 ∧ u = (ai_launch (cl_askL S (un a) (un b) ds 8) 200)) ∧ (nb a 8 ∧ nb b 8 ∧ ¬ a = b) ∧ (¬ ds < 1 ∧ ds ≤ 255) ∧ ¬ S 1 0 (un a * 8 + un b) = 0) (fun X => ((X = "java/lang/IndexOutOfBoundsException" ∧ ¬ (nb a 8 ∧ nb b 8)) ∨ (X = "java/lang/IllegalArgumentException" ∧ (nb a 8 ∧ nb b 8) ∧ a = b)) ∨ (X = "java/lang/IllegalArgumentException" ∧ (nb a 8 ∧ nb b 8 ∧ ¬ a = b) ∧ ¬ (¬ ds < 1 ∧ ds ≤ 255)) ∨ (X = "java/lang/IllegalStateException" ∧ (nb a 8 ∧ nb b 8 ∧ ¬ a = b) ∧ (¬ ds < 1 ∧ ds ≤ 255) ∧ S 1 0 (un a * 8 + un b) = 0)) hl_k (fun v => v.toInt64) S o) 4 24 := by
  refine hr_ofL (by decide) (Nat.le_of_ble_eq_true rfl) (fun p e s m below meth c C hr htab => ?_)
  refine hr_aload C dL_ask_0 4 rfl ?_
  refine hr_iconst (v := 0) C dL_ask_2 (by decide) ?_
  refine hr_aload_n C dL_ask_3 rfl 0 rfl ?_
  refine hr_iload_n C dL_ask_4 rfl 1 rfl ?_
  refine hr_iload_n C dL_ask_5 rfl 2 rfl ?_
  refine hr_iload_n C dL_ask_6 rfl 3 rfl ?_
  refine hr_lVi (As := [.int a, .int b, .int ds]) (st := [.int 0, .ref (hr_ad E 27 0)]) C htab (ct_X3_ask l htr E S o a b ds hI) (cwV 3 C.1.2.2.2.2 (hr_gV kM_L_27 kI_X3_ask kS_X3_ask kN_X3 kC_X3_ask) rfl rfl rfl (by decide +kernel) ⟨(Nat.le_of_ble_eq_true rfl), (Nat.le_of_ble_eq_true rfl)⟩) (by decide) rfl rfl rfl (Nat.le_of_ble_eq_true rfl) dL_ask_7 ⟨(Nat.le_of_ble_eq_true rfl), (Nat.le_of_ble_eq_true rfl)⟩ (fun X hx => ?_) (fun r S1 h => ?_) rfl
  · have hx0 := hx
    rcases hx with (⟨rfl, h⟩ | ⟨rfl, h⟩) | ⟨rfl, h⟩ | ⟨rfl, h⟩
    · refine ⟨15, ⟨[], ⟨0, 12, 15, 13⟩, [⟨0, 12, 19, 15⟩, ⟨0, 12, 23, 21⟩], _, rfl, (fun z hz => absurd hz List.not_mem_nil), by decide, by decide, kL_L_13, kX_IO, rfl⟩, fun q => ?_⟩
      refine hr_astore C [(5, .ref q), (0, .ref (hr_ad E 0 0)), (1, .int a), (2, .int b), (3, .int ds), (4, .ref (hr_ad E 27 0))] dL_ask_15 (by decide) rfl ?_
      refine hr_iconst (v := 1) C dL_ask_17 (by decide) ?_
      exact hr_liret C hr dL_ask_18 (Or.inr ⟨_, hx0, by decide, rfl⟩)
    · refine ⟨19, ⟨[⟨0, 12, 15, 13⟩], ⟨0, 12, 19, 15⟩, [⟨0, 12, 23, 21⟩], _, rfl, (List.forall_mem_cons.mpr ⟨⟨by decide, _, kL_L_13, by decide⟩, fun z hz => absurd hz List.not_mem_nil⟩), by decide, by decide, kL_L_15, kX_IA, rfl⟩, fun q => ?_⟩
      refine hr_astore C [(5, .ref q), (0, .ref (hr_ad E 0 0)), (1, .int a), (2, .int b), (3, .int ds), (4, .ref (hr_ad E 27 0))] dL_ask_19 (by decide) rfl ?_
      refine hr_iconst (v := 2) C dL_ask_21 (by decide) ?_
      exact hr_liret C hr dL_ask_22 (Or.inr ⟨_, hx0, by decide, rfl⟩)
    · refine ⟨19, ⟨[⟨0, 12, 15, 13⟩], ⟨0, 12, 19, 15⟩, [⟨0, 12, 23, 21⟩], _, rfl, (List.forall_mem_cons.mpr ⟨⟨by decide, _, kL_L_13, by decide⟩, fun z hz => absurd hz List.not_mem_nil⟩), by decide, by decide, kL_L_15, kX_IA, rfl⟩, fun q => ?_⟩
      refine hr_astore C [(5, .ref q), (0, .ref (hr_ad E 0 0)), (1, .int a), (2, .int b), (3, .int ds), (4, .ref (hr_ad E 27 0))] dL_ask_19 (by decide) rfl ?_
      refine hr_iconst (v := 2) C dL_ask_21 (by decide) ?_
      exact hr_liret C hr dL_ask_22 (Or.inr ⟨_, hx0, by decide, rfl⟩)
    · refine ⟨23, ⟨[⟨0, 12, 15, 13⟩, ⟨0, 12, 19, 15⟩], ⟨0, 12, 23, 21⟩, [], _, rfl, (List.forall_mem_cons.mpr ⟨⟨by decide, _, kL_L_13, by decide⟩, List.forall_mem_cons.mpr ⟨⟨by decide, _, kL_L_15, by decide⟩, fun z hz => absurd hz List.not_mem_nil⟩⟩), by decide, by decide, kL_L_21, kX_IS, rfl⟩, fun q => ?_⟩
      refine hr_astore C [(5, .ref q), (0, .ref (hr_ad E 0 0)), (1, .int a), (2, .int b), (3, .int ds), (4, .ref (hr_ad E 27 0))] dL_ask_23 (by decide) rfl ?_
      refine hr_iconst (v := 3) C dL_ask_25 (by decide) ?_
      exact hr_liret C hr dL_ask_26 (Or.inr ⟨_, hx0, by decide, rfl⟩)
  · skip
    refine hr_i2l C dL_ask_10 rfl ?_
    refine hr_last C dL_ask_11 ?_
    refine hr_goto C 27 dL_ask_12 (by decide) ?_
    refine hr_iconst (v := 0) C dL_ask_27 (by decide) ?_
    exact hr_liret C hr dL_ask_28 (Or.inl ⟨rfl, r, h, rfl⟩)
set_option maxHeartbeats 4000000 in
set_option maxRecDepth 100000 in
theorem ct_L_tick (l : Launch) (htr : l.stackTraces = false) (E : hr_E) (S : hr_S) (o : Int64) (n9 al : Int32) (hI : hr_CI S) : hr_Li l E yL_tick (Cond.codeWith yL_tick cL_tick 5 (some .int) [(0, 10, 13, 15)] :: hr_W) ({ frames := 7, cells := 1, slots := 6, locals := 176 } : Room) [.ref (hr_ad E 0 0), .int n9, .int al, .ref (hr_ad E 27 0)] S o (hl_Q (fun r u => (r = (cl_tick S al (un n9)) 3 0 2 ∧ u = (cl_tick S al (un n9))) ∧ nb n9 1001) (fun X => X = "java/lang/IllegalArgumentException" ∧ ¬ nb n9 1001) hl_k1 (fun v => v.toInt64) S o) 1 6 := by
  refine hr_ofL (by decide) (Nat.le_of_ble_eq_true rfl) (fun p e s m below meth c C hr htab => ?_)
  refine hr_aload_n C dL_tick_0 rfl 3 rfl ?_
  refine hr_iconst (v := 0) C dL_tick_1 (by decide) ?_
  refine hr_aload_n C dL_tick_2 rfl 0 rfl ?_
  refine hr_iload_n C dL_tick_3 rfl 1 rfl ?_
  refine hr_iload_n C dL_tick_4 rfl 2 rfl ?_
  refine hr_lVi (As := [.int n9, .int al]) (st := [.int 0, .ref (hr_ad E 27 0)]) C htab (ct_X3_tick l htr E S o n9 al hI) (cwV 2 C.1.2.2.2.2 (hr_gV kM_L_31 kI_X3_tick kS_X3_tick kN_X3 kC_X3_tick) rfl rfl rfl (by decide +kernel) ⟨(Nat.le_of_ble_eq_true rfl), (Nat.le_of_ble_eq_true rfl)⟩) (by decide) rfl rfl rfl (Nat.le_of_ble_eq_true rfl) dL_tick_5 ⟨(Nat.le_of_ble_eq_true rfl), (Nat.le_of_ble_eq_true rfl)⟩ (fun X hx => ?_) (fun r S1 h => ?_) rfl
  · have hx0 := hx
    rcases hx with ⟨rfl, h⟩
    · refine ⟨13, ⟨[], ⟨0, 10, 13, 15⟩, [], _, rfl, (fun z hz => absurd hz List.not_mem_nil), by decide, by decide, kL_L_15, kX_IA, rfl⟩, fun q => ?_⟩
      refine hr_astore C [(4, .ref q), (0, .ref (hr_ad E 0 0)), (1, .int n9), (2, .int al), (3, .ref (hr_ad E 27 0))] dL_tick_13 (by decide) rfl ?_
      refine hr_iconst (v := 1) C dL_tick_15 (by decide) ?_
      exact hr_liret C hr dL_tick_16 (Or.inr ⟨_, hx0, by decide, rfl⟩)
  · skip
    refine hr_i2l C dL_tick_8 rfl ?_
    refine hr_last C dL_tick_9 ?_
    refine hr_goto C 17 dL_tick_10 (by decide) ?_
    refine hr_iconst (v := 0) C dL_tick_17 (by decide) ?_
    exact hr_liret C hr dL_tick_18 (Or.inl ⟨rfl, r, h, rfl⟩)
set_option maxHeartbeats 4000000 in
set_option maxRecDepth 100000 in
theorem ct_L_deliver (l : Launch) (htr : l.stackTraces = false) (E : hr_E) (S : hr_S) (o : Int64) (k : Int32) (hI : hr_CI S) : hr_Li l E yL_deliver (Cond.codeWith yL_deliver cL_deliver 4 (some .int) [(0, 16, 19, 13)] :: hr_W) ({ frames := 8, cells := 1, slots := 6, locals := 173 } : Room) [.ref (hr_ad E 0 0), .int k, .ref (hr_ad E 27 0)] S o (hl_Q (fun r u => (r = (if ¬ (cl_take S (un k)) 1 0 (un ((cl_take S (un k)) 6 201 0) * 8 + un ((cl_take S (un k)) 6 201 1)) = 0 then 1 else 0) ∧ u = cl_bring S (un k)) ∧ nb k (ai_n S)) (fun X => X = "java/lang/IndexOutOfBoundsException" ∧ ¬ nb k (ai_n S)) hl_k hl_z S o) 1 6 := by
  refine hr_ofL (by decide) (Nat.le_of_ble_eq_true rfl) (fun p e s m below meth c C hr htab => ?_)
  refine hr_aload_n C dL_deliver_0 rfl 2 rfl ?_
  refine hr_iconst (v := 0) C dL_deliver_1 (by decide) ?_
  refine hr_aload_n C dL_deliver_2 rfl 0 rfl ?_
  refine hr_iload_n C dL_deliver_3 rfl 1 rfl ?_
  refine hr_lVi (As := [.int k]) (st := [.int 0, .ref (hr_ad E 27 0)]) C htab (ct_X3_deliver l htr E S o k hI) (cwV 1 C.1.2.2.2.2 (hr_gV kM_L_35 kI_X3_deliver kS_X3_deliver kN_X3 kC_X3_deliver) rfl rfl rfl (by decide +kernel) ⟨(Nat.le_of_ble_eq_true rfl), (Nat.le_of_ble_eq_true rfl)⟩) (by decide) rfl rfl rfl (Nat.le_of_ble_eq_true rfl) dL_deliver_4 ⟨(Nat.le_of_ble_eq_true rfl), (Nat.le_of_ble_eq_true rfl)⟩ (fun X hx => ?_) (fun r S1 h => ?_) rfl
  · have hx0 := hx
    rcases hx with ⟨rfl, h⟩
    · refine ⟨19, ⟨[], ⟨0, 16, 19, 13⟩, [], _, rfl, (fun z hz => absurd hz List.not_mem_nil), by decide, by decide, kL_L_13, kX_IO, rfl⟩, fun q => ?_⟩
      refine hr_astore_n C [(3, .ref q), (0, .ref (hr_ad E 0 0)), (1, .int k), (2, .ref (hr_ad E 27 0))] dL_deliver_19 rfl (by decide) rfl ?_
      refine hr_iconst (v := 1) C dL_deliver_20 (by decide) ?_
      exact hr_liret C hr dL_deliver_21 (Or.inr ⟨_, hx0, by decide, rfl⟩)
  · skip
    refine hr_if_eq C 14 dL_deliver_7 (by decide) (fun c7 => ?_) (fun c7 => ?_)
    · skip
      refine hr_lconst (v := 0) C dL_deliver_14 (by decide) ?_
      refine hr_last C dL_deliver_15 ?_
      refine hr_goto C 22 dL_deliver_16 (by decide) ?_
      refine hr_iconst (v := 0) C dL_deliver_22 (by decide) ?_
      exact hr_liret C hr dL_deliver_23 (Or.inl ⟨rfl, r, h, by unfold hl_z; rw [if_pos c7]⟩)
    · skip
      refine hr_lconst (v := 1) C dL_deliver_10 (by decide) ?_
      refine hr_goto C 15 dL_deliver_11 (by decide) ?_
      refine hr_last C dL_deliver_15 ?_
      refine hr_goto C 22 dL_deliver_16 (by decide) ?_
      refine hr_iconst (v := 0) C dL_deliver_22 (by decide) ?_
      exact hr_liret C hr dL_deliver_23 (Or.inl ⟨rfl, r, h, by unfold hl_z; rw [if_neg c7]⟩)
set_option maxHeartbeats 4000000 in
set_option maxRecDepth 100000 in
theorem ct_L_lose (l : Launch) (htr : l.stackTraces = false) (E : hr_E) (S : hr_S) (o : Int64) (k : Int32) (hI : hr_CI S) : hr_Li l E yL_lose (Cond.codeWith yL_lose cL_lose 4 (some .int) [(0, 9, 12, 13)] :: hr_W) ({ frames := 8, cells := 1, slots := 6, locals := 132 } : Room) [.ref (hr_ad E 0 0), .int k, .ref (hr_ad E 27 0)] S o (hl_Q (fun r u => (r = (ai_remove S (un k)) 3 0 2 ∧ u = ai_remove S (un k)) ∧ nb k (ai_n S)) (fun X => X = "java/lang/IndexOutOfBoundsException" ∧ ¬ nb k (ai_n S)) hl_k (fun v => v.toInt64) S o) 1 6 := by
  refine hr_ofL (by decide) (Nat.le_of_ble_eq_true rfl) (fun p e s m below meth c C hr htab => ?_)
  refine hr_aload_n C dL_lose_0 rfl 2 rfl ?_
  refine hr_iconst (v := 0) C dL_lose_1 (by decide) ?_
  refine hr_aload_n C dL_lose_2 rfl 0 rfl ?_
  refine hr_iload_n C dL_lose_3 rfl 1 rfl ?_
  refine hr_lVi (As := [.int k]) (st := [.int 0, .ref (hr_ad E 27 0)]) C htab (ct_X3_lose l htr E S o k hI) (cwV 1 C.1.2.2.2.2 (hr_gV kM_L_39 kI_X3_lose kS_X3_lose kN_X3 kC_X3_lose) rfl rfl rfl (by decide +kernel) ⟨(Nat.le_of_ble_eq_true rfl), (Nat.le_of_ble_eq_true rfl)⟩) (by decide) rfl rfl rfl (Nat.le_of_ble_eq_true rfl) dL_lose_4 ⟨(Nat.le_of_ble_eq_true rfl), (Nat.le_of_ble_eq_true rfl)⟩ (fun X hx => ?_) (fun r S1 h => ?_) rfl
  · have hx0 := hx
    rcases hx with ⟨rfl, h⟩
    · refine ⟨12, ⟨[], ⟨0, 9, 12, 13⟩, [], _, rfl, (fun z hz => absurd hz List.not_mem_nil), by decide, by decide, kL_L_13, kX_IO, rfl⟩, fun q => ?_⟩
      refine hr_astore_n C [(3, .ref q), (0, .ref (hr_ad E 0 0)), (1, .int k), (2, .ref (hr_ad E 27 0))] dL_lose_12 rfl (by decide) rfl ?_
      refine hr_iconst (v := 1) C dL_lose_13 (by decide) ?_
      exact hr_liret C hr dL_lose_14 (Or.inr ⟨_, hx0, by decide, rfl⟩)
  · skip
    refine hr_i2l C dL_lose_7 rfl ?_
    refine hr_last C dL_lose_8 ?_
    refine hr_goto C 15 dL_lose_9 (by decide) ?_
    refine hr_iconst (v := 0) C dL_lose_15 (by decide) ?_
    exact hr_liret C hr dL_lose_16 (Or.inl ⟨rfl, r, h, rfl⟩)
set_option maxHeartbeats 4000000 in
set_option maxRecDepth 100000 in
theorem ct_L_twice (l : Launch) (htr : l.stackTraces = false) (E : hr_E) (S : hr_S) (o : Int64) (k : Int32) (hI : hr_CI S) : hr_Li l E yL_twice (Cond.codeWith yL_twice cL_twice 4 (some .int) [(0, 9, 12, 13)] :: hr_W) ({ frames := 8, cells := 1, slots := 6, locals := 132 } : Room) [.ref (hr_ad E 0 0), .int k, .ref (hr_ad E 27 0)] S o (hl_Q (fun r u => (r = (ai_launch S (ai_o S (un k))) 3 0 2 ∧ u = ai_launch S (ai_o S (un k))) ∧ nb k (ai_n S)) (fun X => X = "java/lang/IndexOutOfBoundsException" ∧ ¬ nb k (ai_n S)) hl_k (fun v => v.toInt64) S o) 1 6 := by
  refine hr_ofL (by decide) (Nat.le_of_ble_eq_true rfl) (fun p e s m below meth c C hr htab => ?_)
  refine hr_aload_n C dL_twice_0 rfl 2 rfl ?_
  refine hr_iconst (v := 0) C dL_twice_1 (by decide) ?_
  refine hr_aload_n C dL_twice_2 rfl 0 rfl ?_
  refine hr_iload_n C dL_twice_3 rfl 1 rfl ?_
  refine hr_lVi (As := [.int k]) (st := [.int 0, .ref (hr_ad E 27 0)]) C htab (ct_X3_twice l htr E S o k hI) (cwV 1 C.1.2.2.2.2 (hr_gV kM_L_42 kI_X3_twice kS_X3_twice kN_X3 kC_X3_twice) rfl rfl rfl (by decide +kernel) ⟨(Nat.le_of_ble_eq_true rfl), (Nat.le_of_ble_eq_true rfl)⟩) (by decide) rfl rfl rfl (Nat.le_of_ble_eq_true rfl) dL_twice_4 ⟨(Nat.le_of_ble_eq_true rfl), (Nat.le_of_ble_eq_true rfl)⟩ (fun X hx => ?_) (fun r S1 h => ?_) rfl
  · have hx0 := hx
    rcases hx with ⟨rfl, h⟩
    · refine ⟨12, ⟨[], ⟨0, 9, 12, 13⟩, [], _, rfl, (fun z hz => absurd hz List.not_mem_nil), by decide, by decide, kL_L_13, kX_IO, rfl⟩, fun q => ?_⟩
      refine hr_astore_n C [(3, .ref q), (0, .ref (hr_ad E 0 0)), (1, .int k), (2, .ref (hr_ad E 27 0))] dL_twice_12 rfl (by decide) rfl ?_
      refine hr_iconst (v := 1) C dL_twice_13 (by decide) ?_
      exact hr_liret C hr dL_twice_14 (Or.inr ⟨_, hx0, by decide, rfl⟩)
  · skip
    refine hr_i2l C dL_twice_7 rfl ?_
    refine hr_last C dL_twice_8 ?_
    refine hr_goto C 15 dL_twice_9 (by decide) ?_
    refine hr_iconst (v := 0) C dL_twice_15 (by decide) ?_
    exact hr_liret C hr dL_twice_16 (Or.inl ⟨rfl, r, h, rfl⟩)
set_option maxHeartbeats 4000000 in
set_option maxRecDepth 100000 in
theorem ct_L_poke (l : Launch) (htr : l.stackTraces = false) (E : hr_E) (S : hr_S) (o : Int64) (k j v : Int32) (hI : hr_CI S) : hr_Li l E yL_poke (Cond.codeWith yL_poke cL_poke 6 (some .int) [(0, 12, 15, 13), (0, 12, 19, 15)] :: hr_W) ({ frames := 8, cells := 3, slots := 18, locals := 136 } : Room) [.ref (hr_ad E 0 0), .int k, .int j, .int v, .ref (hr_ad E 27 0)] S o (hl_Q (fun r u => (r = hr_by (S 7 (un (S 5 0 (un k)))) (un j) ∧ u = hr_w S 7 (un (S 5 0 (un k))) (un j / 4) (hr_sb (S 7 (un (S 5 0 (un k))) (un j / 4)) (un j) v)) ∧ nb k (ai_n S) ∧ nb j (un (S 6 (un (S 5 0 (un k))) 2)) ∧ (¬ v < 0 ∧ v ≤ 255)) (fun X => (X = "java/lang/IndexOutOfBoundsException" ∧ ¬ nb k (ai_n S)) ∨ (X = "java/lang/IndexOutOfBoundsException" ∧ nb k (ai_n S) ∧ ¬ nb j (un (S 6 (un (S 5 0 (un k))) 2))) ∨ (X = "java/lang/IllegalArgumentException" ∧ nb k (ai_n S) ∧ nb j (un (S 6 (un (S 5 0 (un k))) 2)) ∧ ¬ (¬ v < 0 ∧ v ≤ 255))) hl_k (fun v => v.toInt64) S o) 3 18 := by
  refine hr_ofL (by decide) (Nat.le_of_ble_eq_true rfl) (fun p e s m below meth c C hr htab => ?_)
  refine hr_aload C dL_poke_0 4 rfl ?_
  refine hr_iconst (v := 0) C dL_poke_2 (by decide) ?_
  refine hr_aload_n C dL_poke_3 rfl 0 rfl ?_
  refine hr_iload_n C dL_poke_4 rfl 1 rfl ?_
  refine hr_iload_n C dL_poke_5 rfl 2 rfl ?_
  refine hr_iload_n C dL_poke_6 rfl 3 rfl ?_
  refine hr_lVi (As := [.int k, .int j, .int v]) (st := [.int 0, .ref (hr_ad E 27 0)]) C htab (ct_X3_poke l htr E S o k j v hI) (cwV 3 C.1.2.2.2.2 (hr_gV kM_L_45 kI_X3_poke kS_X3_poke kN_X3 kC_X3_poke) rfl rfl rfl (by decide +kernel) ⟨(Nat.le_of_ble_eq_true rfl), (Nat.le_of_ble_eq_true rfl)⟩) (by decide) rfl rfl rfl (Nat.le_of_ble_eq_true rfl) dL_poke_7 ⟨(Nat.le_of_ble_eq_true rfl), (Nat.le_of_ble_eq_true rfl)⟩ (fun X hx => ?_) (fun r S1 h => ?_) rfl
  · have hx0 := hx
    rcases hx with ⟨rfl, h⟩ | ⟨rfl, h⟩ | ⟨rfl, h⟩
    · refine ⟨15, ⟨[], ⟨0, 12, 15, 13⟩, [⟨0, 12, 19, 15⟩], _, rfl, (fun z hz => absurd hz List.not_mem_nil), by decide, by decide, kL_L_13, kX_IO, rfl⟩, fun q => ?_⟩
      refine hr_astore C [(5, .ref q), (0, .ref (hr_ad E 0 0)), (1, .int k), (2, .int j), (3, .int v), (4, .ref (hr_ad E 27 0))] dL_poke_15 (by decide) rfl ?_
      refine hr_iconst (v := 1) C dL_poke_17 (by decide) ?_
      exact hr_liret C hr dL_poke_18 (Or.inr ⟨_, hx0, by decide, rfl⟩)
    · refine ⟨15, ⟨[], ⟨0, 12, 15, 13⟩, [⟨0, 12, 19, 15⟩], _, rfl, (fun z hz => absurd hz List.not_mem_nil), by decide, by decide, kL_L_13, kX_IO, rfl⟩, fun q => ?_⟩
      refine hr_astore C [(5, .ref q), (0, .ref (hr_ad E 0 0)), (1, .int k), (2, .int j), (3, .int v), (4, .ref (hr_ad E 27 0))] dL_poke_15 (by decide) rfl ?_
      refine hr_iconst (v := 1) C dL_poke_17 (by decide) ?_
      exact hr_liret C hr dL_poke_18 (Or.inr ⟨_, hx0, by decide, rfl⟩)
    · refine ⟨19, ⟨[⟨0, 12, 15, 13⟩], ⟨0, 12, 19, 15⟩, [], _, rfl, (List.forall_mem_cons.mpr ⟨⟨by decide, _, kL_L_13, by decide⟩, fun z hz => absurd hz List.not_mem_nil⟩), by decide, by decide, kL_L_15, kX_IA, rfl⟩, fun q => ?_⟩
      refine hr_astore C [(5, .ref q), (0, .ref (hr_ad E 0 0)), (1, .int k), (2, .int j), (3, .int v), (4, .ref (hr_ad E 27 0))] dL_poke_19 (by decide) rfl ?_
      refine hr_iconst (v := 2) C dL_poke_21 (by decide) ?_
      exact hr_liret C hr dL_poke_22 (Or.inr ⟨_, hx0, by decide, rfl⟩)
  · skip
    refine hr_i2l C dL_poke_10 rfl ?_
    refine hr_last C dL_poke_11 ?_
    refine hr_goto C 23 dL_poke_12 (by decide) ?_
    refine hr_iconst (v := 0) C dL_poke_23 (by decide) ?_
    exact hr_liret C hr dL_poke_24 (Or.inl ⟨rfl, r, h, rfl⟩)
set_option maxHeartbeats 4000000 in
set_option maxRecDepth 100000 in
theorem ct_L_cut (l : Launch) (htr : l.stackTraces = false) (E : hr_E) (S : hr_S) (o : Int64) (k v : Int32) (hI : hr_CI S) : hr_Li l E yL_cut (Cond.codeWith yL_cut cL_cut 4 (some .int) [(0, 6, 9, 13), (0, 6, 12, 15)] :: hr_W) ({ frames := 8, cells := 2, slots := 12, locals := 134 } : Room) [.ref (hr_ad E 0 0), .int k, .int v] S o (hl_Qv (fun u => u = hr_w S 6 (un (S 5 0 (un k))) 2 v ∧ nb k (ai_n S) ∧ (¬ v < 0 ∧ v ≤ S 6 (un (S 5 0 (un k))) 2)) (fun X => (X = "java/lang/IndexOutOfBoundsException" ∧ ¬ nb k (ai_n S)) ∨ (X = "java/lang/IllegalArgumentException" ∧ nb k (ai_n S) ∧ ¬ (¬ v < 0 ∧ v ≤ S 6 (un (S 5 0 (un k))) 2))) hl_k S o) 2 12 := by
  refine hr_ofL (by decide) (Nat.le_of_ble_eq_true rfl) (fun p e s m below meth c C hr htab => ?_)
  refine hr_aload_n C dL_cut_0 rfl 0 rfl ?_
  refine hr_iload_n C dL_cut_1 rfl 1 rfl ?_
  refine hr_iload_n C dL_cut_2 rfl 2 rfl ?_
  refine hr_lVv (As := [.int k, .int v]) (st := []) C htab (ct_X3_cut l htr E S o k v hI) (cwV 2 C.1.2.2.2.2 (hr_gV kM_L_48 kI_X3_cut kS_X3_cut kN_X3 kC_X3_cut) rfl rfl rfl (by decide +kernel) ⟨(Nat.le_of_ble_eq_true rfl), (Nat.le_of_ble_eq_true rfl)⟩) (by decide) rfl rfl rfl (Nat.le_of_ble_eq_true rfl) dL_cut_3 ⟨(Nat.le_of_ble_eq_true rfl), (Nat.le_of_ble_eq_true rfl)⟩ (fun X hx => ?_) (fun S1 h => ?_) rfl
  · have hx0 := hx
    rcases hx with ⟨rfl, h⟩ | ⟨rfl, h⟩
    · refine ⟨9, ⟨[], ⟨0, 6, 9, 13⟩, [⟨0, 6, 12, 15⟩], _, rfl, (fun z hz => absurd hz List.not_mem_nil), by decide, by decide, kL_L_13, kX_IO, rfl⟩, fun q => ?_⟩
      refine hr_astore_n C [(3, .ref q), (0, .ref (hr_ad E 0 0)), (1, .int k), (2, .int v)] dL_cut_9 rfl (by decide) rfl ?_
      refine hr_iconst (v := 1) C dL_cut_10 (by decide) ?_
      exact hr_liret C hr dL_cut_11 (Or.inr ⟨_, hx0, by decide, rfl⟩)
    · refine ⟨12, ⟨[⟨0, 6, 9, 13⟩], ⟨0, 6, 12, 15⟩, [], _, rfl, (List.forall_mem_cons.mpr ⟨⟨by decide, _, kL_L_13, by decide⟩, fun z hz => absurd hz List.not_mem_nil⟩), by decide, by decide, kL_L_15, kX_IA, rfl⟩, fun q => ?_⟩
      refine hr_astore_n C [(3, .ref q), (0, .ref (hr_ad E 0 0)), (1, .int k), (2, .int v)] dL_cut_12 rfl (by decide) rfl ?_
      refine hr_iconst (v := 2) C dL_cut_13 (by decide) ?_
      exact hr_liret C hr dL_cut_14 (Or.inr ⟨_, hx0, by decide, rfl⟩)
  · skip
    refine hr_goto C 15 dL_cut_6 (by decide) ?_
    refine hr_iconst (v := 0) C dL_cut_15 (by decide) ?_
    exact hr_liret C hr dL_cut_16 (Or.inl ⟨rfl, h, rfl⟩)
set_option maxHeartbeats 4000000 in
set_option maxRecDepth 100000 in
theorem ct_L_packet (l : Launch) (htr : l.stackTraces = false) (E : hr_E) (S : hr_S) (o : Int64) (k j : Int32) (hI : hr_CI S) : hr_Li l E yL_packet (Cond.codeWith yL_packet cL_packet 5 (some .int) [(0, 10, 13, 13)] :: hr_W) ({ frames := 8, cells := 2, slots := 12, locals := 134 } : Room) [.ref (hr_ad E 0 0), .int k, .int j, .ref (hr_ad E 27 0)] S o (hl_Q (fun r u => (r = cl_pkt S (un (S 5 0 (un k))) j ∧ u = S) ∧ nb k (ai_n S) ∧ (¬ j = -3 → ¬ j = -2 → ¬ j = -1 → nb j (un (S 6 (un (S 5 0 (un k))) 2)))) (fun X => (X = "java/lang/IndexOutOfBoundsException" ∧ ¬ nb k (ai_n S)) ∨ (X = "java/lang/IndexOutOfBoundsException" ∧ nb k (ai_n S) ∧ ¬ j = -3 ∧ ¬ j = -2 ∧ ¬ j = -1 ∧ ¬ nb j (un (S 6 (un (S 5 0 (un k))) 2)))) hl_k (fun v => v.toInt64) S o) 2 12 := by
  refine hr_ofL (by decide) (Nat.le_of_ble_eq_true rfl) (fun p e s m below meth c C hr htab => ?_)
  refine hr_aload_n C dL_packet_0 rfl 3 rfl ?_
  refine hr_iconst (v := 0) C dL_packet_1 (by decide) ?_
  refine hr_aload_n C dL_packet_2 rfl 0 rfl ?_
  refine hr_iload_n C dL_packet_3 rfl 1 rfl ?_
  refine hr_iload_n C dL_packet_4 rfl 2 rfl ?_
  refine hr_lVi (As := [.int k, .int j]) (st := [.int 0, .ref (hr_ad E 27 0)]) C htab (ct_X3_packet l htr E S o k j hI) (cwV 2 C.1.2.2.2.2 (hr_gV kM_L_52 kI_X3_packet kS_X3_packet kN_X3 kC_X3_packet) rfl rfl rfl (by decide +kernel) ⟨(Nat.le_of_ble_eq_true rfl), (Nat.le_of_ble_eq_true rfl)⟩) (by decide) rfl rfl rfl (Nat.le_of_ble_eq_true rfl) dL_packet_5 ⟨(Nat.le_of_ble_eq_true rfl), (Nat.le_of_ble_eq_true rfl)⟩ (fun X hx => ?_) (fun r S1 h => ?_) rfl
  · have hx0 := hx
    rcases hx with ⟨rfl, h⟩ | ⟨rfl, h⟩
    · refine ⟨13, ⟨[], ⟨0, 10, 13, 13⟩, [], _, rfl, (fun z hz => absurd hz List.not_mem_nil), by decide, by decide, kL_L_13, kX_IO, rfl⟩, fun q => ?_⟩
      refine hr_astore C [(4, .ref q), (0, .ref (hr_ad E 0 0)), (1, .int k), (2, .int j), (3, .ref (hr_ad E 27 0))] dL_packet_13 (by decide) rfl ?_
      refine hr_iconst (v := 1) C dL_packet_15 (by decide) ?_
      exact hr_liret C hr dL_packet_16 (Or.inr ⟨_, hx0, by decide, rfl⟩)
    · refine ⟨13, ⟨[], ⟨0, 10, 13, 13⟩, [], _, rfl, (fun z hz => absurd hz List.not_mem_nil), by decide, by decide, kL_L_13, kX_IO, rfl⟩, fun q => ?_⟩
      refine hr_astore C [(4, .ref q), (0, .ref (hr_ad E 0 0)), (1, .int k), (2, .int j), (3, .ref (hr_ad E 27 0))] dL_packet_13 (by decide) rfl ?_
      refine hr_iconst (v := 1) C dL_packet_15 (by decide) ?_
      exact hr_liret C hr dL_packet_16 (Or.inr ⟨_, hx0, by decide, rfl⟩)
  · skip
    refine hr_i2l C dL_packet_8 rfl ?_
    refine hr_last C dL_packet_9 ?_
    refine hr_goto C 17 dL_packet_10 (by decide) ?_
    refine hr_iconst (v := 0) C dL_packet_17 (by decide) ?_
    exact hr_liret C hr dL_packet_18 (Or.inl ⟨rfl, r, h, rfl⟩)
set_option maxHeartbeats 4000000 in
set_option maxRecDepth 100000 in
theorem ct_L_route (l : Launch) (htr : l.stackTraces = false) (E : hr_E) (S : hr_S) (o : Int64) (a b w9 : Int32) (hI : hr_CI S) : hr_Li l E yL_route (Cond.codeWith yL_route cL_route 6 (some .int) [(0, 12, 15, 13)] :: hr_W) ({ frames := 8, cells := 3, slots := 18, locals := 133 } : Room) [.ref (hr_ad E 0 0), .int a, .int b, .int w9, .ref (hr_ad E 27 0)] S o (hl_Q (fun r u => (r = cl_route S a b w9 ∧ u = S) ∧ nb a 8 ∧ nb b 8 ∧ nb w9 5) (fun X => X = "java/lang/IndexOutOfBoundsException" ∧ ¬ (nb a 8 ∧ nb b 8 ∧ nb w9 5)) hl_k (fun v => v.toInt64) S o) 3 18 := by
  refine hr_ofL (by decide) (Nat.le_of_ble_eq_true rfl) (fun p e s m below meth c C hr htab => ?_)
  refine hr_aload C dL_route_0 4 rfl ?_
  refine hr_iconst (v := 0) C dL_route_2 (by decide) ?_
  refine hr_aload_n C dL_route_3 rfl 0 rfl ?_
  refine hr_iload_n C dL_route_4 rfl 1 rfl ?_
  refine hr_iload_n C dL_route_5 rfl 2 rfl ?_
  refine hr_iload_n C dL_route_6 rfl 3 rfl ?_
  refine hr_lVi (As := [.int a, .int b, .int w9]) (st := [.int 0, .ref (hr_ad E 27 0)]) C htab (ct_X3_route l htr E S o a b w9 hI) (cwV 3 C.1.2.2.2.2 (hr_gV kM_L_55 kI_X3_route kS_X3_route kN_X3 kC_X3_route) rfl rfl rfl (by decide +kernel) ⟨(Nat.le_of_ble_eq_true rfl), (Nat.le_of_ble_eq_true rfl)⟩) (by decide) rfl rfl rfl (Nat.le_of_ble_eq_true rfl) dL_route_7 ⟨(Nat.le_of_ble_eq_true rfl), (Nat.le_of_ble_eq_true rfl)⟩ (fun X hx => ?_) (fun r S1 h => ?_) rfl
  · have hx0 := hx
    rcases hx with ⟨rfl, h⟩
    · refine ⟨15, ⟨[], ⟨0, 12, 15, 13⟩, [], _, rfl, (fun z hz => absurd hz List.not_mem_nil), by decide, by decide, kL_L_13, kX_IO, rfl⟩, fun q => ?_⟩
      refine hr_astore C [(5, .ref q), (0, .ref (hr_ad E 0 0)), (1, .int a), (2, .int b), (3, .int w9), (4, .ref (hr_ad E 27 0))] dL_route_15 (by decide) rfl ?_
      refine hr_iconst (v := 1) C dL_route_17 (by decide) ?_
      exact hr_liret C hr dL_route_18 (Or.inr ⟨_, hx0, by decide, rfl⟩)
  · skip
    refine hr_i2l C dL_route_10 rfl ?_
    refine hr_last C dL_route_11 ?_
    refine hr_goto C 19 dL_route_12 (by decide) ?_
    refine hr_iconst (v := 0) C dL_route_19 (by decide) ?_
    exact hr_liret C hr dL_route_20 (Or.inl ⟨rfl, r, h, rfl⟩)
set_option maxHeartbeats 4000000 in
set_option maxRecDepth 100000 in
theorem ct_L_send (l : Launch) (htr : l.stackTraces = false) (E : hr_E) (S : hr_S) (o : Int64) (a b : Int32) (hI : hr_CI S) : hr_Li l E yL_send (Cond.codeWith yL_send cL_send 5 (some .int) [(0, 10, 13, 13)] :: hr_W) ({ frames := 8, cells := 2, slots := 12, locals := 136 } : Room) [.ref (hr_ad E 0 0), .int a, .int b, .ref (hr_ad E 27 0)] S o (hl_Q (fun r u => (r = cl_sd S (un b) 16 (un a) ∧ u = S) ∧ nb a 8 ∧ nb b 8) (fun X => X = "java/lang/IndexOutOfBoundsException" ∧ ¬ (nb a 8 ∧ nb b 8)) hl_k (fun v => v.toInt64) S o) 2 12 := by
  refine hr_ofL (by decide) (Nat.le_of_ble_eq_true rfl) (fun p e s m below meth c C hr htab => ?_)
  refine hr_aload_n C dL_send_0 rfl 3 rfl ?_
  refine hr_iconst (v := 0) C dL_send_1 (by decide) ?_
  refine hr_aload_n C dL_send_2 rfl 0 rfl ?_
  refine hr_iload_n C dL_send_3 rfl 1 rfl ?_
  refine hr_iload_n C dL_send_4 rfl 2 rfl ?_
  refine hr_lVi (As := [.int a, .int b]) (st := [.int 0, .ref (hr_ad E 27 0)]) C htab (ct_X3_send l htr E S o a b hI) (cwV 2 C.1.2.2.2.2 (hr_gV kM_L_58 kI_X3_send kS_X3_send kN_X3 kC_X3_send) rfl rfl rfl (by decide +kernel) ⟨(Nat.le_of_ble_eq_true rfl), (Nat.le_of_ble_eq_true rfl)⟩) (by decide) rfl rfl rfl (Nat.le_of_ble_eq_true rfl) dL_send_5 ⟨(Nat.le_of_ble_eq_true rfl), (Nat.le_of_ble_eq_true rfl)⟩ (fun X hx => ?_) (fun r S1 h => ?_) rfl
  · have hx0 := hx
    rcases hx with ⟨rfl, h⟩
    · refine ⟨13, ⟨[], ⟨0, 10, 13, 13⟩, [], _, rfl, (fun z hz => absurd hz List.not_mem_nil), by decide, by decide, kL_L_13, kX_IO, rfl⟩, fun q => ?_⟩
      refine hr_astore C [(4, .ref q), (0, .ref (hr_ad E 0 0)), (1, .int a), (2, .int b), (3, .ref (hr_ad E 27 0))] dL_send_13 (by decide) rfl ?_
      refine hr_iconst (v := 1) C dL_send_15 (by decide) ?_
      exact hr_liret C hr dL_send_16 (Or.inr ⟨_, hx0, by decide, rfl⟩)
  · skip
    refine hr_i2l C dL_send_8 rfl ?_
    refine hr_last C dL_send_9 ?_
    refine hr_goto C 17 dL_send_10 (by decide) ?_
    refine hr_iconst (v := 0) C dL_send_17 (by decide) ?_
    exact hr_liret C hr dL_send_18 (Or.inl ⟨rfl, r, h, rfl⟩)
set_option maxHeartbeats 4000000 in
set_option maxRecDepth 100000 in
theorem ct_L_count (l : Launch) (htr : l.stackTraces = false) (E : hr_E) (S : hr_S) (o : Int64) (w9 : Int32) : hr_Li l E yL_count (Cond.codeWith yL_count cL_count 4 (some .int) [(0, 9, 12, 13)] :: hr_W) ({ frames := 7, cells := 1, slots := 6, locals := 111 } : Room) [.ref (hr_ad E 0 0), .int w9, .ref (hr_ad E 27 0)] S o (hl_Q (fun r u => (r = cl_count S (un w9) ∧ u = S) ∧ nb w9 6) (fun X => X = "java/lang/IndexOutOfBoundsException" ∧ ¬ nb w9 6) hl_k (fun v => v.toInt64) S o) 1 6 := by
  refine hr_ofL (by decide) (Nat.le_of_ble_eq_true rfl) (fun p e s m below meth c C hr htab => ?_)
  refine hr_aload_n C dL_count_0 rfl 2 rfl ?_
  refine hr_iconst (v := 0) C dL_count_1 (by decide) ?_
  refine hr_aload_n C dL_count_2 rfl 0 rfl ?_
  refine hr_iload_n C dL_count_3 rfl 1 rfl ?_
  refine hr_lVi (As := [.int w9]) (st := [.int 0, .ref (hr_ad E 27 0)]) C htab (ct_X3_count l htr E S o w9) (cwV 1 C.1.2.2.2.2 (hr_gV kM_L_61 kI_X3_count kS_X3_count kN_X3 kC_X3_count) rfl rfl rfl (by decide +kernel) ⟨(Nat.le_of_ble_eq_true rfl), (Nat.le_of_ble_eq_true rfl)⟩) (by decide) rfl rfl rfl (Nat.le_of_ble_eq_true rfl) dL_count_4 ⟨(Nat.le_of_ble_eq_true rfl), (Nat.le_of_ble_eq_true rfl)⟩ (fun X hx => ?_) (fun r S1 h => ?_) rfl
  · have hx0 := hx
    rcases hx with ⟨rfl, h⟩
    · refine ⟨12, ⟨[], ⟨0, 9, 12, 13⟩, [], _, rfl, (fun z hz => absurd hz List.not_mem_nil), by decide, by decide, kL_L_13, kX_IO, rfl⟩, fun q => ?_⟩
      refine hr_astore_n C [(3, .ref q), (0, .ref (hr_ad E 0 0)), (1, .int w9), (2, .ref (hr_ad E 27 0))] dL_count_12 rfl (by decide) rfl ?_
      refine hr_iconst (v := 1) C dL_count_13 (by decide) ?_
      exact hr_liret C hr dL_count_14 (Or.inr ⟨_, hx0, by decide, rfl⟩)
  · skip
    refine hr_i2l C dL_count_7 rfl ?_
    refine hr_last C dL_count_8 ?_
    refine hr_goto C 15 dL_count_9 (by decide) ?_
    refine hr_iconst (v := 0) C dL_count_15 (by decide) ?_
    exact hr_liret C hr dL_count_16 (Or.inl ⟨rfl, r, h, rfl⟩)
