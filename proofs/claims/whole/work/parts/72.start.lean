/-- all cells are made: the world of the walk -/
theorem hr_P_done {E : hr_E} {ad1 : Nat → Nat → Nat} {g : Nat → Nat → Int32} {u : hc_X} {q14 q15 q16 q17 q18 q19 q20 q21 q22 q23 q24 q25 q26 q27 : Nat} {H : Heap} (hP : hc_P E (hc_s (hc_md E u q14 q15 q16 q17 q18 q19 q20 q21 q22 q23 q24 q25 q26) 27 0 (q27, .inl (E.2.2.1 2, 1, .inr (.inl (fun _ => 0))))) H) (hd : hc_done E ad1 g u) :
    ∃ ad : Nat → Nat → Nat, ad 0 0 = ad1 0 0 ∧ ad 14 0 = q14 ∧ ad 27 0 = q27 ∧ hr_D (hc_E E ad) ∧ hr_P (hc_E E ad) (hr_S0 g) 0 H := by
  have hall : ∀ k i, i < hr_cnt k → k < 28 := fun k i h => by
    have := hr_ix_mem h
    obtain ⟨k2, hk2, h2⟩ := List.mem_flatMap.mp this
    obtain ⟨i2, -, e2⟩ := List.mem_map.mp h2
    have e3 : k2 = k := congrArg Prod.fst e2
    rw [← e3]
    exact List.mem_range.mp hk2
  obtain ⟨ad, had⟩ : ∃ ad : Nat → Nat → Nat, ad = fun k i => if k ≤ 13 then ad1 k i else if k = 14 then q14 else if k = 15 then q15 else if k = 16 then q16 else if k = 17 then q17 else if k = 18 then q18 else if k = 19 then q19 else if k = 20 then q20 else if k = 21 then q21 else if k = 22 then q22 else if k = 23 then q23 else if k = 24 then q24 else if k = 25 then q25 else if k = 26 then q26 else q27 := ⟨_, rfl⟩
  have hlo : ∀ k i, k ≤ 13 → ad k i = ad1 k i := fun k i h => by rw [had]; simp [h]
  generalize hX : hc_s (hc_md E u q14 q15 q16 q17 q18 q19 q20 q21 q22 q23 q24 q25 q26) 27 0 (q27, .inl (E.2.2.1 2, 1, .inr (.inl (fun _ => 0)))) = X at hP
  have low : ∀ k i, k ≤ 13 → X k i = u k i := fun k i h => by
    rw [← hX]
    unfold hc_md
    simp [hc_s, show ¬ k = 14 by omega, show ¬ k = 15 by omega, show ¬ k = 16 by omega, show ¬ k = 17 by omega, show ¬ k = 18 by omega, show ¬ k = 19 by omega, show ¬ k = 20 by omega, show ¬ k = 21 by omega, show ¬ k = 22 by omega, show ¬ k = 23 by omega, show ¬ k = 24 by omega, show ¬ k = 25 by omega, show ¬ k = 26 by omega, show ¬ k = 27 by omega]
  have hat : ∀ k i, i < hr_cnt k → ∃ ce, X k i = some (ad k i, ce) ∧ (va_at E.1 vwCl (ad k i, ce) H → va_at E.1 vwCl (ad k i, hr_cell (hc_E E ad) (hr_S0 g) 0 k i) H) := by
    intro k i hi
    by_cases hk : k ≤ 13
    · rw [low k i hk, hlo k i hk]
      by_cases h2 : k = 2
      · subst h2
        have hi : i < 1 := hi
        have : i = 0 := by omega
        subst this
        refine ⟨_, hd.2.1, fun h => ?_⟩
        show H[ad1 2 0]? = some (vp_cell _ _)
        have h9 : H[ad1 2 0]? = some (vp_cell _ _) := h
        rw [h9, vp_cell_q, vp_cell_q]
        refine congrArg some (arrV_cg _ (fun j hj => ?_))
        show va_rf (if j < 8 then some (ad1 8 j) else none) = va_rf (some (ad 8 j))
        rw [if_pos hj, hlo 8 j (by decide)]
      · by_cases h4 : k = 4
        · subst h4
          have hi : i < 1 := hi
          have : i = 0 := by omega
          subst this
          refine ⟨_, hd.2.2, fun h => ?_⟩
          show H[ad1 4 0]? = some (vp_cell _ _)
          have h9 : H[ad1 4 0]? = some (vp_cell _ _) := h
          rw [h9, vp_cell_q, vp_cell_q]
          refine congrArg some (arrV_cg _ (fun j hj => ?_))
          show va_rf (if j < 200 then some (ad1 6 j) else none) = va_rf (some (ad 6 j))
          rw [if_pos hj, hlo 6 j (by decide)]
        · refine ⟨_, hd.1 k i hk hi h2 h4, fun h => ?_⟩
          have e : hr_cell (hc_E E ad) (hr_S0 g) 0 k i = hr_cell (hc_E E ad1) (hr_S0 g) 0 k i := by
            rcases (show k = 0 ∨ k = 1 ∨ k = 3 ∨ k = 5 ∨ k = 6 ∨ k = 7 ∨ k = 8 ∨ k = 9 ∨ k = 10 ∨ k = 11 ∨ k = 12 ∨ k = 13 by omega) with rfl | rfl | rfl | rfl | rfl | rfl | rfl | rfl | rfl | rfl | rfl | rfl <;> simp [hr_cell, hc_E, hr_ad, hlo]
          rw [e]
          exact h
    · have hlt := hall k i hi
      have hi : i = 0 := by
        have h := hi
        unfold hr_cnt at h
        rw [if_neg (by omega), if_neg (by omega), if_pos hlt] at h
        omega
      subst hi
      rcases (show k = 14 ∨ k = 15 ∨ k = 16 ∨ k = 17 ∨ k = 18 ∨ k = 19 ∨ k = 20 ∨ k = 21 ∨ k = 22 ∨ k = 23 ∨ k = 24 ∨ k = 25 ∨ k = 26 ∨ k = 27 by omega) with rfl | rfl | rfl | rfl | rfl | rfl | rfl | rfl | rfl | rfl | rfl | rfl | rfl | rfl <;> (refine ⟨_, by rw [← hX, had]; simp [hc_s, hc_md]; rfl, fun h => ?_⟩; first | exact h | (rw [had] at h ⊢; exact h))
  refine ⟨ad, hlo 0 0 (by decide), by rw [had]; simp, by rw [had]; simp, ⟨?_, ?_⟩, ?_⟩
  · intro k i k' i' h1 h2 h3
    obtain ⟨e1, g1, -⟩ := hat k i h1
    obtain ⟨e2, g2, -⟩ := hat k' i' h2
    exact hP.2 _ _ _ _ _ _ g1 g2 h3
  · intro k i h1
    obtain ⟨e1, g1, -⟩ := hat k i h1
    exact (hP.1 _ _ _ g1).2.2
  · intro k i h1
    obtain ⟨e1, g1, g2⟩ := hat k i h1
    exact g2 (hP.1 _ _ _ g1).2.1
theorem hr_S0_R {g : Nat → Nat → Int32} (hg : ∀ t j, t < 8 → j < 8 → g t j = -1) : hr_R (hr_S0 g) := by
  have z : ∀ k i j, k ≠ 9 → k ≠ 5 → hr_S0 g k i j = 0 := fun k i j h1 h2 => by unfold hr_S0; rw [if_neg h1, if_neg h2]
  have n0 : ∀ N, 0 < N → N ≤ 2 ^ 31 → nb (0 : Int32) N := fun N h1 h2 => nb_nI (n := 0) h1 h2
  have f5 : ∀ k, k < 200 → hr_S0 g 5 0 k = nI k := fun k hk => by unfold hr_S0; rw [if_neg (by decide), if_pos rfl, if_pos hk]
  refine ⟨⟨⟨?_, ?_, ?_, ?_, ?_, ?_⟩, ⟨?_, ?_, ?_, ?_⟩⟩, ?_, ⟨?_, ?_, ?_, ?_⟩, ⟨?_, ?_⟩, ?_⟩
  · rw [z _ _ _ (by decide) (by decide)]; exact n0 _ (by decide) (by decide)
  · intro k hk; rw [f5 k hk]; exact nb_nI hk (by decide)
  · intro k k' hk hk' h
    rw [f5 k hk, f5 k' hk', un_nI (by omega), un_nI (by omega)] at h
    exact h
  · intro i hi
    rw [z _ _ _ (by decide) (by decide), z _ _ _ (by decide) (by decide), z _ _ _ (by decide) (by decide)]
    exact ⟨n0 _ (by decide) (by decide), n0 _ (by decide) (by decide), n0 _ (by decide) (by decide)⟩
  · intro t d ht hd; rw [z _ _ _ (by decide) (by decide)]; exact n0 _ (by decide) (by decide)
  · intro x hx; rw [z _ _ _ (by decide) (by decide)]; exact Or.inl rfl
  · rw [z _ _ _ (by decide) (by decide)]; exact n0 _ (by decide) (by decide)
  · intro k hk
    rw [z _ _ _ (by decide) (by decide), z _ _ _ (by decide) (by decide), z _ _ _ (by decide) (by decide)]
    exact ⟨n0 _ (by decide) (by decide), n0 _ (by decide) (by decide), n0 _ (by decide) (by decide)⟩
  · intro q hq; rw [z _ _ _ (by decide) (by decide)]; exact n0 _ (by decide) (by decide)
  · intro x hx; rw [z _ _ _ (by decide) (by decide)]; exact Or.inl rfl
  · intro r d hr hd
    refine Or.inl ⟨?_, z _ _ _ (by decide) (by decide), z _ _ _ (by decide) (by decide)⟩
    show hr_S0 g 9 r d = -1
    unfold hr_S0
    rw [if_pos rfl]
    exact hg r d hr hd
  · intro x hx; rw [z _ _ _ (by decide) (by decide), z _ _ _ (by decide) (by decide)]
  · intro a b ha hb; rw [z _ _ _ (by decide) (by decide), z _ _ _ (by decide) (by decide)]
  · intro a ha; rw [z _ _ _ (by decide) (by decide)]
  · rw [z _ _ _ (by decide) (by decide)]
    have : ∀ p, md_cnt (hr_S0 g) p = 0 := by
      intro p
      induction p with
      | zero => rfl
      | succ p ih =>
        unfold md_cnt
        rw [ih, if_neg (fun h => h.1 (z _ _ _ (by decide) (by decide)))]
    rw [this]
    rfl
  · rw [z _ _ _ (by decide) (by decide), z _ _ _ (by decide) (by decide)]
  · intro k hk
    exfalso
    unfold ai_n at hk
    rw [z _ _ _ (by decide) (by decide)] at hk
    exact absurd hk (Nat.not_lt_zero k)
  · refine ⟨?_, ?_, ?_, ?_⟩ <;> rw [z _ _ _ (by decide) (by decide), z _ _ _ (by decide) (by decide)]
theorem hc_done_s {E : hr_E} {ad : Nat → Nat → Nat} {g : Nat → Nat → Int32} {u : hc_X} {c : Nat × va_E} (h : hc_done E ad g u) : hc_done E ad g (hc_s u 14 0 c) := by
  refine ⟨fun k i h1 h2 h3 h4 => ?_, ?_, ?_⟩
  · rw [hc_s_ne _ _ (by omega)]; exact h.1 k i h1 h2 h3 h4
  · rw [hc_s_ne _ _ (by omega)]; exact h.2.1
  · rw [hc_s_ne _ _ (by omega)]; exact h.2.2
set_option maxHeartbeats 4000000 in
set_option maxRecDepth 100000 in
/-- THE LAW, from its entry -/
theorem whole_start {p : Program} {e : Env} {s : State} {m : MethodId} {below : List Frame} {meth : Method} {c : Code} (l : Launch) (htr : l.stackTraces = false) {b L : Nat} {xs : Nat → Int32} (hL : L ≤ 2048) (C0 : lw_At p s m meth c b L xs) : W p l e room_1 s m #[Value.ref b] below meth c s.heap [] 0 0 (lw_Z below #[Value.ref b] s) (entryFrame m ([Value.ref b] : List Value).toArray 7) := by
  obtain ⟨D, ty, sf, hK⟩ := law_K C0
  obtain ⟨hx, hb, hr, hml, hown, hts, hX, hbl, hlocks, hgv⟩ := id C0
  have hW : ∀ w ∈ Cond.initialized RL :: hr_W, w.before #[Value.ref b] s = true := fun w h => (List.mem_cons.mp h).elim (fun h => by rw [h]; exact hts _ (List.mem_filter.mp kN_L).1) (fun h => hts w (List.mem_filter.mp h).1)
  obtain ⟨E, hE⟩ : ∃ E : hr_E, E = (D, (fun _ _ => 0), ty, (fun q => s.heap.size ≤ q), sf) := ⟨_, rfl⟩
  have hA : hr_A E = fun q => s.heap.size ≤ q := by rw [hE]
  have C : hc_C p s m #[Value.ref b] meth c cL_law RL (Cond.initialized RL) 7 E := ⟨⟨hx, hb, hml, hown, hW⟩, hlocks, by rw [hE]; exact (hK _).1⟩
  have hl := lv_entry ([.ref b]) (n := 7) (Nat.le_of_ble_eq_true rfl)
  rw [lg_entry_eq]
  have key : hc_G p l e room_1 s m #[Value.ref b] below meth c (lw_Z below #[Value.ref b] s) E 7 0 0 (fun _ _ => none) [(0, .ref b)] 0 [] := by
    refine hc_new (fs := [.null, .null, .null, .null, .null, .int 0, .int 0, .int 0]) (ci := 3) 0 0 C kU_X3 tyX3 tyX3_ok kL_L_8 kP_X3 kN_X3 rfl (fun j hj => by rcases (show j = 0 ∨ j = 1 ∨ j = 2 ∨ j = 3 ∨ j = 4 ∨ j = 5 ∨ j = 6 ∨ j = 7 by omega) with rfl | rfl | rfl | rfl | rfl | rfl | rfl | rfl <;> rfl) rfl (by decide) (Nat.le_of_ble_eq_true rfl) (Nat.le_of_ble_eq_true rfl) dL_law_0 (fun q0 => ?_)
    refine hc_dup C dL_law_3 rfl ?_
    refine hc_cI (As := []) (st := [.ref q0]) C (mk_X3 l E _ q0 (hc_s_self _ _ _ _) (fun k i h1 h2 => by rw [hc_s_ne _ _ (by omega)])) (cwI 0 C.1.2.2.2.2 (hr_gI kC_X3_init) rfl rfl rfl (C.1.2.2.2.2 _ (List.mem_cons_of_mem _ kN_X3)) (C.1.2.2.2.2 _ (List.mem_cons_of_mem _ kM_L_64)) (C.1.2.2.2.2 _ (List.mem_cons_of_mem _ kI_X3_init)) rfl (by decide +kernel) ⟨(Nat.le_of_ble_eq_true rfl), (Nat.le_of_ble_eq_true rfl)⟩) rfl (Nat.le_of_ble_eq_true rfl) dL_law_4 ⟨(Nat.le_of_ble_eq_true rfl), (Nat.le_of_ble_eq_true rfl)⟩ (fun X1 h1 => ?_) rfl
    obtain ⟨⟨ad1, g, hg, hq0, hd⟩, h14⟩ := h1
    refine hc_astore_n C [(1, .ref q0), (0, .ref b)] dL_law_7 rfl (by decide) rfl ?_
    refine hc_new (fs := [.int 0, .int 0, .int 0, .int 0, .int 0, .null, .null, .null, .null, .null, .null, .int 0, .null, .null, .null, .null, .int 0, .null, .int 0, .null]) (ci := 4) 14 0 C kU_X4 tyX4 tyX4_ok kL_L_65 kP_X4 kN_X4 rfl (fun j hj => by rcases (show j = 0 ∨ j = 1 ∨ j = 2 ∨ j = 3 ∨ j = 4 ∨ j = 5 ∨ j = 6 ∨ j = 7 ∨ j = 8 ∨ j = 9 ∨ j = 10 ∨ j = 11 ∨ j = 12 ∨ j = 13 ∨ j = 14 ∨ j = 15 ∨ j = 16 ∨ j = 17 ∨ j = 18 ∨ j = 19 by omega) with rfl | rfl | rfl | rfl | rfl | rfl | rfl | rfl | rfl | rfl | rfl | rfl | rfl | rfl | rfl | rfl | rfl | rfl | rfl | rfl <;> rfl) (by rw [h14 14 0 (by decide), hc_s_ne _ _ (by decide)]) (by decide) (Nat.le_of_ble_eq_true rfl) (Nat.le_of_ble_eq_true rfl) dL_law_8 (fun q14 => ?_)
    refine hc_dup C dL_law_11 rfl ?_
    refine hc_cI (As := []) (st := [.ref q14]) C (mk_X4 l E _ q14 (hc_s_self _ _ _ _) (fun k h1 h2 => by rw [hc_s_ne _ _ (by omega), h14 k 0 (by omega), hc_s_ne _ _ (by omega)])) (cwI 0 C.1.2.2.2.2 (hr_gI kC_X4_init) rfl rfl rfl (C.1.2.2.2.2 _ (List.mem_cons_of_mem _ kN_X4)) (C.1.2.2.2.2 _ (List.mem_cons_of_mem _ kM_L_67)) (C.1.2.2.2.2 _ (List.mem_cons_of_mem _ kI_X4_init)) rfl (by decide +kernel) ⟨(Nat.le_of_ble_eq_true rfl), (Nat.le_of_ble_eq_true rfl)⟩) rfl (Nat.le_of_ble_eq_true rfl) dL_law_12 ⟨(Nat.le_of_ble_eq_true rfl), (Nat.le_of_ble_eq_true rfl)⟩ (fun X2 h2 => ?_) rfl
    obtain ⟨q15, q16, q17, q18, q19, q20, q21, q22, q23, q24, q25, q26, rfl⟩ := h2
    refine hc_astore_n C [(2, .ref q14), (1, .ref q0), (0, .ref b)] dL_law_15 rfl (by decide) rfl ?_
    refine hc_iconst (v := 1) C dL_law_16 (by decide) ?_
    refine hc_newa (atype := .long) (ty := .long) (N' := 1) (a0 := (1, .inr (.inl (fun _ => 0)))) 2 27 0 C kA_long rfl rfl (fun U cA h => h) (by simp [hc_md, hc_s, h14 27 0 (by decide)]) (by decide) (fun cA => by rw [vp_cell_l]; rfl) (by decide) (by decide) (by decide) (Nat.le_of_ble_eq_true rfl) (Nat.le_of_ble_eq_true rfl) dL_law_17 (fun q27 => ?_)
    refine hc_astore_n C [(3, .ref q27), (2, .ref q14), (1, .ref q0), (0, .ref b)] dL_law_19 rfl (by decide) rfl ?_
    refine hc_iconst (v := 0) C dL_law_20 (by decide) ?_
    refine hc_istore C [(4, .int 0), (3, .ref q27), (2, .ref q14), (1, .ref q0), (0, .ref b)] dL_law_21 (by decide) rfl ?_
    intro H locs ls hP hS hl
    obtain ⟨ad, e0, e14, e27, hD, hPw⟩ := hr_P_done (u := hc_s X1 14 0 (q14, .inr (4, [.int 0, .int 0, .int 0, .int 0, .int 0, .null, .null, .null, .null, .null, .null, .int 0, .null, .null, .null, .null, .int 0, .null, .int 0, .null]))) hP (hc_done_s hd)
    have eE : hc_E E ad = (D, ad, ty, (fun q => s.heap.size ≤ q), sf) := by rw [hE]; rfl
    have C2 : hr_C p s m #[Value.ref b] meth c cL_law RL (Cond.initialized RL) 7 (hc_E E ad) := ⟨⟨hx, hb, hml, hown, hW⟩, hlocks, by rw [eE] at hD ⊢; exact (hK ad).2 hD⟩
    have hA2 : hr_A (hc_E E ad) = fun q => s.heap.size ≤ q := by rw [eE]
    have LP := law_loop (e := e) (below := below) htr C0 C2 (by rw [hA2]; exact Nat.not_le.mpr hbl) (fun q h => by rw [hA2] at h; exact h) hL (L + 4) 0 (hr_S0 g) 0 (by omega) (by omega) (hr_S0_R hg)
    refine LP H locs ls hPw ?_ ?_
    · rw [hA2]; rw [hA] at hS; exact hS
    · have h9 := lv_sub hl [0, 4, 3, 2, 1] rfl
      have a0 : hr_ad (hc_E E ad) 0 0 = q0 := e0.trans hq0
      have a14 : hr_ad (hc_E E ad) 14 0 = q14 := e14
      have a27 : hr_ad (hc_E E ad) 27 0 = q27 := e27
      rw [a0, a14, a27]
      exact h9
  exact key s.heap [] _ ⟨fun k i q h => (nomatch h), fun k i k' i' q q' h => (nomatch h)⟩ va_S.rf hl
