/-! BOTH SIDES, STEP BY STEP -/
def dC (A' A : hr_S) : Prop := (∀ k, k ≠ 6 → k ≠ 7 → A' k = A k) ∧ ∀ p, p ≠ 200 → A' 6 p = A 6 p ∧ A' 7 p = A 7 p
def dM (B' B : hr_S) : Prop := (∀ k, k ≠ 14 → k ≠ 25 → B' k = B k) ∧ ∀ j, j ≠ 16 → B' 14 0 j = B 14 0 j
theorem dC.tr {A B C : hr_S} (h : dC A B) (g : dC B C) : dC A C := ⟨fun k a b => (h.1 k a b).trans (g.1 k a b), fun p hp => ⟨(h.2 p hp).1.trans (g.2 p hp).1, (h.2 p hp).2.trans (g.2 p hp).2⟩⟩
theorem dM.tr {A B C : hr_S} (h : dM A B) (g : dM B C) : dM A C := ⟨fun k a b => (h.1 k a b).trans (g.1 k a b), fun j hj => (h.2 j hj).trans (g.2 j hj)⟩
theorem dC.rf (A : hr_S) : dC A A := ⟨fun _ _ _ => rfl, fun _ _ => ⟨rfl, rfl⟩⟩
theorem dM.rf (A : hr_S) : dM A A := ⟨fun _ _ _ => rfl, fun _ _ => rfl⟩
theorem dC.w {A' A : hr_S} (h : dC A' A) {k j : Nat} {v : Int32} (hk : k = 6 ∨ k = 7) : dC (hr_w A' k 200 j v) A := by
  refine ⟨fun k' h6 h7 => ?_, fun p hp => ⟨?_, ?_⟩⟩
  · funext i j'; rw [hr_w_k _ (by omega), h.1 k' h6 h7]
  · funext j'; rw [hr_w_at, if_neg (fun z => hp z.2.1), (h.2 p hp).1]
  · funext j'; rw [hr_w_at, if_neg (fun z => hp z.2.1), (h.2 p hp).2]
theorem dC_begin (A : hr_S) (a b h : Int32) : dC (pk_begin A 200 a b h) A := by
  unfold pk_begin
  exact ((((dC.rf A).w (by decide)).w (by decide)).w (by decide)).w (by decide)
theorem dC_addE (A : hr_S) (f d t : Int32) : dC (pk_addE A 200 f d t) A := by
  unfold pk_addE pk_add5
  split
  · exact ((((((dC.rf A).w (by decide)).w (by decide)).w (by decide)).w (by decide)).w (by decide)).w (by decide)
  · exact dC.rf A
theorem dM_begin (B : hr_S) (b : Int32) : dM (md_begin B b) B := ⟨fun k h14 h25 => by funext i j; exact md_begin_o h25 (fun z => absurd z h14) i, fun j hj => md_begin_o (by decide) (fun _ => hj) 0⟩
theorem dM_entry (B : hr_S) (n : Nat) (f d t : Int32) : dM (md_entry B n f d t) B := ⟨fun k h14 h25 => by funext i j; exact md_entry_o h25 (fun z => absurd z h14) i, fun j hj => md_entry_o (by decide) (fun _ => hj) 0⟩
theorem rl_draft {A A' B B' : hr_S} (h : rl A B) (hc : hr_CI A') (hm : hr_MI B') (hA : dC A' A) (hB : dM B' B) : rl A' B' := by
  obtain ⟨⟨c, m⟩, t, l, a, n⟩ := h
  exact ⟨⟨hc, hm⟩, rT_cg (fun k h1 h2 => hA.1 k (by omega) (by omega)) (fun k h1 h2 => hB.1 k (by omega) (by omega)) t, rL_cg (hA.1 1 (by decide) (by decide)) (by rw [hA.1 0 (by decide) (by decide)]) (hB.1 15 (by decide) (by decide)) l, rA_cg (by rw [hA.1 3 (by decide) (by decide)]) (hA.1 5 (by decide) (by decide)) (fun p hp => (hA.2 p (by omega)).1) (fun p hp => (hA.2 p (by omega)).2) (hB.2 11 (by decide)) (fun k h1 h2 => hB.1 k (by omega) (by omega)) c a, rN_cg (by rw [hA.1 0 (by decide) (by decide)]) (by rw [hA.1 0 (by decide) (by decide)]) (by rw [hA.1 3 (by decide) (by decide)]) (by rw [hA.1 3 (by decide) (by decide)]) (hB.2 1 (by decide)) (hB.2 2 (by decide)) (hB.2 3 (by decide)) (hB.2 4 (by decide)) n⟩
theorem rC_draft {A A' B B' : hr_S} (h : rC A B) (hA : dC A' A) (hB : dM B' B) : rC A' B' := by
  unfold rC at h ⊢
  rw [(hA.2 201 (by decide)).1, (hA.2 201 (by decide)).2, hB.2 18 (by decide), hB.1 26 (by decide) (by decide)]
  exact h
theorem rQ_m {A B : hr_S} {q : Nat} {a b : Int32} {n : Nat} (h : rQ A B q a b n) (hn : n < 2 ^ 31) : md_m B = n := by unfold md_m; rw [h.2.2.2.1, un_nI hn]
theorem rQ_ent {A B : hr_S} {a b : Int32} {e : Nat} (h : rQ A B 200 a b (4 + 20 * e)) (he : e ≤ 8) : pk_ent A 200 = e := by unfold pk_ent; rw [h.2.2.1, un_nI (by omega)]; omega
/-! telling -/
theorem tlL_d (A : hr_S) (r x : Nat) (ev : Int32) : ∀ d, dC (cl_tlL A r x ev d) A
  | 0 => by
    unfold cl_tlL cl_tl1
    split
    · exact dC_begin _ _ _ _
    · exact (dC_addE _ _ _ _).tr (dC_begin _ _ _ _)
  | d + 1 => by
    unfold cl_tlL
    split
    · exact (dC_addE _ _ _ _).tr (tlL_d A r x ev d)
    · exact tlL_d A r x ev d
theorem tlL_sim {A B : hr_S} (h : rl A B) {r x : Nat} (hr : r < 8) (hx : x < 8) (ev : Int32) : ∀ d, d ≤ 8 → ∃ e, rl (cl_tlL A r x ev d) (md_tlL B r (nI x) ev ev d) ∧ rQ (cl_tlL A r x ev d) (md_tlL B r (nI x) ev ev d) 200 (nI r) (nI x) (4 + 20 * e) ∧ (¬ ev = 0 → 1 ≤ e) ∧ (∀ d', d' < d → cl_tlc A r d' ev → 1 ≤ e) ∧ e ≤ 8
  | 0, _ => by
    have hb := rQ_begin A B (nI r) (nI x) 33685504 2 (Or.inr ⟨rfl, rfl⟩)
    have hbl : rl (pk_begin A 200 (nI r) (nI x) 33685504) (md_begin B 2) := rl_draft h (CI_begin h.1.1 (nb_nI hr (by decide)) (nb_nI hx (by decide))) (MI_begin h.1.2) (dC_begin _ _ _ _) (dM_begin _ _)
    by_cases hev : ev = 0
    · refine ⟨0, ?_, ?_, fun z => absurd hev z, fun d' hd' => absurd hd' (by omega), by omega⟩
      · unfold cl_tlL cl_tl1 md_tlL md_tl1
        rw [if_pos hev, if_pos hev]
        exact hbl
      · unfold cl_tlL cl_tl1 md_tlL md_tl1
        rw [if_pos hev, if_pos hev]
        exact hb
    · refine ⟨1, ?_, ?_, fun _ => by omega, fun d' hd' => absurd hd' (by omega), by omega⟩
      · unfold cl_tlL cl_tl1 md_tlL md_tl1
        rw [if_neg hev, if_neg hev]
        exact rl_draft hbl (CI_addE hbl.1.1) (MI_entry hbl.1.2) (dC_addE _ _ _ _) (dM_entry _ _ _ _ _)
      · unfold cl_tlL cl_tl1 md_tlL md_tl1
        rw [if_neg hev, if_neg hev]
        exact rQ_entry (e := 0) hb (by omega) (Or.inr rfl) hr (nb_nI (n := 1) (by decide) (by decide))
  | d + 1, hd => by
    obtain ⟨e, ih, iq, i1, i2, i8⟩ := tlL_sim h hr hx ev d (by omega)
    have ht := ih.2.1 r d hr (by omega)
    have hc := tlc_iff ht ev
    have hdd := tlL_d A r x ev d
    have hca : cl_tlc (cl_tlL A r x ev d) r d ev ↔ cl_tlc A r d ev := by
      unfold cl_tlc
      rw [hdd.1 13 (by decide) (by decide), hdd.1 9 (by decide) (by decide)]
    by_cases hcc : cl_tlc (cl_tlL A r x ev d) r d ev
    · have hm := rQ_m iq (by omega)
      have hne : ¬ d = r := (hc.mp hcc).1
      have h144 := mk_tlL2 B hr (nI x) ev ev (d := d) (by omega) hne
      rw [hm] at h144
      obtain ⟨et, nt⟩ := told_eq ht (tlc_has ht hcc) (nI x)
      have eA : cl_tlL A r x ev (d + 1) = pk_addE (cl_tlL A r x ev d) 200 2 (nI d) (tb_told (cl_tlL A r x ev d) r d (nI x)) := by
        rw [cl_tlL, if_pos hcc]
      have eB : md_tlL B r (nI x) ev ev (d + 1) = md_entry (md_tlL B r (nI x) ev ev d) (4 + 20 * e) 2 (nI d) (tb_told (cl_tlL A r x ev d) r d (nI x)) := by
        rw [md_tlL, if_pos (hc.mp hcc), hm, et]
      refine ⟨e + 1, ?_, ?_, fun _ => by omega, fun _ _ _ => by omega, by omega⟩
      · rw [eA, eB]
        exact rl_draft ih (CI_addE ih.1.1) (MI_entry ih.1.2) (dC_addE _ _ _ _) (dM_entry _ _ _ _ _)
      · rw [eA, eB]
        exact rQ_entry iq (by omega) (Or.inr rfl) (by omega) nt
    · have eA : cl_tlL A r x ev (d + 1) = cl_tlL A r x ev d := by rw [cl_tlL, if_neg hcc]
      have eB : md_tlL B r (nI x) ev ev (d + 1) = md_tlL B r (nI x) ev ev d := by rw [md_tlL, if_neg (fun z => hcc (hc.mpr z))]
      rw [eA, eB]
      refine ⟨e, ih, iq, i1, fun d' hd' hcd => ?_, i8⟩
      by_cases e2 : d' = d
      · rw [e2] at hcd
        exact absurd (hca.mpr hcd) hcc
      · exact i2 d' (by omega) hcd
theorem tell_sim {A B : hr_S} (h : rl A B) {r x : Nat} (hr : r < 8) (hx : x < 8) {ev : Int32} (hs : ¬ ev = 0 ∨ ∃ d, d < 8 ∧ ¬ A 13 r d = 0) : rl (cl_tell A r x ev) (md_tell B r (nI x) ev ev) := by
  obtain ⟨e, hl, hq, h1, h2, h8⟩ := tlL_sim h hr hx ev 8 (Nat.le_refl 8)
  have he : 1 ≤ e := by
    by_cases hev : ev = 0
    · rcases hs with z | ⟨d, hd, hz⟩
      · exact absurd hev z
      · exact h2 d hd (by unfold cl_tlc; rw [if_pos hev]; exact hz)
    · exact h1 hev
  unfold cl_tell md_tell
  rw [if_pos (by rw [rQ_m hq (by omega)]; omega)]
  exact rl_post hl hq (nb_nI hr (by decide)) (nb_nI hx (by decide)) (by omega) (by decide) (ai_ne hl.1.1 (Nat.le_refl 200))
theorem up_iff {A B : hr_S} (h : rl A B) {r x : Nat} (hr : r < 8) (hx : x < 8) : A 1 0 (r * 8 + x) = B 15 0 ((8 * r) + x) := by
  rw [Nat.mul_comm r 8]
  exact h.2.2.1.1 _ (by omega)
theorem tt_k (A : hr_S) (r : Nat) (ev : Int32) : ∀ n, cl_tt A r ev n 13 = A 13
  | 0 => rfl
  | n + 1 => by
    unfold cl_tt
    split
    · unfold cl_tell
      rw [launch_k _ _ (by decide) (by decide) (by decide), (tlL_d _ _ _ _ _).1 13 (by decide) (by decide)]
      exact tt_k A r ev n
    · exact tt_k A r ev n
theorem tt_sim {A B : hr_S} (h : rl A B) {r : Nat} (hr : r < 8) {ev : Int32} (hs : ¬ ev = 0 ∨ ∃ d, d < 8 ∧ ¬ A 13 r d = 0) : ∀ n, n ≤ 8 → rl (cl_tt A r ev n) (md_trL B r ev n)
  | 0, _ => h
  | n + 1, hn => by
    have ih := tt_sim h hr hs n (by omega)
    have hu := up_iff ih hr (show n < 8 by omega)
    unfold cl_tt md_trL
    rw [hu]
    split
    · exact tell_sim ih hr (by omega) (by rw [tt_k]; exact hs)
    · exact ih
theorem turn1_sim {A B : hr_S} (h : rl A B) {r : Nat} (hr : r < 8) : rl (cl_turn1 A r) (md_tr B r) := by
  have et : cl_ten A r = md_ten B r := by unfold cl_ten md_ten; rw [h.2.2.2.2.1]
  have ea := any_eq h.2.1 hr 8 (Nat.le_refl 8)
  unfold cl_turn1 md_tr
  rw [et, ea]
  by_cases h0 : md_ten B r = 0
  · rw [if_pos h0, if_pos h0]
    exact rl_clr (tt_sim h hr (Or.inl (by decide)) 8 (Nat.le_refl 8)) hr 8 (Nat.le_refl 8)
  · rw [if_neg h0, if_neg h0]
    by_cases h1 : md_some B r 8 = true
    · rw [if_pos h1, if_pos h1]
      exact rl_clr (tt_sim h hr (Or.inr (any_some 8 (by rw [ea]; exact h1))) 8 (Nat.le_refl 8)) hr 8 (Nat.le_refl 8)
    · rw [if_neg h1, if_neg h1]
      exact rl_clr0 h hr (any_none 8 (by rw [ea]; exact h1)) 8 (Nat.le_refl 8)
theorem t_sim {A B : hr_S} (h : rl A B) : ∀ r, r ≤ 8 → rl (cl_t A r) (md_t B r)
  | 0, _ => h
  | r + 1, hr => turn1_sim (t_sim h r (by omega)) (by omega)
/-- one number of each, that nothing else reads -/
theorem rl_num {A B : hr_S} (h : rl A B) {ka ja jb : Nat} {va vb : Int32} (hk : (ka = 0 ∧ ja = 5 ∧ jb = 1) ∨ (ka = 0 ∧ ja = 7 ∧ jb = 4) ∨ (ka = 3 ∧ ja = 4 ∧ jb = 2)) (hv : va = vb) : rl (hr_w A ka 0 ja va) (hr_w B 14 0 jb vb) := by
  subst hv
  obtain ⟨⟨c, m⟩, t, l, a, n1, n2, n3, n4⟩ := h
  have hA : ∀ k, k ≠ 0 → k ≠ 3 → hr_w A ka 0 ja va k = A k := fun k h0 h3 => by funext i j; exact hr_w_k _ (by omega) i j
  have hB : ∀ k, k ≠ 14 → hr_w B 14 0 jb va k = B k := fun k h0 => by funext i j; exact hr_w_k _ h0 i j
  refine ⟨⟨CI_o c (by omega) (by omega) (by omega) (by omega) (by omega), MI_o m (by omega) (by omega) (by omega) (by omega) (by omega) (by omega)⟩, rT_cg (fun k h1 h2 => hA k (by omega) (by omega)) (fun k h1 h2 => hB k (by omega)) t, rL_cg (hA 1 (by decide) (by decide)) ?_ (hB 15 (by decide)) l, rA_cg ?_ (hA 5 (by decide) (by decide)) (fun p _ => by rw [hA 6 (by decide) (by decide)]) (fun p _ => by rw [hA 7 (by decide) (by decide)]) ?_ (fun k h1 h2 => hB k (by omega)) c a, ?_⟩
  · rw [hr_w_at, if_neg (by omega)]
  · rw [hr_w_at, if_neg (by omega)]
  · rw [hr_w_at, if_neg (by omega)]
  · unfold rN
    rcases hk with ⟨rfl, rfl, rfl⟩ | ⟨rfl, rfl, rfl⟩ | ⟨rfl, rfl, rfl⟩ <;> simp [hr_w_at, n1, n2, n3, n4]
theorem pass_sim {A B : hr_S} (h : rl A B) : rl (cl_pass A) (md_turn B) := by
  have h0 : rl (hr_w A 0 0 5 (A 0 0 5 + 1)) (hr_w B 14 0 1 (B 14 0 1 + 1)) := rl_num h (Or.inl ⟨rfl, rfl, rfl⟩) (by rw [h.2.2.2.2.1])
  exact t_sim (rl_g h0 8 (Nat.le_refl 8)) 8 (Nat.le_refl 8)
/-! what has come is answered, or heard -/
theorem anL_sim {A B : hr_S} (h : rl A B) (hC : rC A B) {r : Nat} (hr : r < 8) {a b : Int32} (hq0 : rQ A B 200 a b 4) : ∀ j, j ≤ (un (A 6 201 2) - 4) / 20 → ∃ e, rl (cl_anL A r j) (md_anL B r j) ∧ rC (cl_anL A r j) (md_anL B r j) ∧ rQ (cl_anL A r j) (md_anL B r j) 200 a b (4 + 20 * e) ∧ e ≤ j ∧ dC (cl_anL A r j) A
  | 0, _ => ⟨0, h, hC, hq0, Nat.le_refl 0, dC.rf A⟩
  | j + 1, hj => by
    obtain ⟨e, ih, ic, iq, ie, id⟩ := anL_sim h hC hr hq0 j (by omega)
    have hlen : un (A 6 201 2) < 165 := (h.1.1.2.2.2.1 201 (by decide)).2.2.2
    have e6 : cl_anL A r j 6 201 2 = A 6 201 2 := by rw [(id.2 201 (by decide)).1]
    have hfit : 4 + 20 * j + 20 ≤ un (cl_anL A r j 6 201 2) := by rw [e6]; omega
    have hs := sE_iff ic hfit
    by_cases hc : pk_sE (cl_anL A r j) 201 j
    · obtain ⟨d1, d2, d3, d4, d5⟩ := sE_dst ic hfit hc
      have hm := rQ_m iq (by omega)
      have hd8 := d3.2
      obtain ⟨em, nm⟩ := mans_eq (ih.2.1 r (un (pk_dst (cl_anL A r j) 201 j)) hr hd8)
      have eA : cl_anL A r (j + 1) = pk_addE (cl_anL A r j) 200 2 (nI (un (pk_dst (cl_anL A r j) 201 j))) (cl_mans (cl_anL A r j) r (un (pk_dst (cl_anL A r j) 201 j))) := by rw [cl_anL, if_pos hc]
      have eB : md_anL B r (j + 1) = md_entry (md_anL B r j) (4 + 20 * e) 2 (nI (un (pk_dst (cl_anL A r j) 201 j))) (cl_mans (cl_anL A r j) r (un (pk_dst (cl_anL A r j) 201 j))) := by rw [md_anL, if_pos (hs.mp hc), hm, ← d1, em]
      rw [eA, eB]
      exact ⟨e + 1, rl_draft ih (CI_addE ih.1.1) (MI_entry ih.1.2) (dC_addE _ _ _ _) (dM_entry _ _ _ _ _), rC_draft ic (dC_addE _ _ _ _) (dM_entry _ _ _ _ _), rQ_entry iq (by omega) (Or.inr rfl) hd8 nm, by omega, (dC_addE _ _ _ _).tr id⟩
    · have eA : cl_anL A r (j + 1) = cl_anL A r j := by rw [cl_anL, if_neg hc]
      have eB : md_anL B r (j + 1) = md_anL B r j := by rw [md_anL, if_neg (fun z => hc (hs.mpr z))]
      rw [eA, eB]
      exact ⟨e, ih, ic, iq, by omega, id⟩
theorem ans_sim {A B : hr_S} (h : rl A B) (hC : rC A B) (hs : pk_snd A 201) {a r : Nat} (ha : A 6 201 0 = nI a) (hr : A 6 201 1 = nI r) (ha8 : a < 8) (hr8 : r < 8) : rl (cl_ans A) (md_ans B r (nI a)) := by
  have ua : un (A 6 201 0) = a := by rw [ha, un_nI (by omega)]
  have ur : un (A 6 201 1) = r := by rw [hr, un_nI (by omega)]
  have hall := all_iff hC hs
  by_cases hc : pk_all A 201
  · have eA : cl_ans A = cl_tell A r a 1 := by unfold cl_ans; rw [if_pos hc, ua, ur]
    have eB : md_ans B r (nI a) = md_tell B r (nI a) 1 1 := by unfold md_ans; rw [if_pos (hall.mp hc)]
    rw [eA, eB]
    exact tell_sim h hr8 ha8 (Or.inl (by decide))
  · have hb := rQ_begin A B (nI r) (nI a) 33685504 2 (Or.inr ⟨rfl, rfl⟩)
    have hbl : rl (pk_begin A 200 (nI r) (nI a) 33685504) (md_begin B 2) := rl_draft h (CI_begin h.1.1 (nb_nI hr8 (by decide)) (nb_nI ha8 (by decide))) (MI_begin h.1.2) (dC_begin _ _ _ _) (dM_begin _ _)
    have hbc : rC (pk_begin A 200 (nI r) (nI a) 33685504) (md_begin B 2) := rC_draft hC (dC_begin _ _ _ _) (dM_begin _ _)
    have e6 : pk_begin A 200 (nI r) (nI a) 33685504 6 201 2 = A 6 201 2 := by rw [((dC_begin A (nI r) (nI a) 33685504).2 201 (by decide)).1]
    obtain ⟨e, hl, -, hq, he, -⟩ := anL_sim hbl hbc hr8 hb ((un (A 6 201 2) - 4) / 20) (by rw [e6]; exact Nat.le_refl _)
    have hlen : un (A 6 201 2) < 165 := (h.1.1.2.2.2.1 201 (by decide)).2.2.2
    have e8 : e ≤ 8 := by omega
    have eA1 : cl_ans1 A = cl_anL (pk_begin A 200 (nI r) (nI a) 33685504) r ((un (A 6 201 2) - 4) / 20) := by unfold cl_ans1 pk_ent; rw [ua, ur]
    have eB1 : md_ans1 B r = md_anL (md_begin B 2) r ((un (A 6 201 2) - 4) / 20) := by unfold md_ans1; rw [md_c_rC hC]
    have eA : cl_ans A = if 0 < pk_ent (cl_ans1 A) 200 then ai_launch (cl_ans1 A) 200 else cl_ans1 A := by unfold cl_ans; rw [if_neg hc]
    have eB : md_ans B r (nI a) = if 4 < md_m (md_ans1 B r) then md_post (md_ans1 B r) (nI r) (nI a) else md_ans1 B r := by unfold md_ans; rw [if_neg (fun z => hc (hall.mpr z))]
    rw [eA, eB, eA1, eB1, rQ_ent hq e8, rQ_m hq (by omega)]
    by_cases h0 : 0 < e
    · rw [if_pos h0, if_pos (by omega)]
      exact rl_post hl hq (nb_nI hr8 (by decide)) (nb_nI ha8 (by decide)) (by omega) (by decide) (ai_ne hl.1.1 (Nat.le_refl 200))
    · rw [if_neg h0, if_neg (by omega)]
      exact hl
theorem hear_lo (A : hr_S) (t d : Nat) (a b : Int32) {k : Nat} (hk : k < 9) : tb_hear A t d a b k = A k := (tC_hear A t d a b).2 k hk
theorem hrL_lo (A : hr_S) (r : Nat) {k : Nat} (hk : k < 9) : ∀ j, cl_hrL A r j k = A k
  | 0 => rfl
  | j + 1 => by
    unfold cl_hrL
    split
    · rw [hear_lo _ _ _ _ _ hk]; exact hrL_lo A r hk j
    · exact hrL_lo A r hk j
theorem hrL_sim {A B : hr_S} (h : rl A B) (hC : rC A B) {a r : Nat} (ha : A 6 201 0 = nI a) (hr : A 6 201 1 = nI r) (ha8 : a < 8) (hr8 : r < 8) : ∀ j, j ≤ (un (A 6 201 2) - 4) / 20 → rl (cl_hrL A r j) (md_hrL B r (nI a) j)
  | 0, _ => h
  | j + 1, hj => by
    have ih := hrL_sim h hC ha hr ha8 hr8 j (by omega)
    have e6 : cl_hrL A r j 6 = A 6 := hrL_lo A r (by decide) j
    have e7 : cl_hrL A r j 7 = A 7 := hrL_lo A r (by decide) j
    have ic : rC (cl_hrL A r j) (md_hrL B r (nI a) j) := by
      unfold rC at hC ⊢
      rw [e6, e7]
      have f14 : md_hrL B r (nI a) j 14 0 18 = B 14 0 18 := md_hrL_o (by omega) _ _ j
      refine ⟨by rw [f14]; exact hC.1, fun i hi => ?_⟩
      rw [md_hrL_o (by omega) _ _ j]
      exact hC.2 i hi
    have hfit : 4 + 20 * j + 20 ≤ un (cl_hrL A r j 6 201 2) := by rw [e6]; omega
    have hs := sE_iff ic hfit
    by_cases hc : pk_sE (cl_hrL A r j) 201 j
    · obtain ⟨d1, d2, d3, d4, d5⟩ := sE_dst ic hfit hc
      by_cases he : pk_dst (cl_hrL A r j) 201 j = nI r
      · have eA : cl_hrL A r (j + 1) = cl_hrL A r j := by rw [cl_hrL, if_neg (fun z => z.2 (by rw [e6, hr]; exact he))]
        have eB : md_hrL B r (nI a) (j + 1) = md_hrL B r (nI a) j := by rw [md_hrL, if_neg (fun z => z.2 (by rw [← d1]; exact he))]
        rw [eA, eB]
        exact ih
      · have eA : cl_hrL A r (j + 1) = tb_hear (cl_hrL A r j) r (un (pk_dst (cl_hrL A r j) 201 j)) (pk_met (cl_hrL A r j) 201 j) (nI a) := by
          rw [cl_hrL, if_pos ⟨hc, fun z => he (by rw [e6, hr] at z; exact z)⟩, e6, ha]
        have eB : md_hrL B r (nI a) (j + 1) = md_hear (md_hrL B r (nI a) j) (8 * r + un (pk_dst (cl_hrL A r j) 201 j)) (nI a) (pk_met (cl_hrL A r j) 201 j) := by
          rw [md_hrL, if_pos ⟨hs.mp hc, fun z => he (by rw [d1]; exact z)⟩, d1, d2]
        rw [eA, eB]
        exact rl_hear ih hr8 d3.2 (fun z => he (by rw [d3.1, ← z])) d4 d5 (nb_nI ha8 (by decide))
    · have eA : cl_hrL A r (j + 1) = cl_hrL A r j := by rw [cl_hrL, if_neg (fun z => hc z.1)]
      have eB : md_hrL B r (nI a) (j + 1) = md_hrL B r (nI a) j := by rw [md_hrL, if_neg (fun z => hc (hs.mpr z.1))]
      rw [eA, eB]
      exact ih
theorem in_sim {A B : hr_S} (h : rl A B) (hC : rC A B) {a r : Nat} (ha : A 6 201 0 = nI a) (hr : A 6 201 1 = nI r) (ha8 : a < 8) (hr8 : r < 8) : rl (cl_in A) (md_in B a r) := by
  have ua : un (A 6 201 0) = a := by rw [ha, un_nI (by omega)]
  have ur : un (A 6 201 1) = r := by rw [hr, un_nI (by omega)]
  have hu := up_iff h ha8 hr8
  unfold cl_in md_in
  by_cases hup : B 15 0 ((8 * a) + r) = 0
  · rw [if_neg (show ¬ cl_up A by unfold cl_up; rw [ua, ur, hu]; exact not_not_intro hup), if_pos hup]
    exact rl_num h (Or.inr (Or.inr ⟨rfl, rfl, rfl⟩)) (by rw [h.2.2.2.2.2.2.1])
  · rw [if_pos (show cl_up A by unfold cl_up; rw [ua, ur, hu]; exact hup), if_neg hup]
    by_cases hs : pk_snd A 201
    · rw [if_pos hs, if_pos ((snd_iff hC).mp hs)]
      have hq := req_iff hC hs
      by_cases h1 : A 7 201 0 = 16908288
      · rw [if_pos h1, if_pos (hq.mp h1)]
        exact ans_sim h hC hs ha hr ha8 hr8
      · rw [if_neg h1, if_neg (fun z => h1 (hq.mpr z))]
        unfold cl_hr md_hr pk_ent
        rw [ur, md_c_rC hC]
        exact hrL_sim h hC ha hr ha8 hr8 _ (Nat.le_refl _)
    · rw [if_neg hs, if_neg (fun z => hs ((snd_iff hC).mpr z))]
      exact rl_num h (Or.inr (Or.inl ⟨rfl, rfl, rfl⟩)) (by rw [h.2.2.2.2.2.2.2])
theorem bring_sim {A B : hr_S} (h : rl A B) {k : Nat} (hk : k < ai_n A) : rl (cl_bring A k) (md_arr B k) := by
  obtain ⟨h1, h2, h3, h4⟩ := rl_come h hk
  have hn : ai_n A < 201 := h.1.1.1.2
  obtain ⟨b1, b2, -⟩ := h.1.2.2.1 k (by omega)
  unfold cl_bring md_arr
  exact in_sim h1 h2 (h3.trans b1.1) (h4.trans b2.1) b1.2 b2.2
theorem n_eq {A B : hr_S} (h : rl A B) : ai_n A = md_n B := by unfold ai_n md_n; rw [h.2.2.2.1.1]
theorem dr_sim : ∀ (c : Nat) {A B : hr_S}, rl A B → rl (cl_dr c A) (md_dr c B)
  | 0, _, _, h => h
  | c + 1, A, B, h => by
    unfold cl_dr md_dr
    rw [← n_eq h]
    split
    · next hn => exact dr_sim c (bring_sim h hn)
    · exact h
theorem tick_sim {A B : hr_S} (h : rl A B) (al : Int32) : ∀ n, rl (cl_tick A al n) (md_tick B al n)
  | 0 => h
  | n + 1 => by
    have ih := pass_sim (tick_sim h al n)
    unfold cl_tick md_tick cl_tk1 md_tk1'
    split
    · exact ih
    · exact dr_sim 1000 ih
/-! restart and ask -/
theorem rs1_sim {A B : hr_S} (h : rl A B) {r x : Nat} (hr : r < 8) (hx : x < 8) : rl (cl_rs1 A r x) (md_rs1 B r x) := by
  have hb := rQ_begin A B (nI r) (nI x) 16908288 1 (Or.inl ⟨rfl, rfl⟩)
  have hbl : rl (pk_begin A 200 (nI r) (nI x) 16908288) (md_begin B 1) := rl_draft h (CI_begin h.1.1 (nb_nI hr (by decide)) (nb_nI hx (by decide))) (MI_begin h.1.2) (dC_begin _ _ _ _) (dM_begin _ _)
  have hq := rQ_entry (e := 0) hb (by omega) (f := 0) (t := 16) (d := 0) (Or.inl rfl) (by decide) (nb_nI (n := 16) (by decide) (by decide))
  have hl : rl (pk_addE (pk_begin A 200 (nI r) (nI x) 16908288) 200 0 0 16) (md_entry (md_begin B 1) 4 0 0 16) := rl_draft hbl (CI_addE hbl.1.1) (MI_entry hbl.1.2) (dC_addE _ _ _ _) (dM_entry _ _ _ _ _)
  unfold cl_rs1 md_rs1
  exact rl_post hl hq (nb_nI hr (by decide)) (nb_nI hx (by decide)) (by omega) (by decide) (ai_ne hl.1.1 (Nat.le_refl 200))
theorem rsL_sim {A B : hr_S} (h : rl A B) {r : Nat} (hr : r < 8) : ∀ x, x ≤ 8 → rl (cl_rsL A r x) (md_rsL B r x)
  | 0, _ => h
  | x + 1, hx => by
    have ih := rsL_sim h hr x (by omega)
    have hu := up_iff ih hr (show x < 8 by omega)
    unfold cl_rsL md_rsL
    rw [hu]
    split
    · exact rs1_sim ih hr (by omega)
    · exact ih
theorem askL_sim {A B : hr_S} (h : rl A B) {r x : Nat} (hr : r < 8) (hx : x < 8) (ds : Int32) : ∀ d, d ≤ 8 → ∃ e, rl (cl_askL A r x ds d) (md_asL B ds d) ∧ rQ (cl_askL A r x ds d) (md_asL B ds d) 200 (nI r) (nI x) (4 + 20 * e) ∧ e ≤ d
  | 0, _ => ⟨0, rl_draft h (CI_begin h.1.1 (nb_nI hr (by decide)) (nb_nI hx (by decide))) (MI_begin h.1.2) (dC_begin _ _ _ _) (dM_begin _ _), rQ_begin A B (nI r) (nI x) 16908288 1 (Or.inl ⟨rfl, rfl⟩), Nat.le_refl 0⟩
  | d + 1, hd => by
    obtain ⟨e, ih, iq, ie⟩ := askL_sim h hr hx ds d (by omega)
    by_cases hc : ((ds >>> (nI d &&& 31)) &&& 1) = 1
    · have eA : cl_askL A r x ds (d + 1) = pk_addE (cl_askL A r x ds d) 200 2 (nI d) 16 := by rw [cl_askL, if_pos hc]
      have eB : md_asL B ds (d + 1) = md_entry (md_asL B ds d) (4 + 20 * e) 2 (nI d) 16 := by rw [md_asL, if_pos hc, rQ_m iq (by omega)]
      rw [eA, eB]
      exact ⟨e + 1, rl_draft ih (CI_addE ih.1.1) (MI_entry ih.1.2) (dC_addE _ _ _ _) (dM_entry _ _ _ _ _), rQ_entry iq (by omega) (Or.inr rfl) (by omega) (nb_nI (n := 16) (by decide) (by decide)), by omega⟩
    · have eA : cl_askL A r x ds (d + 1) = cl_askL A r x ds d := by rw [cl_askL, if_neg hc]
      have eB : md_asL B ds (d + 1) = md_asL B ds d := by rw [md_asL, if_neg hc]
      rw [eA, eB]
      exact ⟨e, ih, iq, by omega⟩
theorem ask_sim {A B : hr_S} (h : rl A B) {r x : Nat} (hr : r < 8) (hx : x < 8) (ds : Int32) : rl (ai_launch (cl_askL A r x ds 8) 200) (md_post (md_asL B ds 8) (nI r) (nI x)) := by
  obtain ⟨e, hl, hq, he⟩ := askL_sim h hr hx ds 8 (Nat.le_refl 8)
  exact rl_post hl hq (nb_nI hr (by decide)) (nb_nI hx (by decide)) (by omega) (by decide) (ai_ne hl.1.1 (Nat.le_refl 200))
