/-! frames: the class's steps leave the model's numbers alone, the model's steps the class's and 'thrown' -/
def fM (A B : hr_S) : Prop := eqC A B ∧ A 14 0 0 = B 14 0 0
theorem fM.rf (A : hr_S) : fM A A := ⟨eqC.rf A, rfl⟩
theorem fM.tr {A B C : hr_S} (h : fM A B) (g : fM B C) : fM A C := ⟨h.1.tr g.1, h.2.trans g.2⟩
theorem fM.w {A B : hr_S} (h : fM A B) {k i j : Nat} {v : Int32} (hk : 14 ≤ k) (hj : k = 14 → j ≠ 0) : fM (hr_w A k i j v) B := ⟨h.1.w hk, by rw [hr_w_at, if_neg (fun z => hj z.1.symm z.2.2.symm)]; exact h.2⟩
theorem fC_adopt (S : hr_S) (t d : Nat) (a b : Int32) : eqM (tb_adopt S t d a b) S := by
  unfold tb_adopt
  (repeat' (first | exact eqM.rf _ | assumption | (refine eqM.w ?_ (by decide)) | (refine eqM.wA ?_ (by decide)) | split))
theorem fC_gone (S : hr_S) (t d : Nat) : eqM (tb_gone S t d) S := by
  unfold tb_gone
  (repeat' (first | exact eqM.rf _ | assumption | (refine eqM.w ?_ (by decide)) | (refine eqM.wA ?_ (by decide)) | split))
theorem fC_forget (S : hr_S) (t d : Nat) : eqM (tb_forget S t d) S := by
  unfold tb_forget
  (repeat' (first | exact eqM.rf _ | assumption | (refine eqM.w ?_ (by decide)) | (refine eqM.wA ?_ (by decide)) | split))
theorem fC_hear (S : hr_S) (t d : Nat) (a b : Int32) : eqM (tb_hear S t d a b) S := by
  unfold tb_hear tb_hfn tb_hfn1 tb_gone tb_adopt
  (repeat' (first | exact eqM.rf _ | assumption | (refine eqM.w ?_ (by decide)) | (refine eqM.wA ?_ (by decide)) | split))
theorem fC_age (S : hr_S) (t d : Nat) : eqM (tb_age S t d) S := by
  unfold tb_age tb_gone tb_forget tb_age2 tb_age1
  (repeat' (first | exact eqM.rf _ | assumption | (refine eqM.w ?_ (by decide)) | (refine eqM.wA ?_ (by decide)) | split))
theorem fC_grow (S : hr_S) (t : Nat) : ∀ n, eqM (tb_grow S t n) S
  | 0 => eqM.rf S
  | n + 1 => by
    unfold tb_grow
    split
    · exact (fC_age _ _ _).tr (fC_grow S t n)
    · exact fC_grow S t n
theorem fC_fall (S : hr_S) (t : Nat) : ∀ n, eqM (tb_fall S t n) S
  | 0 => eqM.rf S
  | n + 1 => by
    unfold tb_fall
    exact (fC_forget _ _ _).tr (fC_fall S t n)
theorem fC_clr (S : hr_S) (t : Nat) : ∀ n, eqM (tb_clr S t n) S
  | 0 => eqM.rf S
  | n + 1 => by
    unfold tb_clr
    exact eqM.w (fC_clr S t n) (by decide)
theorem fC_lose (S : hr_S) (t : Nat) (x : Int32) : ∀ n, eqM ((tb_lose S t x n).1) S
  | 0 => eqM.rf S
  | n + 1 => by
    unfold tb_lose
    split
    · exact (fC_gone _ _ _).tr (fC_lose S t x n)
    · exact fC_lose S t x n
theorem fC_begin (S : hr_S) (i : Nat) (a b h : Int32) : eqM (pk_begin S i a b h) S := by
  unfold pk_begin
  (repeat' (first | exact eqM.rf _ | assumption | (refine eqM.w ?_ (by decide)) | (refine eqM.wA ?_ (by decide)) | split))
theorem fC_addE (S : hr_S) (i : Nat) (f d t : Int32) : eqM (pk_addE S i f d t) S := by
  unfold pk_addE pk_add5
  (repeat' (first | exact eqM.rf _ | assumption | (refine eqM.w ?_ (by decide)) | (refine eqM.wA ?_ (by decide)) | split))
theorem fC_become (S : hr_S) (i j : Nat) : eqM (pk_become S i j) S := by
  unfold pk_become
  (repeat' (first | exact eqM.rf _ | assumption | (refine eqM.w ?_ (by decide)) | (refine eqM.wA ?_ (by decide)) | split))
theorem fC_launch (S : hr_S) (q : Nat) : eqM (ai_launch S q) S := by
  unfold ai_launch pk_become
  (repeat' (first | exact eqM.rf _ | assumption | (refine eqM.w ?_ (by decide)) | (refine eqM.wA ?_ (by decide)) | split))
theorem fC_remove (S : hr_S) (k : Nat) : eqM (ai_remove S k) S := by
  unfold ai_remove
  (repeat' (first | exact eqM.rf _ | assumption | (refine eqM.w ?_ (by decide)) | (refine eqM.wA ?_ (by decide)) | split))
theorem fC_tl1 (S : hr_S) (r x : Nat) (ev : Int32) : eqM (cl_tl1 S r x ev) S := by
  unfold cl_tl1
  split
  · exact fC_begin _ _ _ _ _
  · exact (fC_addE _ _ _ _ _).tr (fC_begin _ _ _ _ _)
theorem fC_tlL (S : hr_S) (r x : Nat) (ev : Int32) : ∀ n, eqM (cl_tlL S r x ev n) S
  | 0 => fC_tl1 S r x ev
  | n + 1 => by
    unfold cl_tlL
    split
    · exact (fC_addE _ _ _ _ _).tr (fC_tlL S r x ev n)
    · exact fC_tlL S r x ev n
theorem fC_tell (S : hr_S) (r x : Nat) (ev : Int32) : eqM (cl_tell S r x ev) S := (fC_launch _ _).tr (fC_tlL S r x ev 8)
theorem fC_tt (S : hr_S) (r : Nat) (ev : Int32) : ∀ n, eqM (cl_tt S r ev n) S
  | 0 => eqM.rf S
  | n + 1 => by
    unfold cl_tt
    split
    · exact (fC_tell _ _ _ _).tr (fC_tt S r ev n)
    · exact fC_tt S r ev n
theorem fC_turn1 (S : hr_S) (r : Nat) : eqM (cl_turn1 S r) S := by
  unfold cl_turn1
  split
  · exact (fC_clr _ _ _).tr (fC_tt _ _ _ _)
  · split
    · exact (fC_clr _ _ _).tr (fC_tt _ _ _ _)
    · exact eqM.rf S
theorem fC_g (S : hr_S)  : ∀ n, eqM (cl_g S n) S
  | 0 => eqM.rf S
  | n + 1 => by
    unfold cl_g
    exact (fC_grow _ _ _).tr (fC_g S n)
theorem fC_t (S : hr_S)  : ∀ n, eqM (cl_t S n) S
  | 0 => eqM.rf S
  | n + 1 => by
    unfold cl_t
    exact (fC_turn1 _ _).tr (fC_t S n)
theorem fC_pass (S : hr_S) : eqM (cl_pass S) S := (fC_t _ 8).tr ((fC_g _ 8).tr (eqM.w (eqM.rf S) (by decide)))
theorem fC_anL (S : hr_S) (r : Nat) : ∀ n, eqM (cl_anL S r n) S
  | 0 => eqM.rf S
  | n + 1 => by
    unfold cl_anL
    split
    · exact (fC_addE _ _ _ _ _).tr (fC_anL S r n)
    · exact fC_anL S r n
theorem fC_ans1 (S : hr_S) : eqM (cl_ans1 S) S := (fC_anL _ _ _).tr (fC_begin _ _ _ _ _)
theorem fC_ans (S : hr_S) : eqM (cl_ans S) S := by
  unfold cl_ans
  split
  · exact fC_tell _ _ _ _
  · split
    · exact (fC_launch _ _).tr (fC_ans1 S)
    · exact fC_ans1 S
theorem fC_hrL (S : hr_S) (r : Nat) : ∀ n, eqM (cl_hrL S r n) S
  | 0 => eqM.rf S
  | n + 1 => by
    unfold cl_hrL
    split
    · exact (fC_hear _ _ _ _ _).tr (fC_hrL S r n)
    · exact fC_hrL S r n
theorem fC_take (S : hr_S) (k : Nat) : eqM (cl_take S k) S := (fC_remove _ _).tr (fC_become _ _ _)
theorem fC_in (S : hr_S) : eqM (cl_in S) S := by
  unfold cl_in
  split
  · split
    · split
      · exact fC_ans S
      · exact fC_hrL _ _ _
    · exact eqM.w (eqM.rf S) (by decide)
  · exact eqM.w (eqM.rf S) (by decide)
theorem fC_bring (S : hr_S) (k : Nat) : eqM (cl_bring S k) S := (fC_in _).tr (fC_take S k)
theorem fC_link (S : hr_S) (a b : Nat) (up : Int32) : eqM (cl_link S a b up) S := by
  unfold cl_link cl_lk0
  exact eqM.w (eqM.w (eqM.w (eqM.rf S) (by decide)) (by decide)) (by decide)
theorem fC_rs1 (S : hr_S) (r x : Nat) : eqM (cl_rs1 S r x) S := (fC_launch _ _).tr ((fC_addE _ _ _ _ _).tr (fC_begin _ _ _ _ _))
theorem fC_rsL (S : hr_S) (r : Nat) : ∀ n, eqM (cl_rsL S r n) S
  | 0 => eqM.rf S
  | n + 1 => by
    unfold cl_rsL
    split
    · exact (fC_rs1 _ _ _).tr (fC_rsL S r n)
    · exact fC_rsL S r n
theorem fC_askL (S : hr_S) (r x : Nat) (ds : Int32) : ∀ n, eqM (cl_askL S r x ds n) S
  | 0 => fC_begin _ _ _ _ _
  | n + 1 => by
    unfold cl_askL
    split
    · exact (fC_addE _ _ _ _ _).tr (fC_askL S r x ds n)
    · exact fC_askL S r x ds n
theorem fC_dr : ∀ (c : Nat) (S : hr_S), eqM (cl_dr c S) S
  | 0, S => eqM.rf S
  | c + 1, S => by
    unfold cl_dr
    split
    · exact (fC_dr c _).tr (fC_bring S 0)
    · exact eqM.rf S
theorem fC_tick (S : hr_S) (al : Int32) : ∀ n, eqM (cl_tick S al n) S
  | 0 => eqM.rf S
  | n + 1 => by
    unfold cl_tick cl_tk1
    split
    · exact (fC_pass _).tr (fC_tick S al n)
    · exact (fC_dr _ _).tr ((fC_pass _).tr (fC_tick S al n))
theorem fD_put (S : hr_S) (n : Nat) (b : Int32) : fM (md_put S n b) S := by
  unfold md_put
  (repeat' (first | exact fM.rf _ | assumption | (refine fM.w ?_ (by omega) (by omega)) | split))
theorem fD_begin (S : hr_S) (b : Int32) : fM (md_begin S b) S := (fD_put _ _ _).tr ((fD_put _ _ _).tr ((fD_put _ _ _).tr ((fD_put _ _ _).tr (fM.w (fM.rf S) (by omega) (by omega)))))
theorem fD_zero (S : hr_S) (m : Nat) : ∀ n, fM (md_zero S m n) S
  | 0 => fM.rf S
  | n + 1 => by
    unfold md_zero
    exact (fD_put _ _ _).tr (fD_zero S m n)
theorem fD_ent1 (S : hr_S) (n : Nat) (f d : Int32) : fM (md_ent1 S n f d) S := by
  unfold md_ent1
  repeat (refine (fD_put _ _ _).tr ?_)
  exact fM.rf S
theorem fD_entry (S : hr_S) (n : Nat) (f d t : Int32) : fM (md_entry S n f d t) S := (fD_put _ _ _).tr ((fD_zero _ _ _).tr (fD_ent1 _ _ _ _))
theorem fD_cpL (S : hr_S) (q : Nat) : ∀ n, fM (md_cpL S q n) S
  | 0 => fM.rf S
  | n + 1 => by
    unfold md_cpL
    exact fM.w (fD_cpL S q n) (by omega) (by omega)
theorem fD_post (S : hr_S) (a b : Int32) : fM (md_post S a b) S := by
  unfold md_post
  split
  · exact fM.w (fM.w (fM.rf S) (by omega) (by omega)) (by omega) (by omega)
  · refine fM.w ((fD_cpL _ _ _).tr ?_) (by omega) (by omega)
    unfold md_pst1
    exact fM.w (fM.w (fM.w (fM.w (fM.rf S) (by omega) (by omega)) (by omega) (by omega)) (by omega) (by omega)) (by omega) (by omega)
theorem fD_tkI (S : hr_S) (q : Nat) : ∀ n, fM (md_tkI S q n) S
  | 0 => fM.rf S
  | n + 1 => by
    unfold md_tkI
    exact fM.w (fD_tkI S q n) (by omega) (by omega)
theorem fD_tkL (S : hr_S) (k : Nat) : ∀ n, fM (md_tkL S k n) S
  | 0 => fM.rf S
  | n + 1 => by
    unfold md_tkL
    refine (fD_tkI _ _ _).tr ?_
    unfold md_tk1
    exact fM.w (fM.w (fM.w (fD_tkL S k n) (by omega) (by omega)) (by omega) (by omega)) (by omega) (by omega)
theorem fD_take (S : hr_S) (k : Nat) : fM (md_take S k) S := (fD_tkL _ _ _).tr (fM.w (fM.rf S) (by omega) (by omega))
theorem fD_gone (S : hr_S) (q : Nat) : fM (md_gone S q) S := by
  unfold md_gone
  (repeat' (first | exact fM.rf _ | assumption | (refine fM.w ?_ (by omega) (by omega)) | split))
theorem fD_hear (S : hr_S) (q : Nat) (a t : Int32) : fM (md_hear S q a t) S := by
  unfold md_hear md_hn md_gone md_hn2 md_hn1 md_new md_bet
  (repeat' (first | exact fM.rf _ | assumption | (refine fM.w ?_ (by omega) (by omega)) | split))
theorem fD_tl1 (S : hr_S) (r : Nat) (self : Int32) : fM (md_tl1 S r self) S := by
  unfold md_tl1
  split
  · exact fD_begin _ _
  · exact (fD_entry _ _ _ _ _).tr (fD_begin _ _)
theorem fD_tlL (S : hr_S) (r : Nat) (x al self : Int32) : ∀ n, fM (md_tlL S r x al self n) S
  | 0 => fD_tl1 S r self
  | n + 1 => by
    unfold md_tlL
    split
    · exact (fD_entry _ _ _ _ _).tr (fD_tlL S r x al self n)
    · exact fD_tlL S r x al self n
theorem fD_tell (S : hr_S) (r : Nat) (x al self : Int32) : fM (md_tell S r x al self) S := by
  unfold md_tell
  split
  · exact (fD_post _ _ _).tr (fD_tlL _ _ _ _ _ _)
  · exact fD_tlL _ _ _ _ _ _
theorem fD_anL (S : hr_S) (r : Nat) : ∀ n, fM (md_anL S r n) S
  | 0 => fM.rf S
  | n + 1 => by
    unfold md_anL
    split
    · exact (fD_entry _ _ _ _ _).tr (fD_anL S r n)
    · exact fD_anL S r n
theorem fD_ans1 (S : hr_S) (r : Nat) : fM (md_ans1 S r) S := (fD_anL _ _ _).tr (fD_begin _ _)
theorem fD_ans (S : hr_S) (r : Nat) (x : Int32) : fM (md_ans S r x) S := by
  unfold md_ans
  split
  · exact fD_tell _ _ _ _ _
  · split
    · exact (fD_post _ _ _).tr (fD_ans1 _ _)
    · exact fD_ans1 _ _
theorem fD_hrL (S : hr_S) (r : Nat) (x : Int32) : ∀ n, fM (md_hrL S r x n) S
  | 0 => fM.rf S
  | n + 1 => by
    unfold md_hrL
    split
    · exact (fD_hear _ _ _ _).tr (fD_hrL S r x n)
    · exact fD_hrL S r x n
theorem fD_cmL (S : hr_S) (k : Nat) : ∀ n, fM (md_cmL S k n) S
  | 0 => fM.rf S
  | n + 1 => by
    unfold md_cmL
    exact fM.w (fD_cmL S k n) (by omega) (by omega)
theorem fD_come (S : hr_S) (k : Nat) : fM (md_come S k) S := (fD_take _ _).tr ((fD_cmL _ _ _).tr (fM.w (fM.rf S) (by omega) (by omega)))
theorem fD_in (S : hr_S) (a r : Nat) : fM (md_in S a r) S := by
  unfold md_in
  split
  · exact fM.w (fM.rf S) (by omega) (by omega)
  · split
    · split
      · exact fD_ans _ _ _
      · exact fD_hrL _ _ _ _
    · exact fM.w (fM.rf S) (by omega) (by omega)
theorem fD_arr (S : hr_S) (k : Nat) : fM (md_arr S k) S := (fD_in _ _ _).tr (fD_come S k)
theorem fD_age (S : hr_S) (q : Nat) : fM (md_age S q) S := by
  have h1 : fM (md_ag1 S q) S := by
    unfold md_ag1
    exact fM.w (fM.w (fM.rf S) (by omega) (by omega)) (by omega) (by omega)
  have h2 : fM (md_lt S q) S := by
    unfold md_lt
    split
    · split
      · exact fM.w (fM.w h1 (by omega) (by omega)) (by omega) (by omega)
      · exact h1
    · exact h1
  unfold md_age
  split
  · exact h2
  · split
    · exact (fD_gone _ _).tr h1
    · exact h2
theorem fD_agL (S : hr_S)  : ∀ n, fM (md_agL S n) S
  | 0 => fM.rf S
  | n + 1 => by
    unfold md_agL
    split
    · exact fD_agL S n
    · exact (fD_age _ _).tr (fD_agL S n)
theorem fD_trL (S : hr_S) (r : Nat) (al : Int32) : ∀ n, fM (md_trL S r al n) S
  | 0 => fM.rf S
  | n + 1 => by
    unfold md_trL
    split
    · exact (fD_tell _ _ _ _ _).tr (fD_trL S r al n)
    · exact fD_trL S r al n
theorem fD_clr (S : hr_S) (r : Nat) : ∀ n, fM (md_clr S r n) S
  | 0 => fM.rf S
  | n + 1 => by
    unfold md_clr
    exact fM.w (fD_clr S r n) (by omega) (by omega)
theorem fD_tr (S : hr_S) (r : Nat) : fM (md_tr S r) S := by
  unfold md_tr
  split
  · exact (fD_clr _ _ _).tr (fD_trL _ _ _ _)
  · split
    · exact (fD_clr _ _ _).tr (fD_trL _ _ _ _)
    · exact fD_clr _ _ _
theorem fD_t (S : hr_S)  : ∀ n, fM (md_t S n) S
  | 0 => fM.rf S
  | n + 1 => by
    unfold md_t
    exact (fD_tr _ _).tr (fD_t S n)
theorem fD_turn (S : hr_S) : fM (md_turn S) S := (fD_t _ 8).tr ((fD_agL _ 64).tr (fM.w (fM.rf S) (by omega) (by omega)))
theorem fD_seL (S : hr_S) (r : Nat) (x : Int32) : ∀ n, fM ((md_seL S r x n).1) S
  | 0 => fM.rf S
  | n + 1 => by
    unfold md_seL
    split
    · exact (fD_gone _ _).tr (fD_seL S r x n)
    · exact fD_seL S r x n
theorem fD_rsC (S : hr_S) (r : Nat) : ∀ n, fM (md_rsC S r n) S
  | 0 => fM.rf S
  | n + 1 => by
    unfold md_rsC
    exact fM.w (fM.w (fM.w (fD_rsC S r n) (by omega) (by omega)) (by omega) (by omega)) (by omega) (by omega)
theorem fD_rs1 (S : hr_S) (r x : Nat) : fM (md_rs1 S r x) S := (fD_post _ _ _).tr ((fD_entry _ _ _ _ _).tr (fD_begin _ _))
theorem fD_rsL (S : hr_S) (r : Nat) : ∀ n, fM (md_rsL S r n) S
  | 0 => fM.rf S
  | n + 1 => by
    unfold md_rsL
    split
    · exact (fD_rs1 _ _ _).tr (fD_rsL S r n)
    · exact fD_rsL S r n
theorem fD_asL (S : hr_S) (ds : Int32) : ∀ n, fM (md_asL S ds n) S
  | 0 => fD_begin S 1
  | n + 1 => by
    unfold md_asL
    split
    · exact (fD_entry _ _ _ _ _).tr (fD_asL S ds n)
    · exact fD_asL S ds n
theorem fD_dr : ∀ (c : Nat) (S : hr_S), fM (md_dr c S) S
  | 0, S => fM.rf S
  | c + 1, S => by
    unfold md_dr
    split
    · exact (fD_dr c _).tr (fD_arr S 0)
    · exact fM.rf S
theorem fD_tick (S : hr_S) (al : Int32) : ∀ n, fM (md_tick S al n) S
  | 0 => fM.rf S
  | n + 1 => by
    unfold md_tick md_tk1'
    split
    · exact (fD_turn _).tr (fD_tick S al n)
    · exact (fD_dr _ _).tr ((fD_turn _).tr (fD_tick S al n))
theorem fD_twL (S : hr_S) (k : Nat) : ∀ n, fM (md_twL S k n) S
  | 0 => fM.rf S
  | n + 1 => by
    unfold md_twL
    exact fM.w (fD_twL S k n) (by omega) (by omega)
theorem fD_twice (S : hr_S) (k : Nat) : fM (md_twice S k) S := (fD_post _ _ _).tr ((fD_twL _ _ _).tr (fM.w (fM.rf S) (by omega) (by omega)))
theorem fD_lnk (S : hr_S) (a b : Nat) (up : Int32) : fM (md_lnk S a b up) S := by
  unfold md_lnk
  exact fM.w (fM.w (fM.rf S) (by omega) (by omega)) (by omega) (by omega)
/-! thrown -/
theorem md_0_C (S : hr_S) : eqC (md_0 S) S := eqC.w (eqC.rf S) (by decide)
theorem md_r_C (S : hr_S) (k : Int32) : eqC (md_r S k) S := (eqC.w (eqC.rf (md_0 S)) (by decide)).tr (md_0_C S)
theorem rl_z {A B : hr_S} (h : rl A B) {v : Int32} : rl A (hr_w B 14 0 0 v) := by
  obtain ⟨⟨c, m⟩, t, l, a, n⟩ := h
  have hk : ∀ k, k ≠ 14 → hr_w B 14 0 0 v k = B k := fun k h => by funext i j; exact hr_w_k B h i j
  have h14 : ∀ j, j ≠ 0 → hr_w B 14 0 0 v 14 0 j = B 14 0 j := fun j h => hr_w_j B h
  exact ⟨⟨c, MI_z m⟩, rT_cg (fun _ _ _ => rfl) (fun k h1 _ => hk k (by omega)) t, rL_cg rfl rfl (hk 15 (by decide)) l, rA_cg rfl rfl (fun _ _ => rfl) (fun _ _ => rfl) (h14 11 (by decide)) (fun k h1 _ => hk k (by omega)) c a, rN_cg rfl rfl rfl rfl (h14 1 (by decide)) (h14 2 (by decide)) (h14 3 (by decide)) (h14 4 (by decide)) n⟩
theorem rl_0 {A B : hr_S} (h : rl A B) : rl A (md_0 B) := rl_z h
theorem R_r {S : hr_S} (h : hr_R S) (k : Int32) : hr_R (md_r S k) ∧ md_r S k 14 0 0 = k := ⟨hr_R_step (S := S) (S1 := S) (eqM.rf S) (md_r_C S k) (rl_z (rl_z h)), hr_w_self _ _ _ _ _⟩
/-- both have done their part -/
theorem R_ok {S S1 S2 : hr_S} (hC : eqM S1 S) (hM : fM S2 (md_0 S1)) (h : rl S1 S2) : hr_R S2 ∧ S2 14 0 0 = 0 := ⟨hr_R_step hC (hM.1.tr (md_0_C S1)) h, hM.2.trans (md_0_0 S1)⟩
