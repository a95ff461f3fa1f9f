/-! the model: what its steps leave alone -/
theorem md_put_o {S : hr_S} {n : Nat} {b : Int32} {k : Nat} (hk : k ≠ 25) {j : Nat} (hj : k = 14 → j ≠ 16) (i : Nat) : md_put S n b k i j = S k i j := by
  unfold md_put
  rw [hr_w_at, if_neg (fun z => hj z.1 z.2.2), hr_w_k _ hk]
theorem md_begin_o {S : hr_S} {b : Int32} {k : Nat} (hk : k ≠ 25) {j : Nat} (hj : k = 14 → j ≠ 16) (i : Nat) : md_begin S b k i j = S k i j := by
  unfold md_begin
  rw [md_put_o hk hj, md_put_o hk hj, md_put_o hk hj, md_put_o hk hj, hr_w_at, if_neg (fun z => hj z.1 z.2.2)]
theorem md_zero_o {S : hr_S} {n : Nat} {k : Nat} (hk : k ≠ 25) {j : Nat} (hj : k = 14 → j ≠ 16) (i : Nat) : ∀ c, md_zero S n c k i j = S k i j
  | 0 => rfl
  | c + 1 => by unfold md_zero; rw [md_put_o hk hj]; exact md_zero_o hk hj i c
theorem md_entry_o {S : hr_S} {n : Nat} {f d t : Int32} {k : Nat} (hk : k ≠ 25) {j : Nat} (hj : k = 14 → j ≠ 16) (i : Nat) : md_entry S n f d t k i j = S k i j := by
  unfold md_entry md_ent1
  rw [md_put_o hk hj, md_zero_o hk hj]
  repeat rw [md_put_o hk hj]
/-- so many bytes are made, at most B -/
def md_mk (S : hr_S) (B : Nat) : Prop := S 14 0 16 = nI (md_m S) ∧ md_m S ≤ B ∧ 4 ≤ md_m S
theorem md_mk_of {S : hr_S} {n B : Nat} (h : S 14 0 16 = nI n) (hn : n ≤ B) (h4 : 4 ≤ n) (hB : B < 2 ^ 31) : md_mk S B := by
  have : md_m S = n := by unfold md_m; rw [h, un_nI (by omega)]
  exact ⟨by rw [this]; exact h, by omega, by omega⟩
theorem mk_begin (S : hr_S) (b : Int32) : md_mk (md_begin S b) 4 := md_mk_of (md_begin_m S b) (Nat.le_refl _) (Nat.le_refl _) (by decide)
theorem mk_entry {S : hr_S} {B n : Nat} (h : md_mk S B) (hn : n = md_m S) (hB : B < 2 ^ 30) (f d t : Int32) : md_mk (md_entry S n f d t) (B + 20) := by
  have h1 := h.2.1
  have h2 := h.2.2
  exact md_mk_of (md_entry_m S n f d t) (by omega) (by omega) (by omega)
theorem mk_up {S : hr_S} {B C : Nat} (h : md_mk S B) (hC : B ≤ C) : md_mk S C := ⟨h.1, Nat.le_trans h.2.1 hC, h.2.2⟩
theorem mk_nb {S : hr_S} {B : Nat} (h : md_mk S B) (hB : B < 165) : nb (S 14 0 16) 165 := ⟨h.1, Nat.lt_of_le_of_lt h.2.1 hB⟩
def md_ct (r d : Nat) : Nat := if r < d then d - 1 else d
theorem mk_tl1 (S : hr_S) (r : Nat) (self : Int32) : md_mk (md_tl1 S r self) 24 := by
  unfold md_tl1
  split
  · exact mk_up (mk_begin S 2) (by decide)
  · exact mk_entry (B := 4) (mk_begin S 2) (by unfold md_m; rw [md_begin_m, un_nI (by decide)]) (by decide) _ _ _
theorem mk_tlL (S : hr_S) {r : Nat} (hr : r < 8) (x al self : Int32) : ∀ d, d ≤ 8 → md_mk (md_tlL S r x al self d) (24 + 20 * md_ct r d)
  | 0, _ => mk_up (mk_tl1 S r self) (by omega)
  | d + 1, hd => by
    have ih := mk_tlL S hr x al self d (by omega)
    unfold md_tlL
    split
    · next h =>
      have hne := h.1
      have := mk_entry (n := md_m (md_tlL S r x al self d)) ih rfl (by unfold md_ct; split <;> omega) 2 (nI d) (md_told (md_tlL S r x al self d) ((8 * r) + d) x)
      refine mk_up this ?_
      unfold md_ct
      split <;> split <;> omega
    · refine mk_up ih ?_
      unfold md_ct
      split <;> split <;> omega
theorem mk_tlL2 (S : hr_S) {r : Nat} (hr : r < 8) (x al self : Int32) {d : Nat} (hd : d < 8) (hne : ¬ d = r) : md_m (md_tlL S r x al self d) ≤ 144 := by
  have := (mk_tlL S hr x al self d (by omega)).2.1
  unfold md_ct at this
  split at this <;> omega
theorem mk_tlL3 (S : hr_S) {r : Nat} (hr : r < 8) (x al self : Int32) {d : Nat} (hd : d ≤ 8) : nb (md_tlL S r x al self d 14 0 16) 165 := by
  refine mk_nb (mk_tlL S hr x al self d hd) ?_
  unfold md_ct
  split <;> omega
theorem MI_tl1 {S : hr_S} (h : hr_MI S) {r : Nat} {self : Int32} : hr_MI (md_tl1 S r self) := by
  unfold md_tl1
  split
  · exact MI_begin h
  · exact MI_entry (MI_begin h)
theorem MI_tlL {S : hr_S} (h : hr_MI S) {r : Nat} {x al self : Int32} : ∀ d, hr_MI (md_tlL S r x al self d)
  | 0 => MI_tl1 h
  | d + 1 => by
    unfold md_tlL
    split
    · exact MI_entry (MI_tlL h d)
    · exact MI_tlL h d
theorem MI_tell {S : hr_S} (h : hr_MI S) {r : Nat} (hr : r < 8) {x al self : Int32} (hx : nb x 8) : hr_MI (md_tell S r x al self) := by
  unfold md_tell
  split
  · exact MI_post (MI_tlL h 8) (nb_nI hr (by decide)) hx (mk_tlL3 S hr x al self (Nat.le_refl 8)).2
  · exact MI_tlL h 8
theorem mk_anL {S : hr_S} (h : md_mk S 4) (r : Nat) : ∀ j, j ≤ 8 → md_mk (md_anL S r j) (4 + 20 * j)
  | 0, _ => h
  | j + 1, hj => by
    have ih := mk_anL h r j (by omega)
    unfold md_anL
    split
    · exact mk_up (mk_entry ih rfl (by omega) _ _ _) (by omega)
    · exact mk_up ih (by omega)
theorem MI_anL {S : hr_S} (h : hr_MI S) {r : Nat} : ∀ j, hr_MI (md_anL S r j)
  | 0 => h
  | j + 1 => by
    unfold md_anL
    split
    · exact MI_entry (MI_anL h j)
    · exact MI_anL h j
theorem md_anL_o {S : hr_S} {r : Nat} {k : Nat} (hk : k ≠ 25) {i' : Nat} (hi : k = 14 → i' ≠ 16) (i : Nat) : ∀ j, md_anL S r j k i i' = S k i i'
  | 0 => rfl
  | j + 1 => by
    unfold md_anL
    split
    · rw [md_entry_o hk hi]; exact md_anL_o hk hi i j
    · exact md_anL_o hk hi i j
theorem MI_ans {S : hr_S} (h : hr_MI S) {r : Nat} (hr : r < 8) {x : Int32} (hx : nb x 8) (hc : md_c S ≤ 164) : hr_MI (md_ans S r x) := by
  unfold md_ans
  split
  · exact MI_tell h hr hx
  · have h1 : hr_MI (md_ans1 S r) := MI_anL (MI_begin h) _
    split
    · refine MI_post h1 (nb_nI hr (by decide)) hx ?_
      have := (mk_anL (mk_begin S 2) r ((md_c S - 4) / 20) (by omega)).2.1
      have h2 : md_m (md_ans1 S r) ≤ 4 + 20 * ((md_c S - 4) / 20) := this
      omega
    · exact h1
theorem MI_hrL {S : hr_S} (h : hr_MI S) {r : Nat} {x : Int32} (hx : nb x 8) : ∀ j, hr_MI (md_hrL S r x j)
  | 0 => h
  | j + 1 => by
    unfold md_hrL
    split
    · exact MI_hear (MI_hrL h hx j) hx
    · exact MI_hrL h hx j
theorem md_hear_o {S : hr_S} {q : Nat} {a t : Int32} {k : Nat} (hk : k < 16 ∨ 20 < k) (i j : Nat) : md_hear S q a t k i j = S k i j := by
  unfold md_hear md_hn md_new md_bet md_gone md_hn2 md_hn1
  repeat' split
  all_goals first | rfl | (repeat rw [hr_w_k _ (by omega)])
theorem md_hrL_o {S : hr_S} {r : Nat} {x : Int32} {k : Nat} (hk : k < 16 ∨ 20 < k) (i i' : Nat) : ∀ j, md_hrL S r x j k i i' = S k i i'
  | 0 => rfl
  | j + 1 => by
    unfold md_hrL
    split
    · rw [md_hear_o hk]; exact md_hrL_o hk i i' j
    · exact md_hrL_o hk i i' j
theorem md_cmL_k (S : hr_S) (q : Nat) {k : Nat} (hk : k ≠ 26) (i' j' : Nat) : ∀ i, md_cmL S q i k i' j' = S k i' j'
  | 0 => rfl
  | i + 1 => by unfold md_cmL; rw [hr_w_k _ hk]; exact md_cmL_k S q hk i' j' i
theorem MI_cmL {S : hr_S} (h : hr_MI S) {q : Nat} : ∀ i, hr_MI (md_cmL S q i)
  | 0 => h
  | i + 1 => MI_o (MI_cmL h i) (by omega) (by omega) (by omega) (by omega) (by omega) (by omega)
theorem MI_18 {S : hr_S} (h : hr_MI S) {v : Int32} : hr_MI (hr_w S 14 0 18 v) := MI_o h (by decide) (by decide) (by decide) (by decide) (by decide) (by decide)
theorem MI_come {S : hr_S} (h : hr_MI S) {k : Nat} (hk : k < md_n S) : hr_MI (md_come S k) := by
  refine MI_take (MI_cmL (MI_18 h) _) ?_
  unfold md_n
  rw [md_cmL_k _ _ (by decide)]
  exact hk
theorem md_take_k (S : hr_S) (k9 : Nat) {k : Nat} (h1 : k ≠ 21) (h2 : k ≠ 22) (h3 : k ≠ 23) (h4 : k ≠ 24) (i' j' : Nat) (h5 : k = 14 → j' ≠ 11) : md_take S k9 k i' j' = S k i' j' := by
  unfold md_take
  rw [md_tkL_k _ _ h1 h2 h3 h4, hr_w_at, if_neg (fun z => h5 z.1 z.2.2)]
theorem md_come_c (S : hr_S) (k : Nat) : md_come S k 14 0 18 = S 23 0 k := by
  unfold md_come
  rw [md_take_k _ _ (by decide) (by decide) (by decide) (by decide) _ _ (by decide), md_cmL_k _ _ (by decide), hr_w_self]
theorem MI_in {S : hr_S} (h : hr_MI S) {a r : Nat} (ha : a < 8) (hr : r < 8) (hc : md_c S ≤ 164) : hr_MI (md_in S a r) := by
  unfold md_in
  split
  · exact MI_o h (by decide) (by decide) (by decide) (by decide) (by decide) (by decide)
  · split
    · split
      · exact MI_ans h hr (nb_nI ha (by decide)) hc
      · exact MI_hrL h (nb_nI ha (by decide)) _
    · exact MI_o h (by decide) (by decide) (by decide) (by decide) (by decide) (by decide)
theorem MI_arr {S : hr_S} (h : hr_MI S) {k : Nat} (hk : k < md_n S) : hr_MI (md_arr S k) := by
  have hn : md_n S < 201 := h.1.2
  obtain ⟨b1, b2, b3⟩ := h.2.1 k (by omega)
  have := b3.2
  exact MI_in (MI_come h hk) b1.2 b2.2 (by unfold md_c; rw [md_come_c]; omega)
theorem MI_ag1 {S : hr_S} (h : hr_MI S) {q : Nat} : hr_MI (md_ag1 S q) := by
  unfold md_ag1
  refine MI_o (MI_o h ?_ ?_ ?_ ?_ ?_ ?_) ?_ ?_ ?_ ?_ ?_ ?_ <;> omega
theorem MI_lt {S : hr_S} (h : hr_MI S) {q : Nat} : hr_MI (md_lt S q) := by
  unfold md_lt
  split
  · split
    · refine MI_o (MI_o (MI_ag1 h) ?_ ?_ ?_ ?_ ?_ ?_) ?_ ?_ ?_ ?_ ?_ ?_ <;> omega
    · exact MI_ag1 h
  · exact MI_ag1 h
theorem MI_age {S : hr_S} (h : hr_MI S) {q : Nat} : hr_MI (md_age S q) := by
  unfold md_age
  split
  · exact MI_lt h
  · split
    · exact MI_gone (MI_ag1 h)
    · exact MI_lt h
theorem MI_agL {S : hr_S} (h : hr_MI S) : ∀ q, hr_MI (md_agL S q)
  | 0 => h
  | q + 1 => by
    unfold md_agL
    split
    · exact MI_agL h q
    · exact MI_age (MI_agL h q)
theorem MI_trL {S : hr_S} (h : hr_MI S) {r : Nat} (hr : r < 8) {al : Int32} : ∀ x, x ≤ 8 → hr_MI (md_trL S r al x)
  | 0, _ => h
  | x + 1, hx => by
    unfold md_trL
    split
    · exact MI_tell (MI_trL h hr x (by omega)) hr (nb_nI (by omega) (by decide))
    · exact MI_trL h hr x (by omega)
theorem MI_clr {S : hr_S} (h : hr_MI S) {r : Nat} : ∀ d, hr_MI (md_clr S r d)
  | 0 => h
  | d + 1 => MI_o (MI_clr h d) (by omega) (by omega) (by omega) (by omega) (by omega) (by omega)
theorem MI_tr {S : hr_S} (h : hr_MI S) {r : Nat} (hr : r < 8) : hr_MI (md_tr S r) := by
  unfold md_tr
  split
  · exact MI_clr (MI_trL h hr 8 (by omega)) 8
  · split
    · exact MI_clr (MI_trL h hr 8 (by omega)) 8
    · exact MI_clr h 8
theorem MI_t {S : hr_S} (h : hr_MI S) : ∀ r, r ≤ 8 → hr_MI (md_t S r)
  | 0, _ => h
  | r + 1, hr => MI_tr (MI_t h r (by omega)) (by omega)
theorem MI_1 {S : hr_S} (h : hr_MI S) {v : Int32} : hr_MI (hr_w S 14 0 1 v) := MI_o h (by decide) (by decide) (by decide) (by decide) (by decide) (by decide)
theorem MI_turn {S : hr_S} (h : hr_MI S) : hr_MI (md_turn S) := MI_t (MI_agL (MI_1 h) 64) 8 (by omega)
theorem md_f00 (S : hr_S) (e9 : Nat) (f9 : Int32) (h : ¬ (md_f0 S e9 f9 ∧ md_f1 S e9)) : md_fb S e9 f9 0 = false := by
  unfold md_fb
  exact @decide_eq_false _ (Classical.propDecidable _) h
theorem md_f01 (S : hr_S) (e9 : Nat) (f9 : Int32) (h : md_f0 S e9 f9 ∧ md_f1 S e9) : md_fb S e9 f9 0 = true := by
  unfold md_fb
  exact @decide_eq_true _ (Classical.propDecidable _) h
