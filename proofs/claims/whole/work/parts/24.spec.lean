/-! HopRouters: what its methods do to the numbers -/
/-- entry e9 of packet i is sound -/
def pk_sE (S : hr_S) (i e9 : Nat) : Prop := S 7 i (1 + (e9 * 5)) = 131072 ∧ ((S 7 i (1 + (e9 * 5) + 1) &&& ((1792 : Int32) ^^^ (-1))) = 167772160 ∧ S 7 i (1 + (e9 * 5) + 2) = -256 ∧ S 7 i (1 + (e9 * 5) + 3) = 0) ∧ 1 ≤ S 7 i (1 + (e9 * 5) + 4) ∧ S 7 i (1 + (e9 * 5) + 4) ≤ 16
def pk_dst (S : hr_S) (i e9 : Nat) : Int32 := (S 7 i (1 + (e9 * 5) + 1) >>> ((8 : Int32) &&& 31)) &&& 255
def pk_met (S : hr_S) (i e9 : Nat) : Int32 := S 7 i (1 + (e9 * 5) + 4)
def pk_all (S : hr_S) (i : Nat) : Prop := (un (S 6 i 2) - 4) / 20 = 1 ∧ S 7 i (1 + (0 * 5)) = 0 ∧ ((S 7 i (1 + (0 * 5) + 1) &&& ((65280 : Int32) ^^^ (-1))) = 167772160 ∧ S 7 i (1 + (0 * 5) + 2) = -256 ∧ S 7 i (1 + (0 * 5) + 3) = 0) ∧ S 7 i (1 + (0 * 5) + 4) = 16
def pk_snd (S : hr_S) (i : Nat) : Prop := 24 ≤ un (S 6 i 2) ∧ (un (S 6 i 2) - 4) % 20 = 0 ∧ (S 7 i 0 = 16908288 ∨ S 7 i 0 = 33685504)
noncomputable section
def cl_tl1 (S : hr_S) (r x : Nat) (ev : Int32) : hr_S := if ev = 0 then pk_begin S 200 (nI r) (nI x) 33685504 else pk_addE (pk_begin S 200 (nI r) (nI x) 33685504) 200 2 (nI r) 1
def cl_tlc (S : hr_S) (r d : Nat) (ev : Int32) : Prop := if ev = 0 then ¬ S 13 r d = 0 else ¬ S 9 r d = -1
def cl_tlL (S : hr_S) (r x : Nat) (ev : Int32) : Nat → hr_S
  | 0 => cl_tl1 S r x ev
  | d + 1 => @ite _ (cl_tlc (cl_tlL S r x ev d) r d ev) (Classical.propDecidable _) (pk_addE (cl_tlL S r x ev d) 200 2 (nI d) (tb_told (cl_tlL S r x ev d) r d (nI x))) (cl_tlL S r x ev d)
def cl_tell (S : hr_S) (r x : Nat) (ev : Int32) : hr_S := ai_launch (cl_tlL S r x ev 8) 200
def cl_tt (S : hr_S) (r : Nat) (ev : Int32) : Nat → hr_S
  | 0 => S
  | x + 1 => if ¬ cl_tt S r ev x 1 0 (r * 8 + x) = 0 then cl_tell (cl_tt S r ev x) r x ev else cl_tt S r ev x
def cl_ten (S : hr_S) (r : Nat) : Int32 := (S 0 0 5 + nI r) - (S 0 0 5 + nI r) / 10 * 10
def cl_turn1 (S : hr_S) (r : Nat) : hr_S := if cl_ten S r = 0 then tb_clr (cl_tt S r 1 8) r 8 else if tb_any S r 8 = true then tb_clr (cl_tt S r 0 8) r 8 else S
def cl_g (S : hr_S) : Nat → hr_S
  | 0 => S
  | r + 1 => tb_grow (cl_g S r) r 8
def cl_t (S : hr_S) : Nat → hr_S
  | 0 => S
  | r + 1 => cl_turn1 (cl_t S r) r
def cl_pass (S : hr_S) : hr_S := cl_t (cl_g (hr_w S 0 0 5 (S 0 0 5 + 1)) 8) 8
def cl_anL (S : hr_S) (r : Nat) : Nat → hr_S
  | 0 => S
  | e9 + 1 => @ite _ (pk_sE (cl_anL S r e9) 201 e9) (Classical.propDecidable _) (pk_addE (cl_anL S r e9) 200 2 (nI (un (pk_dst (cl_anL S r e9) 201 e9))) (cl_mans (cl_anL S r e9) r (un (pk_dst (cl_anL S r e9) 201 e9)))) (cl_anL S r e9)
def cl_ans1 (S : hr_S) : hr_S := cl_anL (pk_begin S 200 (nI (un (S 6 201 1))) (nI (un (S 6 201 0))) 33685504) (un (S 6 201 1)) (pk_ent S 201)
def cl_ans (S : hr_S) : hr_S := @ite _ (pk_all S 201) (Classical.propDecidable _) (cl_tell S (un (S 6 201 1)) (un (S 6 201 0)) 1) (if 0 < pk_ent (cl_ans1 S) 200 then ai_launch (cl_ans1 S) 200 else cl_ans1 S)
def cl_hrL (S : hr_S) (r : Nat) : Nat → hr_S
  | 0 => S
  | e9 + 1 => @ite _ (pk_sE (cl_hrL S r e9) 201 e9 ∧ ¬ pk_dst (cl_hrL S r e9) 201 e9 = cl_hrL S r e9 6 201 1) (Classical.propDecidable _) (tb_hear (cl_hrL S r e9) r (un (pk_dst (cl_hrL S r e9) 201 e9)) (pk_met (cl_hrL S r e9) 201 e9) (cl_hrL S r e9 6 201 0)) (cl_hrL S r e9)
def cl_hr (S : hr_S) : hr_S := cl_hrL S (un (S 6 201 1)) (pk_ent S 201)
/-- a packet out of the air into the hands of 'arriving' -/
def cl_take (S : hr_S) (k : Nat) : hr_S := ai_remove (pk_become S 201 (ai_o S k)) k
def cl_up (S : hr_S) : Prop := ¬ S 1 0 (un (S 6 201 0) * 8 + un (S 6 201 1)) = 0
def cl_in (S : hr_S) : hr_S := @ite _ (cl_up S) (Classical.propDecidable _) (@ite _ (pk_snd S 201) (Classical.propDecidable _) (if S 7 201 0 = 16908288 then cl_ans S else cl_hr S) (hr_w S 0 0 7 (S 0 0 7 + 1))) (hr_w S 3 0 4 (S 3 0 4 + 1))
def cl_bring (S : hr_S) (k : Nat) : hr_S := cl_in (cl_take S k)
end
/-! invariants -/
theorem len_begin (S : hr_S) (i : Nat) (a b h : Int32) : un (pk_begin S i a b h 6 i 2) = 4 := by
  unfold pk_begin
  rw [hr_w_self]
  rfl
theorem len_addE {S : hr_S} {i : Nat} {f d t : Int32} (h : 4 ≤ un (S 6 i 2)) : 4 ≤ un (pk_addE S i f d t 6 i 2) := by
  unfold pk_addE
  split
  · rw [hr_w_self, un_nI (by omega)]; omega
  · exact h
theorem CI_tl1 {S : hr_S} (h : hr_CI S) {r x : Nat} {ev : Int32} (hr : r < 8) (hx : x < 8) : hr_CI (cl_tl1 S r x ev) := by
  have h1 : hr_CI (pk_begin S 200 (nI r) (nI x) 33685504) := CI_begin h (nb_nI hr (by decide)) (nb_nI hx (by decide))
  unfold cl_tl1
  split
  · exact h1
  · exact CI_addE h1
theorem CI_tlL {S : hr_S} (h : hr_CI S) {r x : Nat} {ev : Int32} (hr : r < 8) (hx : x < 8) : ∀ d, hr_CI (cl_tlL S r x ev d)
  | 0 => CI_tl1 h hr hx
  | d + 1 => by
    unfold cl_tlL
    split
    · exact CI_addE (CI_tlL h hr hx d)
    · exact CI_tlL h hr hx d
theorem len_tlL (S : hr_S) (r x : Nat) (ev : Int32) : ∀ d, 4 ≤ un (cl_tlL S r x ev d 6 200 2)
  | 0 => by
    unfold cl_tlL cl_tl1
    split
    · rw [len_begin]; omega
    · exact len_addE (by rw [len_begin]; omega)
  | d + 1 => by
    unfold cl_tlL
    split
    · exact len_addE (len_tlL S r x ev d)
    · exact len_tlL S r x ev d
theorem CI_tell {S : hr_S} (h : hr_CI S) {r x : Nat} {ev : Int32} (hr : r < 8) (hx : x < 8) : hr_CI (cl_tell S r x ev) := CI_launch (CI_tlL h hr hx 8) (by decide)
theorem CI_tt {S : hr_S} (h : hr_CI S) {r : Nat} {ev : Int32} (hr : r < 8) : ∀ x, x ≤ 8 → hr_CI (cl_tt S r ev x)
  | 0, _ => h
  | x + 1, hx => by
    unfold cl_tt
    split
    · exact CI_tell (CI_tt h hr x (by omega)) hr (by omega)
    · exact CI_tt h hr x (by omega)
theorem CI_turn1 {S : hr_S} (h : hr_CI S) {r : Nat} (hr : r < 8) : hr_CI (cl_turn1 S r) := by
  unfold cl_turn1
  split
  · exact CI_clr (CI_tt h hr 8 (by omega)) 8
  · split
    · exact CI_clr (CI_tt h hr 8 (by omega)) 8
    · exact h
theorem CI_g {S : hr_S} (h : hr_CI S) : ∀ r, hr_CI (cl_g S r)
  | 0 => h
  | r + 1 => CI_grow (CI_g h r) 8
theorem CI_t {S : hr_S} (h : hr_CI S) : ∀ r, r ≤ 8 → hr_CI (cl_t S r)
  | 0, _ => h
  | r + 1, hr => CI_turn1 (CI_t h r (by omega)) (by omega)
theorem CI_tm {S : hr_S} (h : hr_CI S) {j : Nat} {v : Int32} : hr_CI (hr_w S 0 0 j v) := CI_o h (by decide) (by omega) (by decide) (by decide) (by decide)
theorem CI_pass {S : hr_S} (h : hr_CI S) : hr_CI (cl_pass S) := CI_t (CI_g (CI_tm h) 8) 8 (by omega)
theorem CI_anL {S : hr_S} (h : hr_CI S) {r : Nat} : ∀ e9, hr_CI (cl_anL S r e9)
  | 0 => h
  | e9 + 1 => by
    unfold cl_anL
    split
    · exact CI_addE (CI_anL h e9)
    · exact CI_anL h e9
theorem len_anL {S : hr_S} (h : 4 ≤ un (S 6 200 2)) (r : Nat) : ∀ e9, 4 ≤ un (cl_anL S r e9 6 200 2)
  | 0 => h
  | e9 + 1 => by
    unfold cl_anL
    split
    · exact len_addE (len_anL h r e9)
    · exact len_anL h r e9
theorem CI_ans1 {S : hr_S} (h : hr_CI S) : hr_CI (cl_ans1 S) := CI_anL (CI_begin h (nb_nI (h.2.2.2.1 201 (by decide)).2.1.2 (by decide)) (nb_nI (h.2.2.2.1 201 (by decide)).1.2 (by decide))) _
theorem CI_ans {S : hr_S} (h : hr_CI S) : hr_CI (cl_ans S) := by
  unfold cl_ans
  split
  · exact CI_tell h (h.2.2.2.1 201 (by decide)).2.1.2 (h.2.2.2.1 201 (by decide)).1.2
  · split
    · exact CI_launch (CI_ans1 h) (by decide)
    · exact CI_ans1 h
theorem CI_hrL {S : hr_S} (h : hr_CI S) {r : Nat} : ∀ e9, hr_CI (cl_hrL S r e9)
  | 0 => h
  | e9 + 1 => by
    unfold cl_hrL
    split
    · exact CI_hear (CI_hrL h e9) ((CI_hrL h e9).2.2.2.1 201 (by decide)).1
    · exact CI_hrL h e9
theorem CI_hr {S : hr_S} (h : hr_CI S) : hr_CI (cl_hr S) := CI_hrL h _
theorem CI_take {S : hr_S} (h : hr_CI S) {k : Nat} (hk : k < ai_n S) : hr_CI (cl_take S k) := by
  have hn : ai_n S < 201 := h.1.2
  exact CI_remove (CI_become h (Nat.lt_trans (h.2.1 k (by omega)).2 (by decide))) hk
theorem CI_in {S : hr_S} (h : hr_CI S) : hr_CI (cl_in S) := by
  unfold cl_in
  split
  · split
    · split
      · exact CI_ans h
      · exact CI_hr h
    · exact CI_tm h
  · exact CI_o h (by decide) (by decide) (by decide) (by decide) (by decide)
theorem CI_bring {S : hr_S} (h : hr_CI S) {k : Nat} (hk : k < ai_n S) : hr_CI (cl_bring S k) := CI_in (CI_take h hk)
/-! the destination of a sound entry -/
def hr_bt (x : Int32) (i : Nat) : Bool := x.toBitVec.getLsbD i
theorem hr_bt_ext {x y : Int32} (h : ∀ i, i < 32 → hr_bt x i = hr_bt y i) : x = y := by
  have : x.toBitVec = y.toBitVec := BitVec.eq_of_getLsbD_eq h
  exact Int32.toBitVec_inj.mp this
theorem hr_bt_and (x y : Int32) (i : Nat) : hr_bt (x &&& y) i = (hr_bt x i && hr_bt y i) := by
  unfold hr_bt
  rw [Int32.toBitVec_and, BitVec.getLsbD_and]
theorem hr_bt_or (x y : Int32) (i : Nat) : hr_bt (x ||| y) i = (hr_bt x i || hr_bt y i) := by
  unfold hr_bt
  rw [Int32.toBitVec_or, BitVec.getLsbD_or]
theorem hr_dst_or (x : Int32) (h : (x &&& ((1792 : Int32) ^^^ (-1))) = 167772160) : x = 167772160 ||| (x &&& 1792) := by
  apply hr_bt_ext
  intro i hi
  have h1 : hr_bt (x &&& ((1792 : Int32) ^^^ (-1))) i = hr_bt 167772160 i := by rw [h]
  rw [hr_bt_and] at h1
  rw [hr_bt_or, hr_bt_and, ← h1]
  have h2 : hr_bt ((1792 : Int32) ^^^ (-1)) i = !(hr_bt 1792 i) := by
    have : ∀ i : Fin 32, hr_bt ((1792 : Int32) ^^^ (-1)) i.val = !(hr_bt 1792 i.val) := by decide
    exact this ⟨i, hi⟩
  rw [h2]
  cases hr_bt x i <;> cases hr_bt 1792 i <;> rfl
theorem hr_and1792 (x : Int32) : ∃ d : Nat, d < 8 ∧ (x &&& 1792) = nI (d * 256) := by
  have key : ∀ b0 b1 b2 : Bool, ∃ d : Nat, d < 8 ∧ ∀ i : Fin 32, hr_bt (nI (d * 256)) i.val = ((decide (i.val = 8) && b0) || (decide (i.val = 9) && b1) || (decide (i.val = 10) && b2)) := by
    intro b0 b1 b2
    refine ⟨(if b0 then 1 else 0) + (if b1 then 2 else 0) + (if b2 then 4 else 0), ?_, ?_⟩
    · cases b0 <;> cases b1 <;> cases b2 <;> decide
    · cases b0 <;> cases b1 <;> cases b2 <;> decide
  obtain ⟨d, hd, hb⟩ := key (hr_bt x 8) (hr_bt x 9) (hr_bt x 10)
  refine ⟨d, hd, hr_bt_ext (fun i hi => ?_)⟩
  rw [hr_bt_and, hb ⟨i, hi⟩]
  have h2 : hr_bt 1792 i = (decide (i = 8) || decide (i = 9) || decide (i = 10)) := by
    have : ∀ i : Fin 32, hr_bt 1792 i.val = (decide (i.val = 8) || decide (i.val = 9) || decide (i.val = 10)) := by decide
    exact this ⟨i, hi⟩
  rw [h2]
  by_cases e8 : i = 8
  · subst e8; simp
  · by_cases e9 : i = 9
    · subst e9; simp
    · by_cases e10 : i = 10
      · subst e10; simp
      · simp [e8, e9, e10]
theorem hr_dst (x : Int32) (h : (x &&& ((1792 : Int32) ^^^ (-1))) = 167772160) : nb ((x >>> ((8 : Int32) &&& 31)) &&& 255) 8 := by
  obtain ⟨d, hd, e⟩ := hr_and1792 x
  have h1 := hr_dst_or x h
  rw [e] at h1
  have h2 : ∀ d : Fin 8, (((167772160 : Int32) ||| nI (d.val * 256)) >>> ((8 : Int32) &&& 31)) &&& 255 = nI d.val := by decide
  rw [h1, h2 ⟨d, hd⟩]
  exact nb_nI hd (by decide)
theorem ai_ne {S : hr_S} (h : hr_CI S) {q : Nat} (hq : 200 ≤ q) : ai_n S < 200 → ¬ ai_o S (ai_n S) = q := fun hn z => by
  have : ai_o S (ai_n S) < 200 := (h.2.1 _ hn).2
  omega
