/-! the model: telling, hearing, answering, the tick -/
/-- an entry at byte e9 is filled as an entry of the family f9 (but for D and the metric) -/
def md_f0 (S : hr_S) (e9 : Nat) (f9 : Int32) : Prop := S 26 0 e9 = 0 ∧ S 26 0 (e9 + 1) = f9 ∧ S 26 0 (e9 + 2) = 0 ∧ S 26 0 (e9 + 3) = 0
def md_f1 (S : hr_S) (e9 : Nat) : Prop := S 26 0 (e9 + 4) = 10 ∧ S 26 0 (e9 + 5) = 0 ∧ S 26 0 (e9 + 7) = 0
def md_fk (k : Nat) : Int32 := if k < 11 then 255 else 0
noncomputable section
def md_fb (S : hr_S) (e9 : Nat) (f9 : Int32) : Nat → Bool
  | 0 => @decide (md_f0 S e9 f9 ∧ md_f1 S e9) (Classical.propDecidable _)
  | j + 1 => md_fb S e9 f9 j && decide (S 26 0 (e9 + (8 + j)) = md_fk (8 + j))
def md_sE (S : hr_S) (e9 : Nat) : Prop := md_fb S e9 2 11 = true ∧ (0 ≤ S 26 0 (e9 + 6) ∧ S 26 0 (e9 + 6) ≤ 7) ∧ (1 ≤ S 26 0 (e9 + 19) ∧ S 26 0 (e9 + 19) ≤ 16)
/-- what is told of the route q to the neighbour x -/
def md_told (S : hr_S) (q : Nat) (x : Int32) : Int32 := if (16 : Int32) < S 16 0 q + 1 then 16 else if S 17 0 q = x then 16 else S 16 0 q + 1
def md_tlc (S : hr_S) (r d : Nat) (al : Int32) : Prop := ¬ d = r ∧ ¬ S 16 0 ((8 * r) + d) ≤ 0 ∧ (¬ al = 0 ∨ ¬ S 19 0 ((8 * r) + d) = 0)
def md_tl1 (S : hr_S) (r : Nat) (self : Int32) : hr_S := if self = 0 then md_begin S 2 else md_entry (md_begin S 2) 4 2 (nI r) 1
def md_tlL (S : hr_S) (r : Nat) (x al self : Int32) : Nat → hr_S
  | 0 => md_tl1 S r self
  | d + 1 => @ite _ (md_tlc (md_tlL S r x al self d) r d al) (Classical.propDecidable _) (md_entry (md_tlL S r x al self d) (md_m (md_tlL S r x al self d)) 2 (nI d) (md_told (md_tlL S r x al self d) ((8 * r) + d) x)) (md_tlL S r x al self d)
def md_tell (S : hr_S) (r : Nat) (x al self : Int32) : hr_S := if 4 < md_m (md_tlL S r x al self 8) then md_post (md_tlL S r x al self 8) (nI r) x else md_tlL S r x al self 8
def md_mans (S : hr_S) (r d : Nat) : Int32 := if d = r then 1 else if S 16 0 ((8 * r) + d) = 0 then 16 else S 16 0 ((8 * r) + d)
def md_anL (S : hr_S) (r : Nat) : Nat → hr_S
  | 0 => S
  | j + 1 => @ite _ (md_sE (md_anL S r j) (4 + 20 * j)) (Classical.propDecidable _) (md_entry (md_anL S r j) (md_m (md_anL S r j)) 2 (nI (un (md_anL S r j 26 0 (4 + 20 * j + 6)))) (md_mans (md_anL S r j) r (un (md_anL S r j 26 0 (4 + 20 * j + 6))))) (md_anL S r j)
def md_c (S : hr_S) : Nat := un (S 14 0 18)
def md_all (S : hr_S) : Prop := md_c S = 24 ∧ md_fb S 4 0 11 = true ∧ S 26 0 23 = 16
def md_ans1 (S : hr_S) (r : Nat) : hr_S := md_anL (md_begin S 2) r ((md_c S - 4) / 20)
def md_ans (S : hr_S) (r : Nat) (x : Int32) : hr_S := @ite _ (md_all S) (Classical.propDecidable _) (md_tell S r x 1 1) (if 4 < md_m (md_ans1 S r) then md_post (md_ans1 S r) (nI r) x else md_ans1 S r)
def md_hrL (S : hr_S) (r : Nat) (x : Int32) : Nat → hr_S
  | 0 => S
  | j + 1 => @ite _ (md_sE (md_hrL S r x j) (4 + 20 * j) ∧ ¬ md_hrL S r x j 26 0 (4 + 20 * j + 6) = nI r) (Classical.propDecidable _) (md_hear (md_hrL S r x j) ((8 * r) + un (md_hrL S r x j 26 0 (4 + 20 * j + 6))) x (md_hrL S r x j 26 0 (4 + 20 * j + 19))) (md_hrL S r x j)
def md_hr (S : hr_S) (r : Nat) (x : Int32) : hr_S := md_hrL S r x ((md_c S - 4) / 20)
def md_cmL (S : hr_S) (k : Nat) : Nat → hr_S
  | 0 => S
  | i + 1 => hr_w (md_cmL S k i) 26 0 i (md_cmL S k i 24 0 (164 * k + i))
def md_come (S : hr_S) (k : Nat) : hr_S := md_take (md_cmL (hr_w S 14 0 18 (S 23 0 k)) k (un (S 23 0 k))) k
def md_snd (S : hr_S) : Prop := 24 ≤ md_c S ∧ (md_c S - 4) % 20 = 0 ∧ (1 ≤ S 26 0 0 ∧ S 26 0 0 ≤ 2) ∧ S 26 0 1 = 2 ∧ S 26 0 2 = 0 ∧ S 26 0 3 = 0
def md_in (S : hr_S) (a r : Nat) : hr_S := if S 15 0 ((8 * a) + r) = 0 then hr_w S 14 0 2 (S 14 0 2 + 1) else @ite _ (md_snd S) (Classical.propDecidable _) (if S 26 0 0 = 1 then md_ans S r (nI a) else md_hr S r (nI a)) (hr_w S 14 0 4 (S 14 0 4 + 1))
def md_arr (S : hr_S) (k : Nat) : hr_S := md_in (md_come S k) (un (S 21 0 k)) (un (S 22 0 k))
/-- a route grows older -/
def md_ag1 (S : hr_S) (q : Nat) : hr_S := hr_w (hr_w S 18 0 q (S 18 0 q + 1)) 20 0 q (S 20 0 q - (if S 20 0 q ≤ 0 then 0 else 1))
def md_lt (S : hr_S) (q : Nat) : hr_S := if S 16 0 q = 16 then (if S 18 0 q + 1 = 50 then hr_w (hr_w (md_ag1 S q) 16 0 q 0) 19 0 q 0 else md_ag1 S q) else md_ag1 S q
def md_age (S : hr_S) (q : Nat) : hr_S := if 16 ≤ S 16 0 q then md_lt S q else if S 18 0 q + 1 = 60 then md_gone (md_ag1 S q) q else md_lt S q
def md_agL (S : hr_S) : Nat → hr_S
  | 0 => S
  | q + 1 => if md_agL S q 16 0 q = 0 then md_agL S q else md_age (md_agL S q) q
def md_some (S : hr_S) (r : Nat) : Nat → Bool
  | 0 => false
  | d + 1 => md_some S r d || decide (¬ S 16 0 ((8 * r) + d) ≤ 0 ∧ ¬ S 19 0 ((8 * r) + d) = 0)
def md_ten (S : hr_S) (r : Nat) : Int32 := (S 14 0 1 + nI r) - (S 14 0 1 + nI r) / 10 * 10
def md_trL (S : hr_S) (r : Nat) (al : Int32) : Nat → hr_S
  | 0 => S
  | x + 1 => if ¬ md_trL S r al x 15 0 ((8 * r) + x) = 0 then md_tell (md_trL S r al x) r (nI x) al al else md_trL S r al x
def md_clr (S : hr_S) (r : Nat) : Nat → hr_S
  | 0 => S
  | d + 1 => hr_w (md_clr S r d) 19 0 ((8 * r) + d) 0
def md_tr (S : hr_S) (r : Nat) : hr_S := if md_ten S r = 0 then md_clr (md_trL S r 1 8) r 8 else if md_some S r 8 = true then md_clr (md_trL S r 0 8) r 8 else md_clr S r 8
def md_t (S : hr_S) : Nat → hr_S
  | 0 => S
  | r + 1 => md_tr (md_t S r) r
def md_turn (S : hr_S) : hr_S := md_t (md_agL (hr_w S 14 0 1 (S 14 0 1 + 1)) 64) 8
end
