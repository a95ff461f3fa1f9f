/-! THE MODEL (HopRoutersModel): what stays true of its numbers, and what its methods do -/
def hr_MI (S : hr_S) : Prop := nb (S 14 0 11) 201 ∧ (∀ k, k < 200 → nb (S 21 0 k) 8 ∧ nb (S 22 0 k) 8 ∧ nb (S 23 0 k) 165) ∧ (∀ q, q < 64 → nb (S 17 0 q) 8) ∧ ∀ x, x < 64 → S 15 0 x = 0 ∨ S 15 0 x = 1
theorem MI_o {S : hr_S} (h : hr_MI S) {k i j : Nat} {v : Int32} (h14 : k = 14 → j ≠ 11) (h15 : k ≠ 15) (h17 : k ≠ 17) (h21 : k ≠ 21) (h22 : k ≠ 22) (h23 : k ≠ 23) : hr_MI (hr_w S k i j v) := by
  obtain ⟨a, b, c, d⟩ := h
  refine ⟨?_, fun q hq => ?_, fun q hq => ?_, fun x hx => ?_⟩
  · rw [hr_w_at, if_neg (fun z => h14 z.1.symm z.2.2.symm)]; exact a
  · rw [hr_w_at, if_neg (fun z => h21 z.1.symm), hr_w_at, if_neg (fun z => h22 z.1.symm), hr_w_at, if_neg (fun z => h23 z.1.symm)]; exact b q hq
  · rw [hr_w_at, if_neg (fun z => h17 z.1.symm)]; exact c q hq
  · rw [hr_w_at, if_neg (fun z => h15 z.1.symm)]; exact d x hx
theorem MI_n {S : hr_S} (h : hr_MI S) {v : Int32} (hv : nb v 201) : hr_MI (hr_w S 14 0 11 v) := by
  obtain ⟨a, b, c, d⟩ := h
  refine ⟨?_, fun q hq => ?_, fun q hq => ?_, fun x hx => ?_⟩
  · rw [hr_w_self]; exact hv
  · rw [hr_w_k S (by decide), hr_w_k S (by decide), hr_w_k S (by decide)]; exact b q hq
  · rw [hr_w_k S (by decide)]; exact c q hq
  · rw [hr_w_k S (by decide)]; exact d x hx
theorem MI_x {S : hr_S} (h : hr_MI S) {q : Nat} {v : Int32} (hv : nb v 8) : hr_MI (hr_w S 17 0 q v) := by
  obtain ⟨a, b, c, d⟩ := h
  refine ⟨?_, fun q hq => ?_, fun q' hq => ?_, fun x hx => ?_⟩
  · rw [hr_w_k S (by decide)]; exact a
  · rw [hr_w_k S (by decide), hr_w_k S (by decide), hr_w_k S (by decide)]; exact b q hq
  · rw [hr_w_at]; split
    · exact hv
    · exact c q' hq
  · rw [hr_w_k S (by decide)]; exact d x hx
theorem MI_l {S : hr_S} (h : hr_MI S) {q : Nat} {v : Int32} (hv : v = 0 ∨ v = 1) : hr_MI (hr_w S 15 0 q v) := by
  obtain ⟨a, b, c, d⟩ := h
  refine ⟨?_, fun q hq => ?_, fun q' hq => ?_, fun x hx => ?_⟩
  · rw [hr_w_k S (by decide)]; exact a
  · rw [hr_w_k S (by decide), hr_w_k S (by decide), hr_w_k S (by decide)]; exact b q hq
  · rw [hr_w_k S (by decide)]; exact c q' hq
  · rw [hr_w_at]; split
    · exact hv
    · exact d x hx
theorem MI_p {S : hr_S} (h : hr_MI S) {k q : Nat} {v : Int32} (hk : k = 21 ∨ k = 22 ∨ k = 23) (hv : (k = 21 ∨ k = 22 → nb v 8) ∧ (k = 23 → nb v 165)) : hr_MI (hr_w S k 0 q v) := by
  obtain ⟨a, b, c, d⟩ := h
  refine ⟨?_, fun q' hq => ?_, fun q' hq => ?_, fun x hx => ?_⟩
  · rw [hr_w_k S (by omega)]; exact a
  · obtain ⟨b1, b2, b3⟩ := b q' hq
    refine ⟨?_, ?_, ?_⟩
    · rw [hr_w_at]; split
      · next z => exact hv.1 (Or.inl z.1.symm)
      · exact b1
    · rw [hr_w_at]; split
      · next z => exact hv.1 (Or.inr z.1.symm)
      · exact b2
    · rw [hr_w_at]; split
      · next z => exact hv.2 z.1.symm
      · exact b3
  · rw [hr_w_k S (by omega)]; exact c q' hq
  · rw [hr_w_k S (by omega)]; exact d x hx
/-! the draft: n bytes are made -/
def md_put (S : hr_S) (n : Nat) (b : Int32) : hr_S := hr_w (hr_w S 25 0 n b) 14 0 16 (nI (n + 1))
theorem md_put_m (S : hr_S) (n : Nat) (b : Int32) : md_put S n b 14 0 16 = nI (n + 1) := hr_w_self _ _ _ _ _
theorem MI_put {S : hr_S} (h : hr_MI S) {n : Nat} {b : Int32} : hr_MI (md_put S n b) := by
  unfold md_put
  refine MI_o (MI_o h ?_ ?_ ?_ ?_ ?_ ?_) ?_ ?_ ?_ ?_ ?_ ?_ <;> omega
def md_begin (S : hr_S) (b : Int32) : hr_S := md_put (md_put (md_put (md_put (hr_w S 14 0 16 0) 0 b) 1 2) 2 0) 3 0
theorem md_begin_m (S : hr_S) (b : Int32) : md_begin S b 14 0 16 = nI 4 := md_put_m _ _ _
theorem MI_begin {S : hr_S} (h : hr_MI S) {b : Int32} : hr_MI (md_begin S b) := MI_put (MI_put (MI_put (MI_put (MI_o h (by decide) (by decide) (by decide) (by decide) (by decide) (by decide)))))
def md_zero (S : hr_S) (n : Nat) : Nat → hr_S
  | 0 => S
  | k + 1 => md_put (md_zero S n k) (n + k) 0
def md_ent1 (S : hr_S) (n : Nat) (f d : Int32) : hr_S := md_put (md_put (md_put (md_put (md_put (md_put (md_put (md_put (md_put (md_put (md_put S n 0) (n + 1) f) (n + 2) 0) (n + 3) 0) (n + 4) 10) (n + 5) 0) (n + 6) d) (n + 7) 0) (n + 8) 255) (n + 9) 255) (n + 10) 255
def md_entry (S : hr_S) (n : Nat) (f d t : Int32) : hr_S := md_put (md_zero (md_ent1 S n f d) (n + 11) 8) (n + 19) t
theorem md_zero_m {S : hr_S} {n : Nat} (h : S 14 0 16 = nI n) : ∀ k, md_zero S n k 14 0 16 = nI (n + k)
  | 0 => h
  | k + 1 => md_put_m _ _ _
theorem md_entry_m (S : hr_S) (n : Nat) (f d t : Int32) : md_entry S n f d t 14 0 16 = nI (n + 20) := md_put_m _ _ _
theorem MI_zero {S : hr_S} (h : hr_MI S) {n : Nat} : ∀ k, hr_MI (md_zero S n k)
  | 0 => h
  | k + 1 => MI_put (MI_zero h k)
theorem MI_entry {S : hr_S} (h : hr_MI S) {n : Nat} {f d t : Int32} : hr_MI (md_entry S n f d t) :=
  MI_put (MI_zero (MI_put (MI_put (MI_put (MI_put (MI_put (MI_put (MI_put (MI_put (MI_put (MI_put (MI_put h))))))))))) 8)
/-! a packet is posted, or taken out -/
def md_n (S : hr_S) : Nat := un (S 14 0 11)
def md_m (S : hr_S) : Nat := un (S 14 0 16)
def md_cpL (S : hr_S) (q : Nat) : Nat → hr_S
  | 0 => S
  | i + 1 => hr_w (md_cpL S q i) 24 0 (164 * q + i) (md_cpL S q i 25 0 i)
def md_pst1 (S : hr_S) (a b : Int32) : hr_S := hr_w (hr_w (hr_w (hr_w S 14 0 3 (S 14 0 3 + 1)) 21 0 (md_n S) a) 22 0 (md_n S) b) 23 0 (md_n S) (nI (md_m S))
def md_post (S : hr_S) (a b : Int32) : hr_S := if md_n S = 200 then hr_w (hr_w S 14 0 3 (S 14 0 3 + 1)) 14 0 2 (S 14 0 2 + 1) else hr_w (md_cpL (md_pst1 S a b) (md_n S) (md_m S)) 14 0 11 (nI (md_n S + 1))
theorem MI_cpL {S : hr_S} (h : hr_MI S) {q : Nat} : ∀ i, hr_MI (md_cpL S q i)
  | 0 => h
  | i + 1 => MI_o (MI_cpL h i) (by omega) (by omega) (by omega) (by omega) (by omega) (by omega)
theorem MI_pst1 {S : hr_S} (h : hr_MI S) {a b : Int32} (ha : nb a 8) (hb : nb b 8) (hm : md_m S < 165) : hr_MI (md_pst1 S a b) := by
  unfold md_pst1
  refine MI_p (MI_p (MI_p (MI_o h ?_ ?_ ?_ ?_ ?_ ?_) (Or.inl rfl) ⟨fun _ => ha, fun z => ?_⟩) (Or.inr (Or.inl rfl)) ⟨fun _ => hb, fun z => ?_⟩) (Or.inr (Or.inr rfl)) ⟨fun z => ?_, fun _ => nb_nI hm (by decide)⟩ <;> omega
theorem MI_post {S : hr_S} (h : hr_MI S) {a b : Int32} (ha : nb a 8) (hb : nb b 8) (hm : md_m S < 165) : hr_MI (md_post S a b) := by
  have h1 := h.1.2
  unfold md_post
  split
  · refine MI_o (MI_o h ?_ ?_ ?_ ?_ ?_ ?_) ?_ ?_ ?_ ?_ ?_ ?_ <;> omega
  · next hn => exact MI_n (MI_cpL (MI_pst1 h ha hb hm) _) (nb_nI (by unfold md_n at hn ⊢; omega) (by decide))
def md_tkI (S : hr_S) (q : Nat) : Nat → hr_S
  | 0 => S
  | i + 1 => hr_w (md_tkI S q i) 24 0 (164 * q + i) (md_tkI S q i 24 0 (164 * (q + 1) + i))
def md_tk1 (S : hr_S) (q : Nat) : hr_S := hr_w (hr_w (hr_w S 21 0 q (S 21 0 (q + 1))) 22 0 q (S 22 0 (q + 1))) 23 0 q (S 23 0 (q + 1))
def md_tkL (S : hr_S) (k : Nat) : Nat → hr_S
  | 0 => S
  | j + 1 => md_tkI (md_tk1 (md_tkL S k j) (k + j)) (k + j) 164
def md_take (S : hr_S) (k : Nat) : hr_S := md_tkL (hr_w S 14 0 11 (nI (md_n S - 1))) k (md_n S - 1 - k)
theorem MI_tkI {S : hr_S} (h : hr_MI S) {q : Nat} : ∀ i, hr_MI (md_tkI S q i)
  | 0 => h
  | i + 1 => MI_o (MI_tkI h i) (by omega) (by omega) (by omega) (by omega) (by omega) (by omega)
theorem MI_tk1 {S : hr_S} (h : hr_MI S) {q : Nat} (hq : q + 1 < 200) : hr_MI (md_tk1 S q) := by
  obtain ⟨b1, b2, b3⟩ := h.2.1 (q + 1) hq
  unfold md_tk1
  refine MI_p (MI_p (MI_p h (Or.inl rfl) ⟨fun _ => b1, fun z => ?_⟩) (Or.inr (Or.inl rfl)) ⟨fun _ => b2, fun z => ?_⟩) (Or.inr (Or.inr rfl)) ⟨fun z => ?_, fun _ => b3⟩ <;> omega
theorem MI_tkL {S : hr_S} (h : hr_MI S) {k : Nat} : ∀ j, k + j < 200 → hr_MI (md_tkL S k j)
  | 0, _ => h
  | j + 1, hj => MI_tkI (MI_tk1 (MI_tkL h j (by omega)) (by omega)) 164
theorem MI_take {S : hr_S} (h : hr_MI S) {k : Nat} (hk : k < md_n S) : hr_MI (md_take S k) := by
  have h1 : md_n S < 201 := h.1.2
  exact MI_tkL (MI_n h (nb_nI (by omega) (by decide))) _ (by omega)
/-! the table of the model -/
def md_gone (S : hr_S) (q : Nat) : hr_S := hr_w (hr_w (hr_w (hr_w S 16 0 q 16) 18 0 q 0) 19 0 q 1) 20 0 q 20
def md_new (S : hr_S) (q : Nat) (a t : Int32) : hr_S := hr_w (hr_w (hr_w (hr_w (hr_w S 16 0 q t) 17 0 q a) 18 0 q 0) 19 0 q 1) 20 0 q 0
def md_bet (S : hr_S) (q : Nat) (a t : Int32) : hr_S := hr_w (hr_w (hr_w (hr_w S 16 0 q t) 17 0 q a) 18 0 q 0) 19 0 q 1
def md_hn1 (S : hr_S) (q : Nat) (t : Int32) : hr_S := hr_w S 18 0 q (if 16 ≤ t then S 18 0 q else 0)
def md_hn2 (S : hr_S) (q : Nat) (t : Int32) : hr_S := hr_w (hr_w (md_hn1 S q t) 16 0 q t) 19 0 q 1
def md_hn (S : hr_S) (q : Nat) (t : Int32) : hr_S := if t = S 16 0 q then md_hn1 S q t else if t = 16 then md_gone (md_hn2 S q t) q else md_hn2 S q t
def md_hear (S : hr_S) (q : Nat) (a t : Int32) : hr_S := if S 16 0 q = 0 then (if 16 ≤ t then S else md_new S q a t) else if S 20 0 q ≤ 0 then (if S 17 0 q = a then md_hn S q t else if S 16 0 q ≤ t then S else md_bet S q a t) else S
theorem MI_gone {S : hr_S} (h : hr_MI S) {q : Nat} : hr_MI (md_gone S q) := by
  unfold md_gone
  refine MI_o (MI_o (MI_o (MI_o h ?_ ?_ ?_ ?_ ?_ ?_) ?_ ?_ ?_ ?_ ?_ ?_) ?_ ?_ ?_ ?_ ?_ ?_) ?_ ?_ ?_ ?_ ?_ ?_ <;> omega
theorem MI_bet {S : hr_S} (h : hr_MI S) {q : Nat} {a t : Int32} (ha : nb a 8) : hr_MI (md_bet S q a t) := by
  unfold md_bet
  refine MI_o (MI_o (MI_x (MI_o h ?_ ?_ ?_ ?_ ?_ ?_) ha) ?_ ?_ ?_ ?_ ?_ ?_) ?_ ?_ ?_ ?_ ?_ ?_ <;> omega
theorem MI_new {S : hr_S} (h : hr_MI S) {q : Nat} {a t : Int32} (ha : nb a 8) : hr_MI (md_new S q a t) := by
  refine MI_o (MI_bet h ha) ?_ ?_ ?_ ?_ ?_ ?_ <;> omega
theorem MI_hn1 {S : hr_S} (h : hr_MI S) {q : Nat} {t : Int32} : hr_MI (md_hn1 S q t) := by
  unfold md_hn1
  refine MI_o h ?_ ?_ ?_ ?_ ?_ ?_ <;> omega
theorem MI_hn2 {S : hr_S} (h : hr_MI S) {q : Nat} {t : Int32} : hr_MI (md_hn2 S q t) := by
  unfold md_hn2
  refine MI_o (MI_o (MI_hn1 h) ?_ ?_ ?_ ?_ ?_ ?_) ?_ ?_ ?_ ?_ ?_ ?_ <;> omega
theorem MI_hear {S : hr_S} (h : hr_MI S) {q : Nat} {a t : Int32} (ha : nb a 8) : hr_MI (md_hear S q a t) := by
  unfold md_hear md_hn
  repeat' split
  all_goals first | exact h | exact MI_new h ha | exact MI_bet h ha | exact MI_hn1 h | exact MI_hn2 h | exact MI_gone (MI_hn2 h)
