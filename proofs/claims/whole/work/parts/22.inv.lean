/-! what stays true of the class's numbers -/
abbrev un (x : Int32) : Nat := x.toNatClampNeg
def nb (x : Int32) (N : Nat) : Prop := x = nI (un x) ∧ un x < N
theorem un_nI {n : Nat} (h : n < 2 ^ 31) : un (nI n) = n := nI_clamp h
theorem nb_nI {n N : Nat} (h : n < N) (hN : N ≤ 2 ^ 31) : nb (nI n) N := by
  have h1 : un (nI n) = n := un_nI (by omega)
  exact ⟨by rw [h1], by rw [h1]; exact h⟩
def hr_CI (S : hr_S) : Prop := nb (S 3 0 2) 201 ∧ (∀ k, k < 200 → nb (S 5 0 k) 200) ∧ (∀ k k', k < 200 → k' < 200 → un (S 5 0 k) = un (S 5 0 k') → k = k') ∧
  (∀ i, i < 202 → nb (S 6 i 0) 8 ∧ nb (S 6 i 1) 8 ∧ nb (S 6 i 2) 165) ∧ (∀ t d, t < 8 → d < 8 → nb (S 10 t d) 8) ∧ ∀ x, x < 64 → S 1 0 x = 0 ∨ S 1 0 x = 1
theorem hr_w_self (S : hr_S) (k i j : Nat) (v : Int32) : hr_w S k i j v k i j = v := by simp [hr_w, hr_wA, upd]
theorem hr_w_k (S : hr_S) {k i j k' : Nat} {v : Int32} (h : k' ≠ k) (i' j' : Nat) : hr_w S k i j v k' i' j' = S k' i' j' := by simp [hr_w, hr_wA, h]
theorem hr_w_i (S : hr_S) {k i j i' : Nat} {v : Int32} (h : i' ≠ i) (j' : Nat) : hr_w S k i j v k i' j' = S k i' j' := by simp [hr_w, hr_wA, h]
theorem hr_w_j (S : hr_S) {k i j j' : Nat} {v : Int32} (h : j' ≠ j) : hr_w S k i j v k i j' = S k i j' := by simp [hr_w, hr_wA, upd, h]
theorem hr_w_at (S : hr_S) (k i j : Nat) (v : Int32) (k' i' j' : Nat) : hr_w S k i j v k' i' j' = if k' = k ∧ i' = i ∧ j' = j then v else S k' i' j' := by
  unfold hr_w hr_wA upd
  by_cases h1 : k' = k ∧ i' = i
  · obtain ⟨rfl, rfl⟩ := h1
    by_cases h2 : j' = j <;> simp [h2]
  · rw [if_neg h1, if_neg (fun h => h1 ⟨h.1, h.2.1⟩)]
theorem hr_wA_at (S : hr_S) (k i : Nat) (f : Nat → Int32) (k' i' j' : Nat) : hr_wA S k i f k' i' j' = if k' = k ∧ i' = i then f j' else S k' i' j' := by
  unfold hr_wA
  by_cases h1 : k' = k ∧ i' = i <;> simp [h1]
/-- a write elsewhere -/
theorem CI_o {S : hr_S} (h : hr_CI S) {k i j : Nat} {v : Int32} (h1 : k ≠ 1) (h3 : k = 3 → j ≠ 2) (h5 : k ≠ 5) (h6 : k ≠ 6) (h10 : k ≠ 10) : hr_CI (hr_w S k i j v) := by
  obtain ⟨a, b, c, d, e, f⟩ := h
  refine ⟨?_, fun q hq => ?_, fun q q' hq hq' => ?_, fun q hq => ?_, fun t d' ht hd => ?_, fun x hx => ?_⟩
  · rw [hr_w_at, if_neg (fun z => h3 z.1.symm z.2.2.symm)]; exact a
  · rw [hr_w_at, if_neg (fun z => h5 z.1.symm)]; exact b q hq
  · rw [hr_w_at, if_neg (fun z => h5 z.1.symm), hr_w_at, if_neg (fun z => h5 z.1.symm)]; exact c q q' hq hq'
  · rw [hr_w_at, if_neg (fun z => h6 z.1.symm), hr_w_at, if_neg (fun z => h6 z.1.symm), hr_w_at, if_neg (fun z => h6 z.1.symm)]; exact d q hq
  · rw [hr_w_at, if_neg (fun z => h10 z.1.symm)]; exact e t d' ht hd
  · rw [hr_w_at, if_neg (fun z => h1 z.1.symm)]; exact f x hx
theorem CI_oA {S : hr_S} (h : hr_CI S) {k i : Nat} {g : Nat → Int32} (h1 : k ≠ 1) (h3 : k ≠ 3) (h5 : k ≠ 5) (h6 : k ≠ 6) (h10 : k ≠ 10) : hr_CI (hr_wA S k i g) := by
  obtain ⟨a, b, c, d, e, f⟩ := h
  refine ⟨?_, fun q hq => ?_, fun q q' hq hq' => ?_, fun q hq => ?_, fun t d' ht hd => ?_, fun x hx => ?_⟩
  · rw [hr_wA_at, if_neg (fun z => h3 z.1.symm)]; exact a
  · rw [hr_wA_at, if_neg (fun z => h5 z.1.symm)]; exact b q hq
  · rw [hr_wA_at, if_neg (fun z => h5 z.1.symm), hr_wA_at, if_neg (fun z => h5 z.1.symm)]; exact c q q' hq hq'
  · rw [hr_wA_at, if_neg (fun z => h6 z.1.symm), hr_wA_at, if_neg (fun z => h6 z.1.symm), hr_wA_at, if_neg (fun z => h6 z.1.symm)]; exact d q hq
  · rw [hr_wA_at, if_neg (fun z => h10 z.1.symm)]; exact e t d' ht hd
  · rw [hr_wA_at, if_neg (fun z => h1 z.1.symm)]; exact f x hx
/-- the number of packets -/
theorem CI_n {S : hr_S} (h : hr_CI S) {v : Int32} (hv : nb v 201) : hr_CI (hr_w S 3 0 2 v) := by
  obtain ⟨a, b, c, d, e, f⟩ := h
  refine ⟨?_, fun q hq => ?_, fun q q' hq hq' => ?_, fun q hq => ?_, fun t d' ht hd => ?_, fun x hx => ?_⟩
  · rw [hr_w_self]; exact hv
  · rw [hr_w_k S (by decide)]; exact b q hq
  · rw [hr_w_k S (by decide), hr_w_k S (by decide)]; exact c q q' hq hq'
  · rw [hr_w_k S (by decide), hr_w_k S (by decide), hr_w_k S (by decide)]; exact d q hq
  · rw [hr_w_k S (by decide)]; exact e t d' ht hd
  · rw [hr_w_k S (by decide)]; exact f x hx
/-- a packet's from, to or length -/
theorem CI_p {S : hr_S} (h : hr_CI S) {i j : Nat} {v : Int32} (hv : (j = 0 ∨ j = 1 → nb v 8) ∧ (j = 2 → nb v 165)) : hr_CI (hr_w S 6 i j v) := by
  obtain ⟨a, b, c, d, e, f⟩ := h
  refine ⟨?_, fun q hq => ?_, fun q q' hq hq' => ?_, fun q hq => ?_, fun t d' ht hd => ?_, fun x hx => ?_⟩
  · rw [hr_w_k S (by decide)]; exact a
  · rw [hr_w_k S (by decide)]; exact b q hq
  · rw [hr_w_k S (by decide), hr_w_k S (by decide)]; exact c q q' hq hq'
  · obtain ⟨d0, d1, d2⟩ := d q hq
    refine ⟨?_, ?_, ?_⟩
    · rw [hr_w_at]; split
      · next z => exact hv.1 (Or.inl z.2.2.symm)
      · exact d0
    · rw [hr_w_at]; split
      · next z => exact hv.1 (Or.inr z.2.2.symm)
      · exact d1
    · rw [hr_w_at]; split
      · next z => exact hv.2 z.2.2.symm
      · exact d2
  · rw [hr_w_k S (by decide)]; exact e t d' ht hd
  · rw [hr_w_k S (by decide)]; exact f x hx
theorem CI_x {S : hr_S} (h : hr_CI S) {t d : Nat} {v : Int32} (hv : nb v 8) : hr_CI (hr_w S 10 t d v) := by
  obtain ⟨a, b, c, d0, e, f⟩ := h
  refine ⟨?_, fun q hq => ?_, fun q q' hq hq' => ?_, fun q hq => ?_, fun t' d' ht hd => ?_, fun x hx => ?_⟩
  · rw [hr_w_k S (by decide)]; exact a
  · rw [hr_w_k S (by decide)]; exact b q hq
  · rw [hr_w_k S (by decide), hr_w_k S (by decide)]; exact c q q' hq hq'
  · rw [hr_w_k S (by decide), hr_w_k S (by decide), hr_w_k S (by decide)]; exact d0 q hq
  · rw [hr_w_at]; split
    · exact hv
    · exact e t' d' ht hd
  · rw [hr_w_k S (by decide)]; exact f x hx
theorem CI_l {S : hr_S} (h : hr_CI S) {x : Nat} {v : Int32} (hv : v = 0 ∨ v = 1) : hr_CI (hr_w S 1 0 x v) := by
  obtain ⟨a, b, c, d0, e, f⟩ := h
  refine ⟨?_, fun q hq => ?_, fun q q' hq hq' => ?_, fun q hq => ?_, fun t' d' ht hd => ?_, fun x' hx => ?_⟩
  · rw [hr_w_k S (by decide)]; exact a
  · rw [hr_w_k S (by decide)]; exact b q hq
  · rw [hr_w_k S (by decide), hr_w_k S (by decide)]; exact c q q' hq hq'
  · rw [hr_w_k S (by decide), hr_w_k S (by decide), hr_w_k S (by decide)]; exact d0 q hq
  · rw [hr_w_k S (by decide)]; exact e t' d' ht hd
  · rw [hr_w_at]; split
    · exact hv
    · exact f x' hx
/-! packets: the pure steps -/
def pk_begin (S : hr_S) (i : Nat) (a b h : Int32) : hr_S := hr_w (hr_w (hr_w (hr_w S 6 i 0 a) 6 i 1 b) 7 i 0 h) 6 i 2 4
def pk_ent (S : hr_S) (i : Nat) : Nat := (un (S 6 i 2) - 4) / 20
def pk_add5 (S : hr_S) (i w : Nat) (f d t : Int32) : hr_S := hr_w (hr_w (hr_w (hr_w (hr_w S 7 i w (f <<< ((16 : Int32) &&& 31))) 7 i (w + 1) (167772160 ||| (d <<< ((8 : Int32) &&& 31)))) 7 i (w + 2) (-256)) 7 i (w + 3) 0) 7 i (w + 4) t
def pk_addE (S : hr_S) (i : Nat) (f d t : Int32) : hr_S := if un (S 6 i 2) ≤ 144 then hr_w (pk_add5 S i (1 + (pk_ent S i * 5)) f d t) 6 i 2 (nI (un (S 6 i 2) + 20)) else S
def pk_become (S : hr_S) (i j : Nat) : hr_S := hr_wA (hr_w (hr_w (hr_w S 6 i 0 (S 6 j 0)) 6 i 1 (S 6 j 1)) 6 i 2 (S 6 j 2)) 7 i (va_cpy (S 7 j) (S 7 i) 0 0 41)
theorem CI_begin {S : hr_S} (h : hr_CI S) {i : Nat} {a b g : Int32} (ha : nb a 8) (hb : nb b 8) : hr_CI (pk_begin S i a b g) := by
  refine CI_p (CI_o (CI_p (CI_p h ⟨fun _ => ha, fun z => by omega⟩) ⟨fun _ => hb, fun z => by omega⟩) (by decide) (by decide) (by decide) (by decide) (by decide)) ⟨fun z => by omega, fun _ => nb_nI (n := 4) (by decide) (by decide)⟩
theorem CI_add5 {S : hr_S} (h : hr_CI S) {i w : Nat} {f d t : Int32} : hr_CI (pk_add5 S i w f d t) := by
  unfold pk_add5
  refine CI_o (CI_o (CI_o (CI_o (CI_o h ?_ ?_ ?_ ?_ ?_) ?_ ?_ ?_ ?_ ?_) ?_ ?_ ?_ ?_ ?_) ?_ ?_ ?_ ?_ ?_) ?_ ?_ ?_ ?_ ?_ <;> omega
theorem CI_addE {S : hr_S} (h : hr_CI S) {i : Nat} {f d t : Int32} : hr_CI (pk_addE S i f d t) := by
  unfold pk_addE
  split
  · exact CI_p (CI_add5 h) ⟨fun z => by omega, fun _ => nb_nI (by omega) (by decide)⟩
  · exact h
theorem CI_become {S : hr_S} (h : hr_CI S) {i j : Nat} (hj : j < 202) : hr_CI (pk_become S i j) := by
  obtain ⟨d0, d1, d2⟩ := h.2.2.2.1 j hj
  exact CI_oA (CI_p (CI_p (CI_p h ⟨fun _ => d0, fun z => by omega⟩) ⟨fun _ => d1, fun z => by omega⟩) ⟨fun z => by omega, fun _ => d2⟩) (by decide) (by decide) (by decide) (by decide) (by decide)
/-! the air -/
def ai_n (S : hr_S) : Nat := un (S 3 0 2)
def ai_o (S : hr_S) (k : Nat) : Nat := un (S 5 0 k)
def ai_launch (S : hr_S) (q : Nat) : hr_S := if ai_n S < 200 then hr_w (pk_become (hr_w S 3 0 3 (S 3 0 3 + 1)) (ai_o S (ai_n S)) q) 3 0 2 (nI (ai_n S + 1)) else hr_w (hr_w S 3 0 3 (S 3 0 3 + 1)) 3 0 4 (S 3 0 4 + 1)
def ai_remove (S : hr_S) (k : Nat) : hr_S := hr_w (hr_wA (hr_w S 3 0 2 (nI (ai_n S - 1))) 5 0 (va_cpy (S 5 0) (S 5 0) (k + 1) k (ai_n S - 1 - k))) 5 0 (ai_n S - 1) (S 5 0 k)
theorem CI_launch {S : hr_S} (h : hr_CI S) {q : Nat} (hq : q < 202) : hr_CI (ai_launch S q) := by
  have h1 : hr_CI (hr_w S 3 0 3 (S 3 0 3 + 1)) := CI_o h (by decide) (by decide) (by decide) (by decide) (by decide)
  unfold ai_launch
  split
  · exact CI_n (CI_become h1 hq) (nb_nI (by omega) (by decide))
  · exact CI_o h1 (by decide) (by decide) (by decide) (by decide) (by decide)
theorem ai_rem_at (S : hr_S) {k n : Nat} (hk : k < n) (j : Nat) : hr_w (hr_wA S 5 0 (va_cpy (S 5 0) (S 5 0) (k + 1) k (n - 1 - k))) 5 0 (n - 1) (S 5 0 k) 5 0 j = S 5 0 (if j < k then j else if j < n - 1 then j + 1 else if j = n - 1 then k else j) := by
  rw [hr_w_at]
  by_cases h1 : j = n - 1
  · subst h1
    rw [if_pos ⟨rfl, rfl, rfl⟩, if_neg (by omega), if_neg (by omega), if_pos rfl]
  · rw [if_neg (fun z => h1 z.2.2), hr_wA_self]
    by_cases h2 : j < k
    · rw [if_pos h2, pk_cpy_out (by omega)]
    · rw [if_neg h2]
      by_cases h3 : j < n - 1
      · rw [if_pos h3, pk_cpy_in (by omega) (by omega)]
        congr 1
        omega
      · rw [if_neg h3, if_neg h1, pk_cpy_out (by omega)]
theorem CI_remove {S : hr_S} (h : hr_CI S) {k : Nat} (hk : k < ai_n S) : hr_CI (ai_remove S k) := by
  have hn : ai_n S ≤ 200 := by have := h.1.2; unfold ai_n; omega
  have h0 : hr_CI (hr_w S 3 0 2 (nI (ai_n S - 1))) := CI_n h (nb_nI (by omega) (by decide))
  obtain ⟨a, b, c, d, e, f⟩ := h0
  have hx : ∀ j, ai_remove S k 5 0 j = S 5 0 (if j < k then j else if j < ai_n S - 1 then j + 1 else if j = ai_n S - 1 then k else j) := fun j => ai_rem_at (hr_w S 3 0 2 (nI (ai_n S - 1))) hk j
  have ho : ∀ k' i' j', k' ≠ 5 → ai_remove S k k' i' j' = hr_w S 3 0 2 (nI (ai_n S - 1)) k' i' j' := fun k' i' j' hne => by
    unfold ai_remove
    rw [hr_w_k _ hne, hr_wA_at, if_neg (fun z => hne z.1)]
  refine ⟨?_, fun q hq => ?_, fun q q' hq hq' hE => ?_, fun q hq => ?_, fun t d' ht hd => ?_, fun x hx => ?_⟩
  · rw [ho _ _ _ (by decide)]; exact a
  · rw [hx]; exact h.2.1 _ (by split <;> (try split) <;> (try split) <;> omega)
  · rw [hx, hx] at hE
    have := h.2.2.1 _ _ (by split <;> (try split) <;> (try split) <;> omega) (by split <;> (try split) <;> (try split) <;> omega) hE
    split at this <;> (try split at this) <;> (try split at this) <;> (try split at this) <;> (try split at this) <;> (try split at this) <;> omega
  · rw [ho _ _ _ (by decide), ho _ _ _ (by decide), ho _ _ _ (by decide)]; exact d q hq
  · rw [ho _ _ _ (by decide)]; exact e t d' ht hd
  · rw [ho _ _ _ (by decide)]; exact f x hx
/-! tables -/
theorem CI_adopt {S : hr_S} (h : hr_CI S) {t d : Nat} {a b : Int32} (hb : nb b 8) : hr_CI (tb_adopt S t d a b) := by
  unfold tb_adopt
  refine CI_o (CI_o (CI_o (CI_x (CI_o h ?_ ?_ ?_ ?_ ?_) hb) ?_ ?_ ?_ ?_ ?_) ?_ ?_ ?_ ?_ ?_) ?_ ?_ ?_ ?_ ?_ <;> omega
theorem CI_gone {S : hr_S} (h : hr_CI S) {t d : Nat} : hr_CI (tb_gone S t d) := by
  unfold tb_gone
  refine CI_o (CI_o (CI_o (CI_o h ?_ ?_ ?_ ?_ ?_) ?_ ?_ ?_ ?_ ?_) ?_ ?_ ?_ ?_ ?_) ?_ ?_ ?_ ?_ ?_ <;> omega
theorem CI_forget {S : hr_S} (h : hr_CI S) {t d : Nat} : hr_CI (tb_forget S t d) := by
  unfold tb_forget
  refine CI_o (CI_o h ?_ ?_ ?_ ?_ ?_) ?_ ?_ ?_ ?_ ?_ <;> omega
theorem CI_hfn1 {S : hr_S} (h : hr_CI S) {t d : Nat} {a : Int32} : hr_CI (tb_hfn1 S t d a) := by
  unfold tb_hfn1
  split
  · refine CI_o h ?_ ?_ ?_ ?_ ?_ <;> omega
  · exact h
theorem CI_hfn {S : hr_S} (h : hr_CI S) {t d : Nat} {a : Int32} : hr_CI (tb_hfn S t d a) := by
  unfold tb_hfn
  split
  · exact CI_hfn1 h
  · split
    · exact CI_gone (CI_hfn1 h)
    · refine CI_o (CI_o (CI_hfn1 h) ?_ ?_ ?_ ?_ ?_) ?_ ?_ ?_ ?_ ?_ <;> omega
theorem CI_hear {S : hr_S} (h : hr_CI S) {t d : Nat} {a b : Int32} (hb : nb b 8) : hr_CI (tb_hear S t d a b) := by
  unfold tb_hear
  split
  · split
    · split
      · exact CI_hfn h
      · split
        · exact CI_adopt h hb
        · exact h
    · exact h
  · split
    · exact CI_adopt h hb
    · exact h
theorem CI_age {S : hr_S} (h : hr_CI S) {t d : Nat} : hr_CI (tb_age S t d) := by
  have h1 : hr_CI (tb_age1 S t d) := by unfold tb_age1; refine CI_o h ?_ ?_ ?_ ?_ ?_ <;> omega
  have h2 : hr_CI (tb_age2 S t d) := by
    unfold tb_age2
    split
    · exact h1
    · refine CI_o h1 ?_ ?_ ?_ ?_ ?_ <;> omega
  unfold tb_age
  split
  · split
    · exact h2
    · exact CI_forget h2
  · split
    · exact h2
    · exact CI_gone h2
theorem CI_grow {S : hr_S} (h : hr_CI S) {t : Nat} : ∀ d, hr_CI (tb_grow S t d)
  | 0 => h
  | d + 1 => by
    unfold tb_grow
    split
    · exact CI_age (CI_grow h d)
    · exact CI_grow h d
theorem CI_fall {S : hr_S} (h : hr_CI S) {t : Nat} : ∀ d, hr_CI (tb_fall S t d)
  | 0 => h
  | d + 1 => CI_forget (CI_fall h d)
theorem CI_clr {S : hr_S} (h : hr_CI S) {t : Nat} : ∀ d, hr_CI (tb_clr S t d)
  | 0 => h
  | d + 1 => by unfold tb_clr; refine CI_o (CI_clr h d) ?_ ?_ ?_ ?_ ?_ <;> omega
theorem CI_lose {S : hr_S} (h : hr_CI S) {t : Nat} {x : Int32} : ∀ d, hr_CI (tb_lose S t x d).1
  | 0 => h
  | d + 1 => by
    unfold tb_lose
    split
    · exact CI_gone (CI_lose h d)
    · exact CI_lose h d
