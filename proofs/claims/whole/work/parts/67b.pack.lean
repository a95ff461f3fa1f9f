/-! PACKETS: the draft, the air, what comes -/
/-- packet q of the class is the model's draft -/
def rQ (A B : hr_S) (q : Nat) (a b : Int32) (n : Nat) : Prop := A 6 q 0 = a ∧ A 6 q 1 = b ∧ A 6 q 2 = nI n ∧ B 14 0 16 = nI n ∧ ∀ i, i < n → hr_by (A 7 q) i = B 25 0 i
theorem put_25 (S : hr_S) (n : Nat) (b : Int32) (i : Nat) : md_put S n b 25 0 i = if i = n then b else S 25 0 i := by
  unfold md_put
  rw [hr_w_k _ (by decide), hr_w_at]
  by_cases h : i = n <;> simp [h]
theorem begin_25 (S : hr_S) (b : Int32) (i : Nat) : md_begin S b 25 0 i = if i = 3 then 0 else if i = 2 then 0 else if i = 1 then 2 else if i = 0 then b else S 25 0 i := by
  unfold md_begin
  rw [put_25, put_25, put_25, put_25, hr_w_k _ (by decide)]
theorem zero_25 (S : hr_S) (m i : Nat) : ∀ k, md_zero S m k 25 0 i = if m ≤ i ∧ i < m + k then 0 else S 25 0 i
  | 0 => by rw [if_neg (by omega)]; rfl
  | k + 1 => by
    unfold md_zero
    rw [put_25, zero_25 S m i k]
    by_cases h : i = m + k
    · rw [if_pos h, if_pos (by omega)]
    · rw [if_neg h]
      by_cases h2 : m ≤ i ∧ i < m + k
      · rw [if_pos h2, if_pos (by omega)]
      · rw [if_neg h2, if_neg (by omega)]
/-- the bytes of an entry -/
def eb (f d t : Int32) (j : Nat) : Int32 := if j = 1 then f else if j = 4 then 10 else if j = 6 then d else if j = 8 then 255 else if j = 9 then 255 else if j = 10 then 255 else if j = 19 then t else 0
theorem entry_lo (S : hr_S) {n i : Nat} (f d t : Int32) (h : i < n) : md_entry S n f d t 25 0 i = S 25 0 i := by
  unfold md_entry md_ent1
  rw [put_25, if_neg (by omega), zero_25, if_neg (by omega)]
  repeat rw [put_25, if_neg (by omega)]
theorem entry_hi (S : hr_S) (n : Nat) {j : Nat} (f d t : Int32) (h : j < 20) : md_entry S n f d t 25 0 (n + j) = eb f d t j := by
  unfold md_entry md_ent1
  rw [put_25, zero_25]
  simp only [put_25]
  rcases (show j = 0 ∨ j = 1 ∨ j = 2 ∨ j = 3 ∨ j = 4 ∨ j = 5 ∨ j = 6 ∨ j = 7 ∨ j = 8 ∨ j = 9 ∨ j = 10 ∨ j = 11 ∨ j = 12 ∨ j = 13 ∨ j = 14 ∨ j = 15 ∨ j = 16 ∨ j = 17 ∨ j = 18 ∨ j = 19 by omega) with rfl | rfl | rfl | rfl | rfl | rfl | rfl | rfl | rfl | rfl | rfl | rfl | rfl | rfl | rfl | rfl | rfl | rfl | rfl | rfl <;> simp [eb]
theorem rQ_begin (A B : hr_S) (a b h c : Int32) (hc : (h = 16908288 ∧ c = 1) ∨ (h = 33685504 ∧ c = 2)) : rQ (pk_begin A 200 a b h) (md_begin B c) 200 a b 4 := by
  refine ⟨?_, ?_, ?_, md_begin_m B c, fun i hi => ?_⟩
  · unfold pk_begin; simp [hr_w_at]
  · unfold pk_begin; simp [hr_w_at]
  · unfold pk_begin; rw [hr_w_self]; rfl
  · rw [begin_25, by_b4]
    have e : pk_begin A 200 a b h 7 200 (i / 4) = h := by
      rw [show i / 4 = 0 by omega]
      unfold pk_begin
      simp [hr_w_at]
    rw [e]
    rcases hc with ⟨rfl, rfl⟩ | ⟨rfl, rfl⟩
    · rcases (show i = 0 ∨ i = 1 ∨ i = 2 ∨ i = 3 by omega) with rfl | rfl | rfl | rfl <;> (simp; decide)
    · rcases (show i = 0 ∨ i = 1 ∨ i = 2 ∨ i = 3 by omega) with rfl | rfl | rfl | rfl <;> (simp; decide)
theorem add5_7 (S : hr_S) (q w : Nat) (f d t : Int32) (j : Nat) : pk_add5 S q w f d t 7 q j = if j = w + 4 then t else if j = w + 3 then 0 else if j = w + 2 then -256 else if j = w + 1 then (167772160 ||| (d <<< ((8 : Int32) &&& 31))) else if j = w then (f <<< ((16 : Int32) &&& 31)) else S 7 q j := by
  unfold pk_add5
  simp only [hr_w_at, true_and]
theorem rQ_entry {A B : hr_S} {a b : Int32} {e : Nat} (h : rQ A B 200 a b (4 + 20 * e)) (he : e ≤ 7) {f t : Int32} {d : Nat} (hf : f = 0 ∨ f = 2) (hd : d < 8) (ht : nb t 17) : rQ (pk_addE A 200 f (nI d) t) (md_entry B (4 + 20 * e) f (nI d) t) 200 a b (4 + 20 * (e + 1)) := by
  obtain ⟨h0, h1, h2, h3, h4⟩ := h
  have hl : un (A 6 200 2) = 4 + 20 * e := by rw [h2, un_nI (by omega)]
  have hent : pk_ent A 200 = e := by unfold pk_ent; rw [hl]; omega
  have eA : pk_addE A 200 f (nI d) t = hr_w (pk_add5 A 200 (1 + (e * 5)) f (nI d) t) 6 200 2 (nI (4 + 20 * e + 20)) := by
    unfold pk_addE
    rw [if_pos (by omega), hent, hl]
  have e6 : ∀ j, j ≠ 2 → pk_addE A 200 f (nI d) t 6 200 j = A 6 200 j := fun j hj => by
    rw [eA, hr_w_at, if_neg (fun z => hj z.2.2)]
    unfold pk_add5
    repeat rw [hr_w_k _ (by decide)]
  have e7 : ∀ j, pk_addE A 200 f (nI d) t 7 200 j = pk_add5 A 200 (1 + (e * 5)) f (nI d) t 7 200 j := fun j => by
    rw [eA, hr_w_k _ (by decide)]
  refine ⟨by rw [e6 0 (by decide)]; exact h0, by rw [e6 1 (by decide)]; exact h1, by rw [eA, hr_w_self, show 4 + 20 * e + 20 = 4 + 20 * (e + 1) by omega], md_entry_m _ _ _ _ _, fun i hi => ?_⟩
  rw [by_b4, e7, add5_7]
  by_cases hlo : i < 4 + 20 * e
  · rw [if_neg (by omega), if_neg (by omega), if_neg (by omega), if_neg (by omega), if_neg (by omega), entry_lo _ _ _ _ hlo, ← by_b4]
    exact h4 i hlo
  · obtain ⟨j, hj, rfl⟩ : ∃ j, j < 20 ∧ i = 4 + 20 * e + j := ⟨i - (4 + 20 * e), by omega, by omega⟩
    rw [entry_hi _ _ _ _ _ hj]
    obtain ⟨p0, p1, p2, p3⟩ := e_w0 f hf
    obtain ⟨q0, q1, q2, q3⟩ := e_w1 hd
    obtain ⟨t0, t1, t2, t3⟩ := e_w4 ht
    rw [show (4 + 20 * e + j) / 4 = 1 + (e * 5) + j / 4 by omega, show (4 + 20 * e + j) % 4 = j % 4 by omega]
    rcases (show j = 0 ∨ j = 1 ∨ j = 2 ∨ j = 3 ∨ j = 4 ∨ j = 5 ∨ j = 6 ∨ j = 7 ∨ j = 8 ∨ j = 9 ∨ j = 10 ∨ j = 11 ∨ j = 12 ∨ j = 13 ∨ j = 14 ∨ j = 15 ∨ j = 16 ∨ j = 17 ∨ j = 18 ∨ j = 19 by omega) with rfl | rfl | rfl | rfl | rfl | rfl | rfl | rfl | rfl | rfl | rfl | rfl | rfl | rfl | rfl | rfl | rfl | rfl | rfl | rfl <;> simp [eb, p0, p1, p2, p3, q0, q1, q2, q3, t0, t1, t2, t3] <;> decide
/-! the air -/
theorem cpL_24 (S : hr_S) (q i : Nat) : ∀ n k, i < 164 → n ≤ 164 → md_cpL S q n 24 0 (164 * k + i) = if k = q ∧ i < n then S 25 0 i else S 24 0 (164 * k + i)
  | 0, k, _, _ => by rw [if_neg (by omega)]; rfl
  | n + 1, k, hi, hn => by
    unfold md_cpL
    rw [hr_w_at, cpL_24 S q i n k hi (by omega), md_cpL_k _ _ (by decide)]
    by_cases h : 164 * k + i = 164 * q + n
    · have hk : k = q := by omega
      have hin : i = n := by omega
      rw [if_pos ⟨rfl, rfl, h⟩, if_pos (by omega), hin]
    · rw [if_neg (fun z => h z.2.2)]
      by_cases h2 : k = q ∧ i < n
      · rw [if_pos h2, if_pos (by omega)]
      · rw [if_neg h2, if_neg (by omega)]
theorem become_6 (S : hr_S) (i j q f : Nat) (hf : f < 3) (hij : i ≠ j) : pk_become S i j 6 q f = if q = i then S 6 j f else S 6 q f := by
  unfold pk_become
  rw [hr_wA_at, if_neg (by omega)]
  simp only [hr_w_at]
  by_cases h : q = i
  · subst h
    rcases (show f = 0 ∨ f = 1 ∨ f = 2 by omega) with rfl | rfl | rfl <;> simp
  · simp [h]
theorem become_7 (S : hr_S) (i j q w : Nat) (hw : w < 41) : pk_become S i j 7 q w = if q = i then S 7 j w else S 7 q w := by
  unfold pk_become
  rw [hr_wA_at]
  by_cases h : q = i
  · subst h
    rw [if_pos ⟨rfl, rfl⟩, if_pos rfl]
    unfold va_cpy
    rw [if_pos (by omega)]
    simp
  · rw [if_neg (by omega), if_neg h]
    simp [hr_w_at]
theorem become_k (S : hr_S) (i j : Nat) {k : Nat} (h6 : k ≠ 6) (h7 : k ≠ 7) : pk_become S i j k = S k := by
  funext q w
  unfold pk_become
  rw [hr_wA_at, if_neg (by omega)]
  simp [hr_w_at, h6]
theorem post_k (B : hr_S) (a b : Int32) {k : Nat} (h14 : k ≠ 14) (h21 : k ≠ 21) (h22 : k ≠ 22) (h23 : k ≠ 23) (h24 : k ≠ 24) : md_post B a b k = B k := by
  funext i j
  unfold md_post
  split
  · rw [hr_w_k _ h14, hr_w_k _ h14]
  · rw [hr_w_k _ h14, md_cpL_k _ _ h24]
    unfold md_pst1
    rw [hr_w_k _ h23, hr_w_k _ h22, hr_w_k _ h21, hr_w_k _ h14]
theorem launch_k (A : hr_S) (q : Nat) {k : Nat} (h3 : k ≠ 3) (h6 : k ≠ 6) (h7 : k ≠ 7) : ai_launch A q k = A k := by
  funext i j
  unfold ai_launch
  split
  · rw [hr_w_k _ h3, become_k _ _ _ h6 h7, hr_w_k _ h3]
  · rw [hr_w_k _ h3, hr_w_k _ h3]
/-- a packet is launched: the class copies q, the model its draft -/
theorem rl_post {A B : hr_S} (h : rl A B) {q n : Nat} {a b : Int32} (hQ : rQ A B q a b n) (ha : nb a 8) (hb : nb b 8) (hn : n ≤ 164) (hq : q < 202) (hne : ai_n A < 200 → ¬ ai_o A (ai_n A) = q) : rl (ai_launch A q) (md_post B a b) := by
  obtain ⟨⟨c, m⟩, t, l, ⟨a1, a2⟩, n1, n2, n3, n4⟩ := h
  obtain ⟨q0, q1, q2, q3, q4⟩ := hQ
  have hmm : md_m B = n := by unfold md_m; rw [q3, un_nI (by omega)]
  have hnn : md_n B = ai_n A := by unfold md_n ai_n; rw [a1]
  have hnl : ai_n A < 201 := c.1.2
  refine ⟨⟨CI_launch c hq, MI_post m ha hb (by omega)⟩, rT_cg (fun k h1 h2 => launch_k _ _ (by omega) (by omega) (by omega)) (fun k h1 h2 => post_k _ _ _ (by omega) (by omega) (by omega) (by omega) (by omega)) t, rL_cg (launch_k _ _ (by decide) (by decide) (by decide)) (by rw [launch_k _ _ (by decide) (by decide) (by decide)]) (post_k _ _ _ (by decide) (by decide) (by decide) (by decide) (by decide)) l, ?_, ?_⟩
  · by_cases hf : ai_n A < 200
    · have hp := hne hf
      have hplt : ai_o A (ai_n A) < 200 := (c.2.1 _ hf).2
      have eA : ai_launch A q = hr_w (pk_become (hr_w A 3 0 3 (A 3 0 3 + 1)) (ai_o A (ai_n A)) q) 3 0 2 (nI (ai_n A + 1)) := by unfold ai_launch; rw [if_pos hf]
      have eB : md_post B a b = hr_w (md_cpL (md_pst1 B a b) (ai_n A) n) 14 0 11 (nI (ai_n A + 1)) := by unfold md_post; rw [hnn, hmm, if_neg (by omega)]
      refine ⟨by rw [eA, eB, hr_w_self, hr_w_self], fun k hk => ?_⟩
      have hk : k < ai_n A + 1 := by
        unfold ai_n at hk
        rw [eA, hr_w_self, un_nI (by omega)] at hk
        exact hk
      have eo : ai_o (ai_launch A q) k = ai_o A k := by unfold ai_o; rw [launch_k _ _ (by decide) (by decide) (by decide)]
      rw [eo]
      have f6 : ∀ p f, f < 3 → ai_launch A q 6 p f = if p = ai_o A (ai_n A) then A 6 q f else A 6 p f := fun p f hf => by
        rw [eA, hr_w_k _ (by decide), become_6 _ _ _ _ _ hf hp]
        simp [hr_w_at]
      have f7 : ∀ p w, w < 41 → ai_launch A q 7 p w = if p = ai_o A (ai_n A) then A 7 q w else A 7 p w := fun p w hw => by
        rw [eA, hr_w_k _ (by decide), become_7 _ _ _ _ _ hw]
        simp [hr_w_at]
      have g24 : ∀ k i, i < 164 → md_post B a b 24 0 (164 * k + i) = if k = ai_n A ∧ i < n then B 25 0 i else B 24 0 (164 * k + i) := fun k i hi => by
        rw [eB, hr_w_k _ (by decide), cpL_24 _ _ _ _ _ hi hn]
        unfold md_pst1
        simp [hr_w_at]
      have gk : ∀ x k, x = 21 ∨ x = 22 ∨ x = 23 → md_post B a b x 0 k = if k = ai_n A then (if x = 21 then a else if x = 22 then b else nI n) else B x 0 k := fun x k hx => by
        rw [eB, hr_w_k _ (by omega), md_cpL_k _ _ (by omega)]
        unfold md_pst1
        rw [hnn, hmm]
        rcases hx with rfl | rfl | rfl <;> simp [hr_w_at]
      by_cases hk2 : k = ai_n A
      · subst hk2
        unfold rp
        have g21 : md_post B a b 21 0 (ai_n A) = a := by rw [gk 21 _ (by decide)]; simp
        have g22 : md_post B a b 22 0 (ai_n A) = b := by rw [gk 22 _ (by decide)]; simp
        have g23 : md_post B a b 23 0 (ai_n A) = nI n := by rw [gk 23 _ (by decide)]; simp
        rw [f6 _ 0 (by decide), f6 _ 1 (by decide), f6 _ 2 (by decide), if_pos rfl, if_pos rfl, if_pos rfl, g21, g22, g23]
        refine ⟨q0, q1, q2, fun i hi => ?_⟩
        rw [q2, un_nI (by omega)] at hi
        rw [by_b4, f7 _ _ (by omega), if_pos rfl, ← by_b4, g24 _ _ (by omega), if_pos ⟨rfl, hi⟩]
        exact q4 i hi
      · have hkl : k < ai_n A := by omega
        have hpk : ai_o A k ≠ ai_o A (ai_n A) := fun z => hk2 (c.2.2.1 k (ai_n A) (by omega) hf z)
        have hb165 := (c.2.2.2.1 (ai_o A k) (by have := (c.2.1 k (by omega)).2; unfold ai_o; omega)).2.2
        obtain ⟨r0, r1, r2, r3⟩ := a2 k hkl
        unfold rp
        rw [f6 _ 0 (by decide), f6 _ 1 (by decide), f6 _ 2 (by decide), if_neg hpk, if_neg hpk, if_neg hpk, gk 21 _ (by decide), gk 22 _ (by decide), gk 23 _ (by decide), if_neg hk2, if_neg hk2, if_neg hk2]
        refine ⟨r0, r1, r2, fun i hi => ?_⟩
        have := hb165.2
        rw [by_b4, f7 _ _ (by omega), if_neg hpk, ← by_b4, g24 _ _ (by omega), if_neg (by omega)]
        exact r3 i hi
    · have e200 : ai_n A = 200 := by omega
      have eA : ai_launch A q = hr_w (hr_w A 3 0 3 (A 3 0 3 + 1)) 3 0 4 (A 3 0 4 + 1) := by unfold ai_launch; rw [if_neg hf]
      have eB : md_post B a b = hr_w (hr_w B 14 0 3 (B 14 0 3 + 1)) 14 0 2 (B 14 0 2 + 1) := by unfold md_post; rw [hnn, if_pos e200]
      rw [eA, eB]
      exact rA_cg (by simp [hr_w_at]) (by funext i j; simp [hr_w_at]) (fun p _ => by funext j; simp [hr_w_at]) (fun p _ => by funext j; simp [hr_w_at]) (by simp [hr_w_at]) (fun k h1 h2 => by funext i j; rw [hr_w_k _ (by omega), hr_w_k _ (by omega)]) c ⟨a1, a2⟩
  · by_cases hf : ai_n A < 200
    · have eA : ai_launch A q = hr_w (pk_become (hr_w A 3 0 3 (A 3 0 3 + 1)) (ai_o A (ai_n A)) q) 3 0 2 (nI (ai_n A + 1)) := by unfold ai_launch; rw [if_pos hf]
      have eB : md_post B a b = hr_w (md_cpL (md_pst1 B a b) (ai_n A) n) 14 0 11 (nI (ai_n A + 1)) := by unfold md_post; rw [hnn, hmm, if_neg (by omega)]
      have b14 : ∀ j, j ≠ 11 → md_post B a b 14 0 j = if j = 3 then B 14 0 3 + 1 else B 14 0 j := fun j hj => by
        rw [eB, hr_w_at, if_neg (fun z => hj z.2.2), md_cpL_k _ _ (by decide)]
        unfold md_pst1
        simp [hr_w_at]
      have a03 : ∀ k j, (k = 0 ∨ k = 3) → (k = 3 → j ≠ 2) → ai_launch A q k 0 j = if k = 3 ∧ j = 3 then A 3 0 3 + 1 else A k 0 j := fun k j hk hj => by
        rw [eA, hr_w_at, if_neg (fun z => hj z.1 z.2.2), become_k _ _ _ (by omega) (by omega), hr_w_at]
        by_cases h9 : k = 3 ∧ j = 3
        · rw [if_pos h9, if_pos ⟨h9.1, rfl, h9.2⟩]
        · rw [if_neg h9, if_neg (fun z => h9 ⟨z.1, z.2.2⟩)]
      unfold rN
      rw [a03 0 5 (by decide) (by decide), a03 3 3 (by decide) (by decide), a03 3 4 (by decide) (by decide), a03 0 7 (by decide) (by decide), b14 1 (by decide), b14 3 (by decide), b14 2 (by decide), b14 4 (by decide)]
      simp only [n1, n2, n3, n4]
      simp
    · have e200 : ai_n A = 200 := by omega
      have eA : ai_launch A q = hr_w (hr_w A 3 0 3 (A 3 0 3 + 1)) 3 0 4 (A 3 0 4 + 1) := by unfold ai_launch; rw [if_neg hf]
      have eB : md_post B a b = hr_w (hr_w B 14 0 3 (B 14 0 3 + 1)) 14 0 2 (B 14 0 2 + 1) := by unfold md_post; rw [hnn, if_pos e200]
      rw [eA, eB]
      unfold rN
      simp [hr_w_at, n1, n2, n3, n4]
