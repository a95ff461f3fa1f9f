/-! CLASS AND MODEL: A's numbers of the class (kinds 0 .. 13) against B's numbers of the model (kinds 14 ..) -/
def rt (A B : hr_S) (r d : Nat) : Prop :=
  (A 9 r d = -1 ∧ B 16 0 (8 * r + d) = 0 ∧ A 13 r d = 0) ∨
  (A 9 r d = B 16 0 (8 * r + d) ∧ nb (A 9 r d) 17 ∧ 1 ≤ un (A 9 r d) ∧ r ≠ d ∧ A 10 r d = B 17 0 (8 * r + d) ∧ A 11 r d = B 18 0 (8 * r + d) ∧ A 12 r d = B 20 0 (8 * r + d) ∧ A 13 r d = B 19 0 (8 * r + d) ∧ nb (A 11 r d) 60 ∧ (A 9 r d = 16 → nb (A 11 r d) 50) ∧ nb (A 12 r d) 21)
def rT (A B : hr_S) : Prop := ∀ r d, r < 8 → d < 8 → rt A B r d
def rL (A B : hr_S) : Prop := (∀ x, x < 64 → A 1 0 x = B 15 0 x) ∧ (∀ a b, a < 8 → b < 8 → B 15 0 (8 * a + b) = B 15 0 (8 * b + a)) ∧ (∀ a, a < 8 → B 15 0 (8 * a + a) = 0) ∧ A 0 0 6 = nI (md_cnt B 64)
/-- packet p of the class is packet k of the model -/
def rp (A B : hr_S) (p k : Nat) : Prop := A 6 p 0 = B 21 0 k ∧ A 6 p 1 = B 22 0 k ∧ A 6 p 2 = B 23 0 k ∧ ∀ i, i < un (A 6 p 2) → hr_by (A 7 p) i = B 24 0 (164 * k + i)
def rA (A B : hr_S) : Prop := A 3 0 2 = B 14 0 11 ∧ ∀ k, k < ai_n A → rp A B (ai_o A k) k
def rN (A B : hr_S) : Prop := A 0 0 5 = B 14 0 1 ∧ A 3 0 3 = B 14 0 3 ∧ A 3 0 4 = B 14 0 2 ∧ A 0 0 7 = B 14 0 4
def rl (A B : hr_S) : Prop := (hr_CI A ∧ hr_MI B) ∧ rT A B ∧ rL A B ∧ rA A B ∧ rN A B
def hr_R (S : hr_S) : Prop := rl S S
/-- the draft; what has come -/
def rD (A B : hr_S) : Prop := A 6 200 2 = B 14 0 16 ∧ ∀ i, i < un (A 6 200 2) → hr_by (A 7 200) i = B 25 0 i
def rC (A B : hr_S) : Prop := A 6 201 2 = B 14 0 18 ∧ ∀ i, i < un (A 6 201 2) → hr_by (A 7 201) i = B 26 0 i
/-! which numbers the sides leave alone -/
def eqM (A B : hr_S) : Prop := ∀ k, 14 ≤ k → A k = B k
def eqC (A B : hr_S) : Prop := ∀ k, k < 14 → A k = B k
theorem eqM.rf (A : hr_S) : eqM A A := fun _ _ => rfl
theorem eqC.rf (A : hr_S) : eqC A A := fun _ _ => rfl
theorem eqM.tr {A B C : hr_S} (h : eqM A B) (g : eqM B C) : eqM A C := fun k hk => (h k hk).trans (g k hk)
theorem eqC.tr {A B C : hr_S} (h : eqC A B) (g : eqC B C) : eqC A C := fun k hk => (h k hk).trans (g k hk)
theorem eqM.w {A B : hr_S} (h : eqM A B) {k i j : Nat} {v : Int32} (hk : k < 14) : eqM (hr_w A k i j v) B := fun k' hk' => by
  funext i' j'
  rw [hr_w_k A (by omega), h k' hk']
theorem eqC.w {A B : hr_S} (h : eqC A B) {k i j : Nat} {v : Int32} (hk : 14 ≤ k) : eqC (hr_w A k i j v) B := fun k' hk' => by
  funext i' j'
  rw [hr_w_k A (by omega), h k' hk']
theorem eqM.wA {A B : hr_S} (h : eqM A B) {k i : Nat} {f : Nat → Int32} (hk : k < 14) : eqM (hr_wA A k i f) B := fun k' hk' => by
  funext i' j'
  rw [hr_wA_at, if_neg (by omega), h k' hk']
/-! the relation reads only the class's numbers of A and the model's of B -/
theorem rt_cg {A A' B B' : hr_S} {r d : Nat} (hA : ∀ k, 9 ≤ k → k ≤ 13 → A' k r d = A k r d) (hB : ∀ k, 16 ≤ k → k ≤ 20 → B' k 0 (8 * r + d) = B k 0 (8 * r + d)) (h : rt A B r d) : rt A' B' r d := by
  unfold rt at h ⊢
  rw [hA 9 (by decide) (by decide), hA 10 (by decide) (by decide), hA 11 (by decide) (by decide), hA 12 (by decide) (by decide), hA 13 (by decide) (by decide), hB 16 (by decide) (by decide), hB 17 (by decide) (by decide), hB 18 (by decide) (by decide), hB 19 (by decide) (by decide), hB 20 (by decide) (by decide)]
  exact h
theorem rT_cg {A A' B B' : hr_S} (hA : ∀ k, 9 ≤ k → k ≤ 13 → A' k = A k) (hB : ∀ k, 16 ≤ k → k ≤ 20 → B' k = B k) (h : rT A B) : rT A' B' := fun r d hr hd => rt_cg (fun k h1 h2 => by rw [hA k h1 h2]) (fun k h1 h2 => by rw [hB k h1 h2]) (h r d hr hd)
theorem md_cnt_cg {B B' : hr_S} (h : B' 15 = B 15) : ∀ p, md_cnt B' p = md_cnt B p
  | 0 => rfl
  | p + 1 => by unfold md_cnt; rw [md_cnt_cg h p, h]
theorem rL_cg {A A' B B' : hr_S} (h1 : A' 1 = A 1) (h6 : A' 0 0 6 = A 0 0 6) (hB : B' 15 = B 15) (h : rL A B) : rL A' B' := by
  obtain ⟨a, b, c, d⟩ := h
  refine ⟨?_, ?_, ?_, ?_⟩
  · intro x hx; rw [h1, hB]; exact a x hx
  · intro x y hx hy; rw [hB]; exact b x y hx hy
  · intro x hx; rw [hB]; exact c x hx
  · rw [h6, md_cnt_cg hB]; exact d
theorem rp_cg {A A' B B' : hr_S} {p k : Nat} (h6 : A' 6 p = A 6 p) (h7 : A' 7 p = A 7 p) (h21 : B' 21 0 k = B 21 0 k) (h22 : B' 22 0 k = B 22 0 k) (h23 : B' 23 0 k = B 23 0 k) (h24 : ∀ i, i < 164 → B' 24 0 (164 * k + i) = B 24 0 (164 * k + i)) (hn : nb (A 6 p 2) 165) (h : rp A B p k) : rp A' B' p k := by
  unfold rp at h ⊢
  rw [h6, h7, h21, h22, h23]
  obtain ⟨a, b, c, d⟩ := h
  exact ⟨a, b, c, fun i hi => by have := hn.2; rw [h24 i (by omega)]; exact d i hi⟩
theorem rA_cg {A A' B B' : hr_S} (h3 : A' 3 0 2 = A 3 0 2) (h5 : A' 5 = A 5) (h6 : ∀ p, p < 200 → A' 6 p = A 6 p) (h7 : ∀ p, p < 200 → A' 7 p = A 7 p) (h14 : B' 14 0 11 = B 14 0 11) (hB : ∀ k, 21 ≤ k → k ≤ 24 → B' k = B k) (hC : hr_CI A) (h : rA A B) : rA A' B' := by
  obtain ⟨a, b⟩ := h
  refine ⟨by rw [h3, h14]; exact a, fun k hk => ?_⟩
  have hn : ai_n A' = ai_n A := by unfold ai_n; rw [h3]
  have ho : ai_o A' k = ai_o A k := by unfold ai_o; rw [h5]
  rw [hn] at hk
  rw [ho]
  have hlt : ai_o A k < 200 := (hC.2.1 k (by have := hC.1.2; unfold ai_n at hk; omega)).2
  exact rp_cg (h6 _ hlt) (h7 _ hlt) (by rw [hB 21 (by decide) (by decide)]) (by rw [hB 22 (by decide) (by decide)]) (by rw [hB 23 (by decide) (by decide)]) (fun i hi => by rw [hB 24 (by decide) (by decide)]) (hC.2.2.2.1 _ (by omega)).2.2 (b k hk)
theorem rN_cg {A A' B B' : hr_S} (h0 : A' 0 0 5 = A 0 0 5) (h7 : A' 0 0 7 = A 0 0 7) (h3 : A' 3 0 3 = A 3 0 3) (h4 : A' 3 0 4 = A 3 0 4) (b1 : B' 14 0 1 = B 14 0 1) (b2 : B' 14 0 2 = B 14 0 2) (b3 : B' 14 0 3 = B 14 0 3) (b4 : B' 14 0 4 = B 14 0 4) (h : rN A B) : rN A' B' := by
  unfold rN at h ⊢
  rw [h0, h7, h3, h4, b1, b2, b3, b4]
  exact h
theorem CI_cg {A A' : hr_S} (hA : eqC A' A) (h : hr_CI A) : hr_CI A' := by
  unfold hr_CI at h ⊢
  rw [hA 1 (by decide), hA 3 (by decide), hA 5 (by decide), hA 6 (by decide), hA 10 (by decide)]
  exact h
theorem MI_cg {B B' : hr_S} (hB : eqM B' B) (h : hr_MI B) : hr_MI B' := by
  unfold hr_MI at h ⊢
  rw [hB 14 (by decide), hB 15 (by decide), hB 17 (by decide), hB 21 (by decide), hB 22 (by decide), hB 23 (by decide)]
  exact h
theorem rl_cg {A A' B B' : hr_S} (hA : eqC A' A) (hB : eqM B' B) (h : rl A B) : rl A' B' := by
  obtain ⟨⟨c, m⟩, t, l, a, n⟩ := h
  refine ⟨⟨CI_cg hA c, MI_cg hB m⟩, rT_cg (fun k _ h2 => hA k (by omega)) (fun k h1 _ => hB k (by omega)) t, rL_cg (hA 1 (by decide)) (by rw [hA 0 (by decide)]) (hB 15 (by decide)) l, ?_, ?_⟩
  · exact rA_cg (by rw [hA 3 (by decide)]) (hA 5 (by decide)) (fun p _ => by rw [hA 6 (by decide)]) (fun p _ => by rw [hA 7 (by decide)]) (by rw [hB 14 (by decide)]) (fun k h1 _ => hB k (by omega)) c a
  · exact rN_cg (by rw [hA 0 (by decide)]) (by rw [hA 0 (by decide)]) (by rw [hA 3 (by decide)]) (by rw [hA 3 (by decide)]) (by rw [hB 14 (by decide)]) (by rw [hB 14 (by decide)]) (by rw [hB 14 (by decide)]) (by rw [hB 14 (by decide)]) n
/-- one call of each: f on the class's side, then g on the model's -/
theorem hr_R_step {S S1 S2 : hr_S} (hC : eqM S1 S) (hM : eqC S2 S1) (h : rl S1 S2) : hr_R S2 := rl_cg hM (eqM.rf S2) h
theorem hr_R_in {S S1 : hr_S} (hC : eqM S1 S) (h : hr_R S) : rl S S1 := rl_cg (eqC.rf S) hC h
