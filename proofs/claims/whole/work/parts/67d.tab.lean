/-! TABLES -/
def tC (A' A : hr_S) (r d : Nat) : Prop := (∀ k i j, ¬ (i = r ∧ j = d) → A' k i j = A k i j) ∧ ∀ k, k < 9 → A' k = A k
def tM (B' B : hr_S) (q : Nat) : Prop := (∀ k i j, j ≠ q → B' k i j = B k i j) ∧ ∀ k, k < 16 ∨ 20 < k → B' k = B k
theorem tC.rf (A : hr_S) (r d : Nat) : tC A A r d := ⟨fun _ _ _ _ => rfl, fun _ _ => rfl⟩
theorem tM.rf (B : hr_S) (q : Nat) : tM B B q := ⟨fun _ _ _ _ => rfl, fun _ _ => rfl⟩
theorem tC.w {A' A : hr_S} {r d : Nat} (h : tC A' A r d) {k : Nat} {v : Int32} (hk : 9 ≤ k) : tC (hr_w A' k r d v) A r d :=
  ⟨fun k' i j hij => by rw [hr_w_at, if_neg (fun z => hij z.2)]; exact h.1 k' i j hij, fun k' hk' => by funext i j; rw [hr_w_k _ (by omega), h.2 k' hk']⟩
theorem tM.w {B' B : hr_S} {q : Nat} (h : tM B' B q) {k i : Nat} {v : Int32} (hk : 16 ≤ k ∧ k ≤ 20) : tM (hr_w B' k i q v) B q :=
  ⟨fun k' i j hij => by rw [hr_w_at, if_neg (fun z => hij z.2.2)]; exact h.1 k' i j hij, fun k' hk' => by funext i j; rw [hr_w_k _ (by omega), h.2 k' hk']⟩
theorem rl_tab {A A' B B' : hr_S} (h : rl A B) (hc : hr_CI A') (hm : hr_MI B') (hA : ∀ k, k < 9 → A' k = A k) (hB : ∀ k, k < 16 ∨ 20 < k → B' k = B k) (ht : rT A' B') : rl A' B' := by
  obtain ⟨⟨c, m⟩, t, l, a, n⟩ := h
  exact ⟨⟨hc, hm⟩, ht, rL_cg (hA 1 (by decide)) (by rw [hA 0 (by decide)]) (hB 15 (by decide)) l, rA_cg (by rw [hA 3 (by decide)]) (hA 5 (by decide)) (fun p _ => by rw [hA 6 (by decide)]) (fun p _ => by rw [hA 7 (by decide)]) (by rw [hB 14 (by decide)]) (fun k h1 h2 => hB k (by omega)) c a, rN_cg (by rw [hA 0 (by decide)]) (by rw [hA 0 (by decide)]) (by rw [hA 3 (by decide)]) (by rw [hA 3 (by decide)]) (by rw [hB 14 (by decide)]) (by rw [hB 14 (by decide)]) (by rw [hB 14 (by decide)]) (by rw [hB 14 (by decide)]) n⟩
theorem rT_one {A A' B B' : hr_S} (h : rT A B) {r d : Nat} (hr : r < 8) (hd : d < 8) (hA : tC A' A r d) (hB : tM B' B (8 * r + d)) (ht : rt A' B' r d) : rT A' B' := fun r' d' hr' hd' => by
  by_cases e : r' = r ∧ d' = d
  · rw [e.1, e.2]; exact ht
  · exact rt_cg (fun k _ _ => hA.1 k r' d' e) (fun k _ _ => hB.1 k 0 _ (by omega)) (h r' d' hr' hd')
theorem rl_one {A A' B B' : hr_S} (h : rl A B) {r d : Nat} (hr : r < 8) (hd : d < 8) (hc : hr_CI A') (hm : hr_MI B') (hA : tC A' A r d) (hB : tM B' B (8 * r + d)) (ht : rt A' B' r d) : rl A' B' := rl_tab h hc hm hA.2 hB.2 (rT_one h.2.1 hr hd hA hB ht)
theorem nb_m1 {x : Int32} {N : Nat} (h : nb x N) (hN : N ≤ 2 ^ 31) : x ≠ -1 := fun e => by
  have h2 := h.2
  have : (-1 : Int32) = nI (un x) := by rw [← e]; exact h.1
  have h3 : ¬ ((-1 : Int32) < 0) := by rw [this]; exact fun z => absurd ((nI_ltI (a := un x) (b := 0) (by omega) (by omega)).mp z) (by omega)
  exact h3 (by decide)
theorem nb_le0 {x : Int32} {N : Nat} (h : nb x N) (hN : N ≤ 2 ^ 31) : x ≤ 0 ↔ x = 0 := by
  constructor
  · intro z
    have h2 := h.2
    rw [h.1] at z ⊢
    have := (nI_leI (a := un x) (b := 0) (by omega) (by omega)).mp z
    rw [show un x = 0 by omega]
    rfl
  · intro z; rw [z]; decide
theorem nb_inc {x : Int32} {N : Nat} (h : nb x N) (hN : N < 2 ^ 31) : x + 1 = nI (un x + 1) := by
  have e : x + 1 = nI (un x) + nI 1 := by rw [← h.1]; rfl
  rw [e, nI_add]
/-- a present route, by its parts -/
theorem rt_in {A B : hr_S} {r d : Nat} (h9 : A 9 r d = B 16 0 (8 * r + d)) (n9 : nb (A 9 r d) 17) (p9 : 1 ≤ un (A 9 r d)) (hne : r ≠ d) (h10 : A 10 r d = B 17 0 (8 * r + d)) (h11 : A 11 r d = B 18 0 (8 * r + d)) (h12 : A 12 r d = B 20 0 (8 * r + d)) (h13 : A 13 r d = B 19 0 (8 * r + d)) (n11 : nb (A 11 r d) 60) (n50 : A 9 r d = 16 → nb (A 11 r d) 50) (n12 : nb (A 12 r d) 21) : rt A B r d :=
  Or.inr ⟨h9, n9, p9, hne, h10, h11, h12, h13, n11, n50, n12⟩
theorem tC_adopt (A : hr_S) (r d : Nat) (t x : Int32) : tC (tb_adopt A r d t x) A r d := by
  unfold tb_adopt
  exact ((((tC.rf A r d).w (by decide)).w (by decide)).w (by decide)).w (by decide) |>.w (by decide)
theorem tC_gone {A' A : hr_S} {r d : Nat} (h : tC A' A r d) : tC (tb_gone A' r d) A r d := by
  unfold tb_gone
  exact (((h.w (by decide)).w (by decide)).w (by decide)).w (by decide)
theorem tC_forget {A' A : hr_S} {r d : Nat} (h : tC A' A r d) : tC (tb_forget A' r d) A r d := by
  unfold tb_forget
  exact (h.w (by decide)).w (by decide)
theorem tC_hear (A : hr_S) (r d : Nat) (t x : Int32) : tC (tb_hear A r d t x) A r d := by
  have h1 : tC (tb_hfn1 A r d t) A r d := by
    unfold tb_hfn1
    split
    · exact (tC.rf A r d).w (by decide)
    · exact tC.rf A r d
  have h2 : tC (tb_hfn A r d t) A r d := by
    unfold tb_hfn
    split
    · exact h1
    · split
      · exact tC_gone h1
      · exact (h1.w (by decide)).w (by decide)
  unfold tb_hear
  repeat' split
  all_goals first | exact tC.rf A r d | exact tC_adopt A r d t x | exact h2
theorem tM_gone {B' B : hr_S} {q : Nat} (h : tM B' B q) : tM (md_gone B' q) B q := by
  unfold md_gone
  exact (((h.w (by decide)).w (by decide)).w (by decide)).w (by decide)
theorem tM_hear (B : hr_S) (q : Nat) (x t : Int32) : tM (md_hear B q x t) B q := by
  have h0 := tM.rf B q
  have h1 : tM (md_hn1 B q t) B q := by unfold md_hn1; exact h0.w (by decide)
  have h2 : tM (md_hn2 B q t) B q := by unfold md_hn2; exact (h1.w (by decide)).w (by decide)
  have h3 : tM (md_bet B q x t) B q := by unfold md_bet; exact (((h0.w (by decide)).w (by decide)).w (by decide)).w (by decide)
  have h4 : tM (md_new B q x t) B q := by unfold md_new; exact ((((h0.w (by decide)).w (by decide)).w (by decide)).w (by decide)).w (by decide)
  unfold md_hear md_hn
  repeat' split
  all_goals first | exact h0 | exact h1 | exact h2 | exact h3 | exact h4 | exact tM_gone h2
theorem rt_hear {A B : hr_S} {r d : Nat} (hne : r ≠ d) {t x : Int32} (ht : nb t 17) (h1 : 1 ≤ un t) (h : rt A B r d) : rt (tb_hear A r d t x) (md_hear B (8 * r + d) x t) r d := by
  have n0 : ∀ N, 0 < N → N ≤ 2 ^ 31 → nb (0 : Int32) N := fun N a b => nb_nI (n := 0) a b
  have h16 : ¬ t < 16 → t = 16 := fun z => by
    have h2 := ht.2
    have z2 : ¬ un t < 16 := fun y => z (by rw [ht.1]; exact (nI_ltI (a := un t) (b := 16) (by omega) (by omega)).mpr y)
    rw [ht.1, show un t = 16 by omega]
    rfl
  rcases h with ⟨a9, b16, a13⟩ | ⟨e9, n9, p9, _, e10, e11, e12, e13, n11, n50, n12⟩
  · by_cases hlt : t < 16
    · have eA : tb_hear A r d t x = tb_adopt A r d t x := by unfold tb_hear; rw [if_neg (not_not_intro a9), if_pos hlt]
      have eB : md_hear B (8 * r + d) x t = md_new B (8 * r + d) x t := by unfold md_hear; rw [if_pos b16, if_neg (Int32.not_le.mpr hlt)]
      rw [eA, eB]
      unfold tb_adopt md_new
      refine rt_in ?_ ?_ ?_ hne ?_ ?_ ?_ ?_ ?_ ?_ ?_ <;> simp only [hr_w_at] <;> simp
      · exact ht
      · exact h1
      · exact n0 _ (by decide) (by decide)
      · intro _; exact n0 _ (by decide) (by decide)
      · exact n0 _ (by decide) (by decide)
    · have eA : tb_hear A r d t x = A := by unfold tb_hear; rw [if_neg (not_not_intro a9), if_neg hlt]
      have eB : md_hear B (8 * r + d) x t = B := by unfold md_hear; rw [if_pos b16, if_pos (Int32.not_lt.mp hlt)]
      rw [eA, eB]
      exact Or.inl ⟨a9, b16, a13⟩
  · have hm1 : A 9 r d ≠ -1 := nb_m1 n9 (by decide)
    have hz : ¬ B 16 0 (8 * r + d) = 0 := fun z => by
      rw [← e9] at z
      rw [z] at p9
      exact absurd p9 (by decide)
    have hold : rt A B r d := Or.inr ⟨e9, n9, p9, hne, e10, e11, e12, e13, n11, n50, n12⟩
    by_cases hs : A 12 r d = 0
    · have hs2 : B 20 0 (8 * r + d) ≤ 0 := by rw [← e12, hs]; decide
      by_cases hx : A 10 r d = x
      · have hx2 : B 17 0 (8 * r + d) = x := by rw [← e10]; exact hx
        have eA : tb_hear A r d t x = tb_hfn A r d t := by unfold tb_hear; rw [if_pos hm1, if_pos hs, if_pos hx]
        have eB : md_hear B (8 * r + d) x t = md_hn B (8 * r + d) t := by unfold md_hear; rw [if_neg hz, if_pos hs2, if_pos hx2]
        rw [eA, eB]
        by_cases hq : t = A 9 r d
        · have eA : tb_hfn A r d t = tb_hfn1 A r d t := by unfold tb_hfn; rw [if_pos hq]
          have eB : md_hn B (8 * r + d) t = md_hn1 B (8 * r + d) t := by unfold md_hn; rw [if_pos (by rw [← e9]; exact hq)]
          rw [eA, eB]
          unfold tb_hfn1 md_hn1
          by_cases hlt : t < 16
          · rw [if_pos hlt, if_neg (Int32.not_le.mpr hlt)]
            refine rt_in ?_ ?_ ?_ hne ?_ ?_ ?_ ?_ ?_ ?_ ?_ <;> simp only [hr_w_at] <;> simp
            · exact e9
            · exact n9
            · exact p9
            · exact e10
            · exact e12
            · exact e13
            · exact n0 _ (by decide) (by decide)
            · intro _; exact n0 _ (by decide) (by decide)
            · exact n12
          · rw [if_neg hlt, if_pos (Int32.not_lt.mp hlt)]
            refine rt_in ?_ n9 p9 hne ?_ ?_ ?_ ?_ n11 n50 n12 <;> simp only [hr_w_at] <;> simp
            · exact e9
            · exact e10
            · exact e11
            · exact e12
            · exact e13
        · have hq2 : ¬ t = B 16 0 (8 * r + d) := fun z => hq (by rw [e9]; exact z)
          by_cases hl : t = 16
          · have eA : tb_hfn A r d t = tb_gone (tb_hfn1 A r d t) r d := by unfold tb_hfn; rw [if_neg hq, if_pos hl]
            have eB : md_hn B (8 * r + d) t = md_gone (md_hn2 B (8 * r + d) t) (8 * r + d) := by unfold md_hn; rw [if_neg hq2, if_pos hl]
            have eT : tb_hfn1 A r d t = A := by unfold tb_hfn1; rw [if_neg (by rw [hl]; decide)]
            rw [eA, eB, eT]
            unfold tb_gone md_gone md_hn2 md_hn1
            refine rt_in ?_ ?_ ?_ hne ?_ ?_ ?_ ?_ ?_ ?_ ?_ <;> simp only [hr_w_at] <;> simp
            · exact nb_nI (n := 16) (by decide) (by decide)
            · decide
            · exact e10
            · exact n0 _ (by decide) (by decide)
            · exact n0 _ (by decide) (by decide)
            · exact nb_nI (n := 20) (by decide) (by decide)
          · have hlt : t < 16 := Decidable.byContradiction (fun z => hl (h16 z))
            have eA : tb_hfn A r d t = hr_w (hr_w (tb_hfn1 A r d t) 9 r d t) 13 r d 1 := by unfold tb_hfn; rw [if_neg hq, if_neg hl]
            have eB : md_hn B (8 * r + d) t = md_hn2 B (8 * r + d) t := by unfold md_hn; rw [if_neg hq2, if_neg hl]
            have eT : tb_hfn1 A r d t = hr_w A 11 r d 0 := by unfold tb_hfn1; rw [if_pos hlt]
            rw [eA, eB, eT]
            unfold md_hn2 md_hn1
            rw [if_neg (Int32.not_le.mpr hlt)]
            refine rt_in ?_ ?_ ?_ hne ?_ ?_ ?_ ?_ ?_ ?_ ?_ <;> simp only [hr_w_at] <;> simp
            · exact ht
            · exact h1
            · exact e10
            · exact e12
            · exact n0 _ (by decide) (by decide)
            · intro _; exact n0 _ (by decide) (by decide)
            · exact n12
      · have hx2 : ¬ B 17 0 (8 * r + d) = x := by rw [← e10]; exact hx
        by_cases hb : t < A 9 r d
        · have eA : tb_hear A r d t x = tb_adopt A r d t x := by unfold tb_hear; rw [if_pos hm1, if_pos hs, if_neg hx, if_pos hb]
          have eB : md_hear B (8 * r + d) x t = md_bet B (8 * r + d) x t := by unfold md_hear; rw [if_neg hz, if_pos hs2, if_neg hx2, if_neg (by rw [← e9]; exact Int32.not_le.mpr hb)]
          rw [eA, eB]
          unfold tb_adopt md_bet
          refine rt_in ?_ ?_ ?_ hne ?_ ?_ ?_ ?_ ?_ ?_ ?_ <;> simp only [hr_w_at] <;> simp
          · exact ht
          · exact h1
          · rw [← e12, hs]
          · exact n0 _ (by decide) (by decide)
          · intro _; exact n0 _ (by decide) (by decide)
          · exact n0 _ (by decide) (by decide)
        · have eA : tb_hear A r d t x = A := by unfold tb_hear; rw [if_pos hm1, if_pos hs, if_neg hx, if_neg hb]
          have eB : md_hear B (8 * r + d) x t = B := by unfold md_hear; rw [if_neg hz, if_pos hs2, if_neg hx2, if_pos (by rw [← e9]; exact Int32.not_lt.mp hb)]
          rw [eA, eB]
          exact hold
    · have hs2 : ¬ B 20 0 (8 * r + d) ≤ 0 := by rw [← e12, nb_le0 n12 (by decide)]; exact hs
      have eA : tb_hear A r d t x = A := by unfold tb_hear; rw [if_pos hm1, if_neg hs]
      have eB : md_hear B (8 * r + d) x t = B := by unfold md_hear; rw [if_neg hz, if_neg hs2]
      rw [eA, eB]
      exact hold
theorem rl_hear {A B : hr_S} (h : rl A B) {r d : Nat} (hr : r < 8) (hd : d < 8) (hne : r ≠ d) {t x : Int32} (ht : nb t 17) (h1 : 1 ≤ un t) (hx : nb x 8) : rl (tb_hear A r d t x) (md_hear B (8 * r + d) x t) :=
  rl_one h hr hd (CI_hear h.1.1 hx) (MI_hear h.1.2 hx) (tC_hear A r d t x) (tM_hear B _ x t) (rt_hear hne ht h1 (h.2.1 r d hr hd))
