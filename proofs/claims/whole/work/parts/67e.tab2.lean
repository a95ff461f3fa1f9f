/-! TABLES: growing older, telling, losing -/
theorem tC_age (A : hr_S) (r d : Nat) : tC (tb_age A r d) A r d := by
  have h1 : tC (tb_age1 A r d) A r d := by unfold tb_age1; exact (tC.rf A r d).w (by decide)
  have h2 : tC (tb_age2 A r d) A r d := by
    unfold tb_age2
    split
    · exact h1
    · exact h1.w (by decide)
  unfold tb_age
  repeat' split
  all_goals first | exact h2 | exact tC_forget h2 | exact tC_gone h2
theorem tM_age (B : hr_S) (q : Nat) : tM (md_age B q) B q := by
  have h1 : tM (md_ag1 B q) B q := by unfold md_ag1; exact ((tM.rf B q).w (by decide)).w (by decide)
  have h2 : tM (md_lt B q) B q := by
    unfold md_lt
    repeat' split
    all_goals first | exact h1 | exact (h1.w (by decide)).w (by decide)
  unfold md_age
  repeat' split
  all_goals first | exact h2 | exact tM_gone h1
theorem rt_age {A B : hr_S} {r d : Nat} (h : rt A B r d) : rt (if ¬ A 9 r d = -1 then tb_age A r d else A) (if B 16 0 (8 * r + d) = 0 then B else md_age B (8 * r + d)) r d := by
  have n0 : ∀ N, 0 < N → N ≤ 2 ^ 31 → nb (0 : Int32) N := fun N a b => nb_nI (n := 0) a b
  rcases h with ⟨a9, b16, a13⟩ | ⟨e9, n9, p9, hne, e10, e11, e12, e13, n11, n50, n12⟩
  · rw [if_neg (not_not_intro a9), if_pos b16]
    exact Or.inl ⟨a9, b16, a13⟩
  · have hm1 : A 9 r d ≠ -1 := nb_m1 n9 (by decide)
    have hz : ¬ B 16 0 (8 * r + d) = 0 := fun z => by
      rw [← e9] at z
      rw [z] at p9
      exact absurd p9 (by decide)
    rw [if_pos hm1, if_neg hz]
    have einc := nb_inc n11 (by decide)
    have h60 := n11.2
    have h21 := n12.2
    -- silence
    have es : ∀ X : hr_S, X = tb_age2 A r d → X 12 r d = A 12 r d - (if A 12 r d ≤ 0 then 0 else 1) ∧ X 9 r d = A 9 r d ∧ X 10 r d = A 10 r d ∧ X 11 r d = A 11 r d + 1 ∧ X 13 r d = A 13 r d := by
      intro X hX
      subst hX
      unfold tb_age2 tb_age1
      by_cases h0 : A 12 r d ≤ 0
      · rw [if_pos h0, if_pos h0]
        simp only [hr_w_at]
        simp
      · rw [if_neg h0, if_neg h0]
        simp only [hr_w_at]
        simp
    obtain ⟨s12, s9, s10, s11, s13⟩ := es _ rfl
    have ns : nb (A 12 r d - (if A 12 r d ≤ 0 then 0 else 1)) 21 := by
      by_cases h0 : A 12 r d ≤ 0
      · rw [if_pos h0, Int32.sub_zero]; exact n12
      · rw [if_neg h0]
        have hp : 1 ≤ un (A 12 r d) := by
          rcases Nat.eq_zero_or_pos (un (A 12 r d)) with z | z
          · exfalso; exact h0 (by rw [n12.1, z]; decide)
          · exact z
        have e : A 12 r d - 1 = nI (un (A 12 r d) - 1) := by
          have e2 : A 12 r d - 1 = nI (un (A 12 r d)) - nI 1 := by rw [← n12.1]; rfl
          rw [e2]
          exact pk_sub hp
        rw [e]
        exact nb_nI (by omega) (by decide)
    have g : ∀ X : hr_S, X = md_ag1 B (8 * r + d) → X 20 0 (8 * r + d) = B 20 0 (8 * r + d) - (if B 20 0 (8 * r + d) ≤ 0 then 0 else 1) ∧ X 16 0 (8 * r + d) = B 16 0 (8 * r + d) ∧ X 17 0 (8 * r + d) = B 17 0 (8 * r + d) ∧ X 18 0 (8 * r + d) = B 18 0 (8 * r + d) + 1 ∧ X 19 0 (8 * r + d) = B 19 0 (8 * r + d) := by
      intro X hX
      subst hX
      unfold md_ag1
      simp only [hr_w_at]
      simp
    obtain ⟨g20, g16, g17, g18, g19⟩ := g _ rfl
    have plain : (un (A 11 r d) + 1 < 60) → (A 9 r d = 16 → un (A 11 r d) + 1 < 50) → rt (tb_age2 A r d) (md_ag1 B (8 * r + d)) r d := by
      intro h1 h2
      refine rt_in ?_ ?_ ?_ hne ?_ ?_ ?_ ?_ ?_ ?_ ?_
      · rw [s9, g16]; exact e9
      · rw [s9]; exact n9
      · rw [s9]; exact p9
      · rw [s10, g17]; exact e10
      · rw [s11, g18, e11]
      · rw [s12, g20, e12]
      · rw [s13, g19]; exact e13
      · rw [s11, einc]; exact nb_nI h1 (by decide)
      · rw [s9, s11, einc]; intro z; exact nb_nI (h2 z) (by decide)
      · rw [s12]; exact ns
    by_cases h16 : A 9 r d = 16
    · have hge : 16 ≤ A 9 r d := by rw [h16]; decide
      have hge2 : 16 ≤ B 16 0 (8 * r + d) := by rw [← e9]; exact hge
      have h50 := (n50 h16).2
      by_cases hl : un (A 11 r d) + 1 < 50
      · have c1 : A 11 r d + 1 < 50 := by rw [einc]; exact (nI_ltI (a := un (A 11 r d) + 1) (b := 50) (by omega) (by omega)).mpr hl
        have c2 : ¬ B 18 0 (8 * r + d) + 1 = 50 := by
          rw [← e11, einc]
          intro z
          have := (nI_eq (a := un (A 11 r d) + 1) (b := 50) (by omega) (by omega)).mp z
          omega
        have eA : tb_age A r d = tb_age2 A r d := by unfold tb_age; rw [if_pos hge, if_pos c1]
        have eB : md_age B (8 * r + d) = md_ag1 B (8 * r + d) := by unfold md_age md_lt; rw [if_pos hge2, if_pos (by rw [← e9]; exact h16), if_neg c2]
        rw [eA, eB]
        exact plain (by omega) (fun _ => hl)
      · have e50 : un (A 11 r d) + 1 = 50 := by omega
        have c1 : ¬ A 11 r d + 1 < 50 := by rw [einc, e50]; decide
        have c2 : B 18 0 (8 * r + d) + 1 = 50 := by rw [← e11, einc, e50]; rfl
        have eA : tb_age A r d = tb_forget (tb_age2 A r d) r d := by unfold tb_age; rw [if_pos hge, if_neg c1]
        have eB : md_age B (8 * r + d) = hr_w (hr_w (md_ag1 B (8 * r + d)) 16 0 (8 * r + d) 0) 19 0 (8 * r + d) 0 := by unfold md_age md_lt; rw [if_pos hge2, if_pos (by rw [← e9]; exact h16), if_pos c2]
        rw [eA, eB]
        unfold tb_forget
        refine Or.inl ⟨?_, ?_, ?_⟩ <;> simp only [hr_w_at] <;> simp
    · have hlt16 : un (A 9 r d) < 16 := by
        have := n9.2
        rcases Nat.lt_or_ge (un (A 9 r d)) 16 with z | z
        · exact z
        · exfalso; exact h16 (by rw [n9.1, show un (A 9 r d) = 16 by omega]; rfl)
      have hge : ¬ 16 ≤ A 9 r d := by
        rw [n9.1]
        exact fun z => absurd ((nI_leI (a := 16) (b := un (A 9 r d)) (by omega) (by omega)).mp z) (by omega)
      have hge2 : ¬ 16 ≤ B 16 0 (8 * r + d) := by rw [← e9]; exact hge
      by_cases hl : un (A 11 r d) + 1 < 60
      · have c1 : A 11 r d + 1 < 60 := by rw [einc]; exact (nI_ltI (a := un (A 11 r d) + 1) (b := 60) (by omega) (by omega)).mpr hl
        have c2 : ¬ B 18 0 (8 * r + d) + 1 = 60 := by
          rw [← e11, einc]
          intro z
          have := (nI_eq (a := un (A 11 r d) + 1) (b := 60) (by omega) (by omega)).mp z
          omega
        have eA : tb_age A r d = tb_age2 A r d := by unfold tb_age; rw [if_neg hge, if_pos c1]
        have eB : md_age B (8 * r + d) = md_ag1 B (8 * r + d) := by unfold md_age md_lt; rw [if_neg hge2, if_neg c2, if_neg (by rw [← e9]; exact h16)]
        rw [eA, eB]
        exact plain hl (fun z => absurd z h16)
      · have e60 : un (A 11 r d) + 1 = 60 := by omega
        have c1 : ¬ A 11 r d + 1 < 60 := by rw [einc, e60]; decide
        have c2 : B 18 0 (8 * r + d) + 1 = 60 := by rw [← e11, einc, e60]; rfl
        have eA : tb_age A r d = tb_gone (tb_age2 A r d) r d := by unfold tb_age; rw [if_neg hge, if_neg c1]
        have eB : md_age B (8 * r + d) = md_gone (md_ag1 B (8 * r + d)) (8 * r + d) := by unfold md_age; rw [if_neg hge2, if_pos c2]
        rw [eA, eB]
        unfold tb_gone md_gone
        refine rt_in ?_ ?_ ?_ hne ?_ ?_ ?_ ?_ ?_ ?_ ?_ <;> simp only [hr_w_at] <;> simp
        · exact nb_nI (n := 16) (by decide) (by decide)
        · decide
        · rw [s10, g17]; exact e10
        · exact n0 _ (by decide) (by decide)
        · exact n0 _ (by decide) (by decide)
        · exact nb_nI (n := 20) (by decide) (by decide)
theorem CI_grow' {A A' : hr_S} {r n : Nat} (h : hr_CI A) (e : A' = (if ¬ A 9 r n = -1 then tb_age A r n else A)) : hr_CI A' := by
  rw [e]
  split
  · exact CI_age h
  · exact h
theorem MI_agL' {B B' : hr_S} {q : Nat} (h : hr_MI B) (e : B' = (if B 16 0 q = 0 then B else md_age B q)) : hr_MI B' := by
  rw [e]
  split
  · exact h
  · exact MI_age h
/-- all routes of a router grow older -/
theorem rl_grow {A B : hr_S} {r : Nat} (hr : r < 8) : ∀ n, n ≤ 8 → rl A (md_agL B (8 * r)) → rl (tb_grow A r n) (md_agL B (8 * r + n))
  | 0, _, h => h
  | n + 1, hn, h => by
    have ih := rl_grow hr n (by omega) h
    have ht := rt_age (ih.2.1 r n hr (by omega))
    have eA : tb_grow A r (n + 1) = (if ¬ tb_grow A r n 9 r n = -1 then tb_age (tb_grow A r n) r n else tb_grow A r n) := rfl
    have eB : md_agL B (8 * r + (n + 1)) = (if md_agL B (8 * r + n) 16 0 (8 * r + n) = 0 then md_agL B (8 * r + n) else md_age (md_agL B (8 * r + n)) (8 * r + n)) := rfl
    refine rl_one ih hr (show n < 8 by omega) ?_ (MI_agL' ih.1.2 eB) ?_ ?_ (by rw [eA, eB]; exact ht)
    · exact CI_grow' ih.1.1 eA
    · rw [eA]
      split
      · exact tC_age _ _ _
      · exact tC.rf _ _ _
    · rw [eB]
      split
      · exact tM.rf _ _
      · exact tM_age _ _
theorem rl_g {A B : hr_S} (h : rl A B) : ∀ r, r ≤ 8 → rl (cl_g A r) (md_agL B (8 * r))
  | 0, _ => h
  | r + 1, hr => by
    have ih := rl_g h r (by omega)
    have := rl_grow (show r < 8 by omega) 8 (Nat.le_refl 8) ih
    rw [show 8 * r + 8 = 8 * (r + 1) by omega] at this
    exact this
/-! what is told -/
theorem told_eq {A B : hr_S} {r d : Nat} (h : rt A B r d) (hp : ¬ A 9 r d = -1) (x : Int32) : tb_told A r d x = md_told B (8 * r + d) x ∧ nb (tb_told A r d x) 17 := by
  rcases h with ⟨a9, -, -⟩ | ⟨e9, n9, p9, _, e10, _⟩
  · exact absurd a9 hp
  · have einc := nb_inc n9 (by decide)
    have h17 := n9.2
    have n16 : nb (16 : Int32) 17 := nb_nI (n := 16) (by decide) (by decide)
    unfold tb_told md_told
    rw [← e9, ← e10]
    by_cases hx : A 10 r d = x
    · rw [if_pos hx, if_pos hx]
      refine ⟨?_, n16⟩
      split <;> rfl
    · rw [if_neg hx, if_neg hx]
      refine ⟨rfl, ?_⟩
      split
      · exact n16
      · next hlt =>
        rw [einc] at hlt ⊢
        have : ¬ 16 < un (A 9 r d) + 1 := fun z => hlt ((nI_ltI (a := 16) (b := un (A 9 r d) + 1) (by omega) (by omega)).mpr z)
        exact nb_nI (by omega) (by decide)
theorem tlc_iff {A B : hr_S} {r d : Nat} (h : rt A B r d) (ev : Int32) : cl_tlc A r d ev ↔ md_tlc B r d ev := by
  unfold cl_tlc md_tlc
  rcases h with ⟨a9, b16, a13⟩ | ⟨e9, n9, p9, hne, _, _, _, e13, _⟩
  · have hB : ¬ (¬ B 16 0 (8 * r + d) ≤ 0) := not_not_intro (by rw [b16]; decide)
    split
    · exact ⟨fun z => absurd a13 z, fun z => absurd z.2.1 hB⟩
    · exact ⟨fun z => absurd a9 z, fun z => absurd z.2.1 hB⟩
  · have hm1 : A 9 r d ≠ -1 := nb_m1 n9 (by decide)
    have hB : ¬ B 16 0 (8 * r + d) ≤ 0 := by
      rw [← e9, nb_le0 n9 (by decide)]
      intro z
      rw [z] at p9
      exact absurd p9 (by decide)
    have hdr : ¬ d = r := fun z => hne z.symm
    split
    · next hev =>
      rw [← e13]
      exact ⟨fun z => ⟨hdr, hB, Or.inr z⟩, fun z => z.2.2.elim (fun y => absurd hev y) id⟩
    · next hev => exact ⟨fun _ => ⟨hdr, hB, Or.inl hev⟩, fun _ => hm1⟩
theorem tlc_has {A B : hr_S} {r d : Nat} (h : rt A B r d) {ev : Int32} (hc : cl_tlc A r d ev) : ¬ A 9 r d = -1 := by
  intro a9
  rcases h with ⟨_, b16, a13⟩ | ⟨e9, n9, _⟩
  · unfold cl_tlc at hc
    split at hc
    · exact hc a13
    · exact hc a9
  · exact nb_m1 n9 (by decide) a9
theorem mans_eq {A B : hr_S} {r d : Nat} (h : rt A B r d) : cl_mans A r d = md_mans B r d ∧ nb (cl_mans A r d) 17 := by
  unfold cl_mans md_mans
  by_cases hd : d = r
  · rw [if_pos hd, if_pos hd]
    exact ⟨rfl, nb_nI (n := 1) (by decide) (by decide)⟩
  · rw [if_neg hd, if_neg hd]
    rcases h with ⟨a9, b16, a13⟩ | ⟨e9, n9, p9, _⟩
    · rw [if_neg (not_not_intro a9), if_pos b16]
      exact ⟨rfl, nb_nI (n := 16) (by decide) (by decide)⟩
    · have hz : ¬ B 16 0 (8 * r + d) = 0 := fun z => by
        rw [← e9] at z
        rw [z] at p9
        exact absurd p9 (by decide)
      rw [if_pos (nb_m1 n9 (by decide)), if_neg hz]
      exact ⟨e9, n9⟩
theorem any_eq {A B : hr_S} (h : rT A B) {r : Nat} (hr : r < 8) : ∀ n, n ≤ 8 → tb_any A r n = md_some B r n
  | 0, _ => rfl
  | n + 1, hn => by
    have ht := tlc_iff (h r n hr (by omega)) 0
    unfold tb_any md_some
    rw [any_eq h hr n (by omega)]
    congr 1
    have e1 : cl_tlc A r n 0 ↔ ¬ A 13 r n = 0 := by unfold cl_tlc; rw [if_pos rfl]
    have e2 : md_tlc B r n 0 ↔ (¬ B 16 0 ((8 * r) + n) ≤ 0 ∧ ¬ B 19 0 ((8 * r) + n) = 0) := by
      unfold md_tlc
      constructor
      · intro z
        exact ⟨z.2.1, z.2.2.elim (fun y => absurd rfl y) id⟩
      · intro z
        refine ⟨?_, z.1, Or.inr z.2⟩
        intro e
        rcases h r n hr (by omega) with ⟨_, b16, _⟩ | ⟨_, _, _, hne, _⟩
        · exact z.1 (by rw [b16]; decide)
        · exact hne e.symm
    rw [e1, e2] at ht
    exact decide_eq_decide.mpr ht
/-- the flags are cleared -/
theorem rt_clr {A B : hr_S} {r d : Nat} (h : rt A B r d) : rt (hr_w A 13 r d 0) (hr_w B 19 0 (8 * r + d) 0) r d := by
  rcases h with ⟨a9, b16, a13⟩ | ⟨e9, n9, p9, hne, e10, e11, e12, e13, n11, n50, n12⟩
  · refine Or.inl ⟨?_, ?_, ?_⟩ <;> simp only [hr_w_at] <;> simp
    · exact a9
    · exact b16
  · refine rt_in ?_ ?_ ?_ hne ?_ ?_ ?_ ?_ ?_ ?_ ?_ <;> simp only [hr_w_at] <;> simp
    · exact e9
    · exact n9
    · exact p9
    · exact e10
    · exact e11
    · exact e12
    · exact n11
    · exact n50
    · exact n12
theorem rl_clr {A B : hr_S} (h : rl A B) {r : Nat} (hr : r < 8) : ∀ n, n ≤ 8 → rl (tb_clr A r n) (md_clr B r n)
  | 0, _ => h
  | n + 1, hn => by
    have ih := rl_clr h hr n (by omega)
    exact rl_one ih hr (show n < 8 by omega) (CI_clr h.1.1 (n + 1)) (MI_clr h.1.2 (n + 1)) ((tC.rf _ r n).w (by decide)) ((tM.rf _ _).w (by decide)) (rt_clr (ih.2.1 r n hr (by omega)))
/-- no flag is up: the model clears them all the same -/
theorem rl_clr0 {A B : hr_S} (h : rl A B) {r : Nat} (hr : r < 8) (hno : ∀ d, d < 8 → A 13 r d = 0) : ∀ n, n ≤ 8 → rl A (md_clr B r n)
  | 0, _ => h
  | n + 1, hn => by
    have ih := rl_clr0 h hr hno n (by omega)
    refine rl_one ih hr (show n < 8 by omega) h.1.1 (MI_clr h.1.2 (n + 1)) (tC.rf _ r n) ((tM.rf _ _).w (by decide)) ?_
    have h2 := rt_clr (ih.2.1 r n hr (by omega))
    have e : hr_w A 13 r n 0 = A := by
      funext k i j
      rw [hr_w_at]
      split
      · next z => rw [z.1, z.2.1, z.2.2]; exact (hno n (by omega)).symm
      · rfl
    rw [e] at h2
    exact h2
theorem any_none {A : hr_S} {r : Nat} : ∀ n, ¬ tb_any A r n = true → ∀ d, d < n → A 13 r d = 0
  | 0, _, d, hd => absurd hd (by omega)
  | n + 1, h, d, hd => by
    unfold tb_any at h
    rw [Bool.or_eq_true, decide_eq_true_iff] at h
    by_cases e : d = n
    · rw [e]; exact Decidable.byContradiction (fun z => h (Or.inr z))
    · exact any_none n (fun z => h (Or.inl z)) d (by omega)
theorem any_some {A : hr_S} {r : Nat} : ∀ n, tb_any A r n = true → ∃ d, d < n ∧ ¬ A 13 r d = 0
  | 0, h => absurd h (by unfold tb_any; decide)
  | n + 1, h => by
    unfold tb_any at h
    rw [Bool.or_eq_true, decide_eq_true_iff] at h
    rcases h with h | h
    · obtain ⟨d, h1, h2⟩ := any_some n h
      exact ⟨d, by omega, h2⟩
    · exact ⟨n, by omega, h⟩
/-! sees: routes through a lost neighbour -/
theorem rt_gone {A B : hr_S} {r d : Nat} (h : rt A B r d) (hp : ¬ A 9 r d = -1) : rt (tb_gone A r d) (md_gone B (8 * r + d)) r d := by
  have n0 : ∀ N, 0 < N → N ≤ 2 ^ 31 → nb (0 : Int32) N := fun N a b => nb_nI (n := 0) a b
  rcases h with ⟨a9, _, _⟩ | ⟨e9, n9, p9, hne, e10, e11, e12, e13, n11, n50, n12⟩
  · exact absurd a9 hp
  · unfold tb_gone md_gone
    refine rt_in ?_ ?_ ?_ hne ?_ ?_ ?_ ?_ ?_ ?_ ?_ <;> simp only [hr_w_at] <;> simp
    · exact nb_nI (n := 16) (by decide) (by decide)
    · decide
    · exact e10
    · exact n0 _ (by decide) (by decide)
    · exact n0 _ (by decide) (by decide)
    · exact nb_nI (n := 20) (by decide) (by decide)
theorem lose_iff {A B : hr_S} {r d : Nat} (h : rt A B r d) (x : Int32) : ((¬ A 9 r d = -1 ∧ A 9 r d < 16) ∧ A 10 r d = x ∧ A 12 r d = 0) ↔ ((1 ≤ B 16 0 ((8 * r) + d) ∧ B 16 0 ((8 * r) + d) ≤ 15) ∧ B 17 0 ((8 * r) + d) = x ∧ B 20 0 ((8 * r) + d) = 0) := by
  rcases h with ⟨a9, b16, a13⟩ | ⟨e9, n9, p9, hne, e10, e11, e12, _⟩
  · exact ⟨fun z => absurd a9 z.1.1, fun z => absurd z.1.1 (by rw [b16]; decide)⟩
  · rw [← e9, ← e10, ← e12]
    have h17 := n9.2
    have k1 : (A 9 r d < 16) ↔ A 9 r d ≤ 15 := by
      rw [n9.1]
      have a1 := nI_ltI (a := un (A 9 r d)) (b := 16) (by omega) (by omega)
      have a2 := nI_leI (a := un (A 9 r d)) (b := 15) (by omega) (by omega)
      exact ⟨fun z => a2.mpr (by have := a1.mp z; omega), fun z => a1.mpr (by have := a2.mp z; omega)⟩
    have k2 : 1 ≤ A 9 r d := by rw [n9.1]; exact (nI_leI (a := 1) (b := un (A 9 r d)) (by omega) (by omega)).mpr p9
    rw [k1]
    exact ⟨fun z => ⟨⟨k2, z.1.2⟩, z.2⟩, fun z => ⟨⟨nb_m1 n9 (by decide), z.1.2⟩, z.2⟩⟩
theorem rl_lose {A B : hr_S} (h : rl A B) {r : Nat} (hr : r < 8) (x : Int32) : ∀ n, n ≤ 8 → rl (tb_lose A r x n).1 (md_seL B r x n).1 ∧ (tb_lose A r x n).2 = (md_seL B r x n).2
  | 0, _ => ⟨h, rfl⟩
  | n + 1, hn => by
    obtain ⟨ih, ic⟩ := rl_lose h hr x n (by omega)
    have ht := ih.2.1 r n hr (by omega)
    have hi := lose_iff ht x
    unfold tb_lose md_seL
    by_cases hc : (¬ (tb_lose A r x n).1 9 r n = -1 ∧ (tb_lose A r x n).1 9 r n < 16) ∧ (tb_lose A r x n).1 10 r n = x ∧ (tb_lose A r x n).1 12 r n = 0
    · rw [if_pos hc, if_pos (hi.mp hc)]
      exact ⟨rl_one ih hr (show n < 8 by omega) (CI_gone ih.1.1) (MI_gone ih.1.2) (tC_gone (tC.rf _ r n)) (tM_gone (tM.rf _ _)) (rt_gone ht hc.1.1), by show _ + 1 = _ + 1; rw [ic]⟩
    · rw [if_neg hc, if_neg (fun z => hc (hi.mpr z))]
      exact ⟨ih, ic⟩
/-! restart: the table is empty -/
theorem rl_fall {A B : hr_S} (h : rl A B) {r : Nat} (hr : r < 8) : ∀ n, n ≤ 8 → rl (tb_fall A r n) (md_rsC B r n)
  | 0, _ => h
  | n + 1, hn => by
    have ih := rl_fall h hr n (by omega)
    refine rl_one ih hr (show n < 8 by omega) (CI_fall h.1.1 (n + 1)) (MI_rsC h.1.2 (n + 1)) (tC_forget (tC.rf _ r n)) ?_ ?_
    · show tM (hr_w (hr_w (hr_w (md_rsC B r n) 16 0 ((8 * r) + n) 0) 19 0 ((8 * r) + n) 0) 20 0 ((8 * r) + n) 0) (md_rsC B r n) (8 * r + n)
      exact (((tM.rf _ _).w (by decide)).w (by decide)).w (by decide)
    · unfold tb_fall tb_forget md_rsC
      refine Or.inl ⟨?_, ?_, ?_⟩ <;> simp only [hr_w_at] <;> simp
