/-! the model's public methods -/
theorem nb_07i {x : Int32} (h : nb x 8) : 0 ≤ x ∧ x ≤ 7 := by
  have h2 := h.2
  rw [h.1]
  exact ⟨nI_le (a := 0) (by omega) (by omega), nI_le (b := 7) (by omega) (by omega)⟩
theorem nb_in {x y : Int32} {N : Nat} (hy : y = nI N) (hN : N + 1 < 2 ^ 31) : (0 ≤ x ∧ x ≤ y) ↔ nb x (N + 1) := by
  subst hy
  constructor
  · intro h
    exact nb_le (Int32.not_lt.mpr h.1) h.2 rfl hN
  · intro h
    have h2 := h.2
    rw [h.1]
    exact ⟨nI_le (a := 0) (by omega) (by omega), nI_le (by omega) (by omega)⟩
theorem nb_0 (x : Int32) : ¬ nb x 0 := fun h => Nat.not_lt_zero _ h.2
/-- 0 .. n - 1 -/
theorem nb_inm {x n : Int32} {N : Nat} (hn : nb n N) (hN : N < 2 ^ 31) : (0 ≤ x ∧ x ≤ n - 1) ↔ nb x (un n) := by
  have h2 := hn.2
  cases hm : un n with
  | zero =>
    have : n = 0 := by rw [hn.1, hm]; rfl
    subst this
    constructor
    · intro h
      have := Int32.le_iff_toInt_le.mp (Int32.le_trans h.1 h.2)
      exact absurd this (by decide)
    · intro h; exact absurd h (nb_0 x)
  | succ m =>
    have : n - 1 = nI m := by
      rw [hn.1, hm]
      exact pk_sub (a := m + 1) (b := 1) (by omega)
    rw [this]
    exact nb_in rfl (by omega)
theorem nb_m3 {x n : Int32} {N : Nat} (hn : nb n N) (hN : N < 2 ^ 31) : ((-3) ≤ x ∧ x ≤ n - 1) ↔ (x = -3 ∨ x = -2 ∨ x = -1 ∨ nb x (un n)) := by
  have hm1 : ∀ y : Int32, y = -3 ∨ y = -2 ∨ y = -1 → y ≤ n - 1 := by
    intro y hy
    cases hm : un n with
    | zero =>
      have : n = 0 := by rw [hn.1, hm]; rfl
      subst this
      rcases hy with rfl | rfl | rfl <;> decide
    | succ m =>
      have h2 := hn.2
      have e : n - 1 = nI m := by
        rw [hn.1, hm]
        exact pk_sub (a := m + 1) (b := 1) (by omega)
      rw [e]
      refine Int32.le_trans (b := 0) ?_ (nI_le (a := 0) (by omega) (by omega))
      rcases hy with rfl | rfl | rfl <;> decide
  constructor
  · intro h
    by_cases h3 : x = -3
    · exact Or.inl h3
    · by_cases h4 : x = -2
      · exact Or.inr (Or.inl h4)
      · by_cases h5 : x = -1
        · exact Or.inr (Or.inr (Or.inl h5))
        · refine Or.inr (Or.inr (Or.inr ((nb_inm hn hN).mp ⟨?_, h.2⟩)))
          rw [Int32.le_iff_toInt_le]
          have h6 := Int32.le_iff_toInt_le.mp h.1
          have a3 : x.toInt ≠ -3 := fun z => h3 (Int32.toInt_inj.mp z)
          have a4 : x.toInt ≠ -2 := fun z => h4 (Int32.toInt_inj.mp z)
          have a5 : x.toInt ≠ -1 := fun z => h5 (Int32.toInt_inj.mp z)
          have e3 : ((-3 : Int32)).toInt = -3 := by decide
          have e0 : ((0 : Int32)).toInt = 0 := by decide
          omega
  · intro h
    rcases h with rfl | rfl | rfl | h
    · exact ⟨by decide, hm1 _ (Or.inl rfl)⟩
    · exact ⟨by decide, hm1 _ (Or.inr (Or.inl rfl))⟩
    · exact ⟨by decide, hm1 _ (Or.inr (Or.inr rfl))⟩
    · have h1 := (nb_inm hn hN).mpr h
      exact ⟨Int32.le_trans (b := 0) (by decide) h1.1, h1.2⟩
def md_0 (S : hr_S) : hr_S := hr_w S 14 0 0 0
def md_r (S : hr_S) (k : Int32) : hr_S := hr_w (md_0 S) 14 0 0 k
theorem md_0_0 (S : hr_S) : md_0 S 14 0 0 = 0 := hr_w_self _ _ _ _ _
theorem MI_z {S : hr_S} (h : hr_MI S) {v : Int32} : hr_MI (hr_w S 14 0 0 v) := MI_o h (by decide) (by decide) (by decide) (by decide) (by decide) (by decide)
theorem MI_0 {S : hr_S} (h : hr_MI S) : hr_MI (md_0 S) := MI_z h
theorem MI_r {S : hr_S} (h : hr_MI S) {k : Int32} : hr_MI (md_r S k) := MI_z (MI_0 h)
noncomputable section
def md_lnk (S : hr_S) (a b : Nat) (up : Int32) : hr_S := hr_w (hr_w S 15 0 ((8 * a) + b) (vp_nar .boolean up)) 15 0 ((8 * b) + a) (vp_nar .boolean up)
def md_seL (S : hr_S) (r : Nat) (x : Int32) : Nat → hr_S × Nat
  | 0 => (S, 0)
  | d + 1 => if (1 ≤ (md_seL S r x d).1 16 0 ((8 * r) + d) ∧ (md_seL S r x d).1 16 0 ((8 * r) + d) ≤ 15) ∧ (md_seL S r x d).1 17 0 ((8 * r) + d) = x ∧ (md_seL S r x d).1 20 0 ((8 * r) + d) = 0 then (md_gone (md_seL S r x d).1 ((8 * r) + d), (md_seL S r x d).2 + 1) else md_seL S r x d
def md_rsC (S : hr_S) (r : Nat) : Nat → hr_S
  | 0 => S
  | d + 1 => hr_w (hr_w (hr_w (md_rsC S r d) 16 0 ((8 * r) + d) 0) 19 0 ((8 * r) + d) 0) 20 0 ((8 * r) + d) 0
def md_rs1 (S : hr_S) (r x : Nat) : hr_S := md_post (md_entry (md_begin S 1) 4 0 0 16) (nI r) (nI x)
def md_rsL (S : hr_S) (r : Nat) : Nat → hr_S
  | 0 => S
  | x + 1 => if ¬ md_rsL S r x 15 0 ((8 * r) + x) = 0 then md_rs1 (md_rsL S r x) r x else md_rsL S r x
def md_asL (S : hr_S) (ds : Int32) : Nat → hr_S
  | 0 => md_begin S 1
  | d + 1 => if ((ds >>> (nI d &&& 31)) &&& 1) = 1 then md_entry (md_asL S ds d) (md_m (md_asL S ds d)) 2 (nI d) 16 else md_asL S ds d
def md_dr : Nat → hr_S → hr_S
  | 0, S => S
  | c + 1, S => if 0 < md_n S then md_dr c (md_arr S 0) else S
def md_tk1' (S : hr_S) (al : Int32) : hr_S := if al = 0 then md_turn S else md_dr 1000 (md_turn S)
def md_tick (S : hr_S) (al : Int32) : Nat → hr_S
  | 0 => S
  | i + 1 => md_tk1' (md_tick S al i) al
def md_twL (S : hr_S) (k : Nat) : Nat → hr_S
  | 0 => S
  | i + 1 => hr_w (md_twL S k i) 25 0 i (md_twL S k i 24 0 ((164 * k) + i))
def md_tw1 (S : hr_S) (k : Nat) : hr_S := md_twL (hr_w S 14 0 16 (S 23 0 k)) k (un (S 23 0 k))
def md_twice (S : hr_S) (k : Nat) : hr_S := md_post (md_tw1 S k) (md_tw1 S k 21 0 k) (md_tw1 S k 22 0 k)
def md_pkt (S : hr_S) (k : Nat) (j : Int32) : Int32 := if j = -3 then S 21 0 k else if j = -2 then S 22 0 k else if j = -1 then S 23 0 k else S 24 0 ((164 * k) + un j)
def md_rt1 (S : hr_S) (p w : Nat) : Int32 := if S 16 0 p = 0 then -1 else if w = 0 then S 16 0 p else if w = 1 then S 17 0 p else if w = 2 then S 18 0 p else if w = 3 then (if S 19 0 p = 0 then 0 else 1) else S 20 0 p
def md_route (S : hr_S) (a b w : Nat) : Int32 := if a = b then (if w = 0 then 0 else -1) else md_rt1 S ((8 * a) + b) w
def md_sd (S : hr_S) (d : Nat) : Nat → Nat → Int32
  | 0, at9 => if at9 = d then 16 else -3
  | f + 1, at9 => if at9 = d then nI (16 - (f + 1)) else if S 16 0 ((8 * at9) + d) = 0 ∨ S 16 0 ((8 * at9) + d) = 16 then -1 else (if ¬ S 15 0 ((8 * at9) + un (S 17 0 ((8 * at9) + d))) = 0 then md_sd S d f (un (S 17 0 ((8 * at9) + d))) else -2)
def md_cnt (S : hr_S) : Nat → Nat
  | 0 => 0
  | p + 1 => md_cnt S p + (if ¬ S 15 0 p = 0 ∧ p / 8 < p % 8 then 1 else 0)
def md_count (S : hr_S) (w : Nat) : Int32 := if w = 0 then S 14 0 11 else if w = 1 then S 14 0 2 else if w = 2 then S 14 0 3 else if w = 3 then S 14 0 1 else if w = 4 then nI (md_cnt S 64) else S 14 0 4
end
theorem md_cnt_le (S : hr_S) : ∀ p, md_cnt S p ≤ p
  | 0 => Nat.le_refl 0
  | p + 1 => by
    have := md_cnt_le S p
    unfold md_cnt
    split <;> omega
theorem md_seL_le (S : hr_S) (r : Nat) (x : Int32) : ∀ d, (md_seL S r x d).2 ≤ d
  | 0 => Nat.le_refl 0
  | d + 1 => by
    have := md_seL_le S r x d
    unfold md_seL
    split
    · show (md_seL S r x d).2 + 1 ≤ d + 1; omega
    · omega
theorem MI_seL {S : hr_S} (h : hr_MI S) {r : Nat} {x : Int32} : ∀ d, hr_MI (md_seL S r x d).1
  | 0 => h
  | d + 1 => by
    unfold md_seL
    split
    · exact MI_gone (MI_seL h d)
    · exact MI_seL h d
theorem MI_rsC {S : hr_S} (h : hr_MI S) {r : Nat} : ∀ d, hr_MI (md_rsC S r d)
  | 0 => h
  | d + 1 => by
    unfold md_rsC
    refine MI_o (MI_o (MI_o (MI_rsC h d) ?_ ?_ ?_ ?_ ?_ ?_) ?_ ?_ ?_ ?_ ?_ ?_) ?_ ?_ ?_ ?_ ?_ ?_ <;> omega
theorem mk_en1 (S : hr_S) (b f d t : Int32) : md_mk (md_entry (md_begin S b) 4 f d t) 24 := mk_entry (B := 4) (mk_begin S b) (by unfold md_m; rw [md_begin_m, un_nI (by decide)]) (by decide) _ _ _
theorem MI_rs1 {S : hr_S} (h : hr_MI S) {r x : Nat} (hr : r < 8) (hx : x < 8) : hr_MI (md_rs1 S r x) :=
  MI_post (MI_entry (MI_begin h)) (nb_nI hr (by decide)) (nb_nI hx (by decide)) (mk_nb (mk_en1 S 1 0 0 16) (by decide)).2
theorem MI_rsL {S : hr_S} (h : hr_MI S) {r : Nat} (hr : r < 8) : ∀ x, x ≤ 8 → hr_MI (md_rsL S r x)
  | 0, _ => h
  | x + 1, hx => by
    unfold md_rsL
    split
    · exact MI_rs1 (MI_rsL h hr x (by omega)) hr (by omega)
    · exact MI_rsL h hr x (by omega)
theorem MI_asL {S : hr_S} (h : hr_MI S) {ds : Int32} : ∀ d, hr_MI (md_asL S ds d)
  | 0 => MI_begin h
  | d + 1 => by
    unfold md_asL
    split
    · exact MI_entry (MI_asL h d)
    · exact MI_asL h d
theorem mk_asL (S : hr_S) (ds : Int32) : ∀ d, d ≤ 8 → md_mk (md_asL S ds d) (4 + 20 * d)
  | 0, _ => mk_begin S 1
  | d + 1, hd => by
    have ih := mk_asL S ds d (by omega)
    unfold md_asL
    split
    · exact mk_up (mk_entry ih rfl (by omega) _ _ _) (by omega)
    · exact mk_up ih (by omega)
theorem MI_dr : ∀ (c : Nat) {S : hr_S}, hr_MI S → hr_MI (md_dr c S)
  | 0, _, h => h
  | c + 1, S, h => by
    unfold md_dr
    split
    · next hn => exact MI_dr c (MI_arr h hn)
    · exact h
theorem MI_tick {S : hr_S} (h : hr_MI S) {al : Int32} : ∀ i, hr_MI (md_tick S al i)
  | 0 => h
  | i + 1 => by
    have h1 := MI_turn (MI_tick h (al := al) i)
    unfold md_tick md_tk1'
    split
    · exact h1
    · exact MI_dr 1000 h1
theorem md_twL_k (S : hr_S) (q : Nat) {k : Nat} (hk : k ≠ 25) (i' j' : Nat) : ∀ i, md_twL S q i k i' j' = S k i' j'
  | 0 => rfl
  | i + 1 => by unfold md_twL; rw [hr_w_k _ hk]; exact md_twL_k S q hk i' j' i
theorem MI_twL {S : hr_S} (h : hr_MI S) {q : Nat} : ∀ i, hr_MI (md_twL S q i)
  | 0 => h
  | i + 1 => MI_o (MI_twL h i) (by omega) (by omega) (by omega) (by omega) (by omega) (by omega)
theorem MI_tw1 {S : hr_S} (h : hr_MI S) {k : Nat} : hr_MI (md_tw1 S k) := MI_twL (MI_o h (by decide) (by decide) (by decide) (by decide) (by decide) (by decide)) _
theorem md_tw1_m (S : hr_S) (k : Nat) : md_tw1 S k 14 0 16 = S 23 0 k := by
  unfold md_tw1
  rw [md_twL_k _ _ (by decide), hr_w_self]
theorem md_tw1_k (S : hr_S) (q : Nat) {k : Nat} (hk : k ≠ 25) (h4 : k ≠ 14) (i' j' : Nat) : md_tw1 S q k i' j' = S k i' j' := by
  unfold md_tw1
  rw [md_twL_k _ _ hk, hr_w_k _ h4]
theorem MI_twice {S : hr_S} (h : hr_MI S) {k : Nat} (hk : k < 200) : hr_MI (md_twice S k) := by
  obtain ⟨b1, b2, b3⟩ := h.2.1 k hk
  refine MI_post (MI_tw1 h) ?_ ?_ ?_
  · rw [md_tw1_k _ _ (by decide) (by decide)]; exact b1
  · rw [md_tw1_k _ _ (by decide) (by decide)]; exact b2
  · unfold md_m; rw [md_tw1_m]; exact b3.2
theorem MI_lnk {S : hr_S} (h : hr_MI S) {a b : Nat} {up : Int32} (hu : up = 0 ∨ up = 1) : hr_MI (md_lnk S a b up) := by
  unfold md_lnk
  rw [vp_nar01 hu]
  exact MI_l (MI_l h hu) hu
theorem md_sd_at {S : hr_S} {d h9 at9 : Nat} (h : at9 = d) (hh : h9 ≤ 16) : md_sd S d (16 - h9) at9 = nI h9 := by
  cases e : 16 - h9 with
  | zero =>
    have : h9 = 16 := by omega
    subst this
    unfold md_sd
    rw [if_pos h]; rfl
  | succ f =>
    unfold md_sd
    rw [if_pos h, show 16 - (f + 1) = h9 by omega]
theorem md_sd_16 {S : hr_S} {d h9 at9 : Nat} (h : ¬ at9 = d) (hh : 16 ≤ h9) : md_sd S d (16 - h9) at9 = -3 := by
  rw [show 16 - h9 = 0 by omega]
  unfold md_sd
  rw [if_neg h]
theorem md_sd_go {S : hr_S} {d h9 at9 : Nat} (h : ¬ at9 = d) (hh : h9 < 16) : md_sd S d (16 - h9) at9 = if S 16 0 ((8 * at9) + d) = 0 ∨ S 16 0 ((8 * at9) + d) = 16 then -1 else (if ¬ S 15 0 ((8 * at9) + un (S 17 0 ((8 * at9) + d))) = 0 then md_sd S d (16 - (h9 + 1)) (un (S 17 0 ((8 * at9) + d))) else -2) := by
  rw [show 16 - h9 = (16 - (h9 + 1)) + 1 by omega, md_sd, if_neg h]
