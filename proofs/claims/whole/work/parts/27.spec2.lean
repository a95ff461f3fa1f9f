/-! the public methods -/
theorem nb_le {x y : Int32} {N : Nat} (h0 : ¬ x < 0) (h : x ≤ y) (hy : y = nI N) (hN : N + 1 < 2 ^ 31) : nb x (N + 1) := by
  obtain ⟨j, hj, rfl⟩ := nI_of h0
  subst hy
  have : j ≤ N := (nI_leI hj (by omega)).mp h
  exact nb_nI (by omega) (by omega)
theorem nb_nle {x y : Int32} {N : Nat} (h : ¬ x ≤ y) (hy : y = nI N) (hN : N + 1 < 2 ^ 31) : ¬ nb x (N + 1) := fun z => by
  rw [z.1, hy] at h
  exact h (nI_le (by have := z.2; omega) (by omega))
theorem nb_out {x : Int32} {N : Nat} (h : ¬ nb x N) (hN : N < 2 ^ 31) : x.toInt < 0 ∨ (N : Int) - 1 < x.toInt := by
  rcases pk_ix x hN with h1 | h1 | ⟨j, hj, rfl⟩
  · left; simpa using Int32.lt_iff_toInt_lt.mp h1
  · right
    have h2 := Int32.le_iff_toInt_le.mp h1
    rw [nI_toInt hN] at h2
    omega
  · exact absurd (nb_nI hj (by omega)) h
theorem nb_eq {x : Int32} {N n : Nat} (h : nb x N) (hn : un x = n) : x = nI n := by rw [← hn]; exact h.1
theorem un_inj {x y : Int32} {M N : Nat} (hx : nb x M) (hy : nb y N) (h : un x = un y) : x = y := by rw [hx.1, hy.1, h]
noncomputable section
def cl_lv (S : hr_S) (a b : Nat) : Int32 := if ¬ S 1 0 (a * 8 + b) = 0 then 1 else 0
def cl_lk0 (S : hr_S) (a b : Nat) (up : Int32) : hr_S := hr_w (hr_w S 1 0 (a * 8 + b) (vp_nar .boolean up)) 1 0 (b * 8 + a) (vp_nar .boolean up)
def cl_link (S : hr_S) (a b : Nat) (up : Int32) : hr_S := hr_w (cl_lk0 S a b up) 0 0 6 (S 0 0 6 + (if up = 0 then -1 else 1))
def cl_rs1 (S : hr_S) (r x : Nat) : hr_S := ai_launch (pk_addE (pk_begin S 200 (nI r) (nI x) 16908288) 200 0 0 16) 200
def cl_rsL (S : hr_S) (r : Nat) : Nat → hr_S
  | 0 => S
  | x + 1 => if ¬ cl_rsL S r x 1 0 (r * 8 + x) = 0 then cl_rs1 (cl_rsL S r x) r x else cl_rsL S r x
def cl_askL (S : hr_S) (r x : Nat) (ds : Int32) : Nat → hr_S
  | 0 => pk_begin S 200 (nI r) (nI x) 16908288
  | d + 1 => if ((ds >>> (nI d &&& 31)) &&& 1) = 1 then pk_addE (cl_askL S r x ds d) 200 2 (nI d) 16 else cl_askL S r x ds d
def cl_dr : Nat → hr_S → hr_S
  | 0, S => S
  | c + 1, S => if 0 < ai_n S then cl_dr c (cl_bring S 0) else S
def cl_tk1 (S : hr_S) (al : Int32) : hr_S := if al = 0 then cl_pass S else cl_dr 1000 (cl_pass S)
def cl_tick (S : hr_S) (al : Int32) : Nat → hr_S
  | 0 => S
  | i + 1 => cl_tk1 (cl_tick S al i) al
def cl_sd (S : hr_S) (d : Nat) : Nat → Nat → Int32
  | 0, at9 => if at9 = d then 16 else -3
  | f + 1, at9 => if at9 = d then nI (16 - (f + 1)) else if (¬ S 9 at9 d = -1) ∧ S 9 at9 d < 16 then (if ¬ S 1 0 (at9 * 8 + un (S 10 at9 d)) = 0 then cl_sd S d f (un (S 10 at9 d)) else -2) else -1
end
theorem CI_rs1 {S : hr_S} (h : hr_CI S) {r x : Nat} (hr : r < 8) (hx : x < 8) : hr_CI (cl_rs1 S r x) := CI_launch (CI_addE (CI_begin h (nb_nI hr (by decide)) (nb_nI hx (by decide)))) (by decide)
theorem CI_rsL {S : hr_S} (h : hr_CI S) {r : Nat} (hr : r < 8) : ∀ x, x ≤ 8 → hr_CI (cl_rsL S r x)
  | 0, _ => h
  | x + 1, hx => by
    unfold cl_rsL
    split
    · exact CI_rs1 (CI_rsL h hr x (by omega)) hr (by omega)
    · exact CI_rsL h hr x (by omega)
theorem CI_askL {S : hr_S} (h : hr_CI S) {r x : Nat} {ds : Int32} (hr : r < 8) (hx : x < 8) : ∀ d, hr_CI (cl_askL S r x ds d)
  | 0 => CI_begin h (nb_nI hr (by decide)) (nb_nI hx (by decide))
  | d + 1 => by
    unfold cl_askL
    split
    · exact CI_addE (CI_askL h hr hx d)
    · exact CI_askL h hr hx d
theorem len_askL (S : hr_S) (r x : Nat) (ds : Int32) : ∀ d, 4 ≤ un (cl_askL S r x ds d 6 200 2)
  | 0 => by unfold cl_askL; rw [len_begin]; omega
  | d + 1 => by
    unfold cl_askL
    split
    · exact len_addE (len_askL S r x ds d)
    · exact len_askL S r x ds d
theorem CI_dr : ∀ (c : Nat) {S : hr_S}, hr_CI S → hr_CI (cl_dr c S)
  | 0, _, h => h
  | c + 1, S, h => by
    unfold cl_dr
    split
    · next hn => exact CI_dr c (CI_bring h hn)
    · exact h
theorem CI_tick {S : hr_S} (h : hr_CI S) {al : Int32} : ∀ i, hr_CI (cl_tick S al i)
  | 0 => h
  | i + 1 => by
    have h1 := CI_pass (CI_tick h (al := al) i)
    unfold cl_tick cl_tk1
    split
    · exact h1
    · exact CI_dr 1000 h1
theorem vp_nar01 {x : Int32} (h : x = 0 ∨ x = 1) : vp_nar .boolean x = x := by rcases h with rfl | rfl <;> rfl
theorem CI_link {S : hr_S} (h : hr_CI S) {a b : Nat} {up : Int32} (hu : up = 0 ∨ up = 1) : hr_CI (cl_link S a b up) := by
  unfold cl_link cl_lk0
  rw [vp_nar01 hu]
  exact CI_tm (CI_l (CI_l h hu) hu)
theorem ai_twne {S : hr_S} (h : hr_CI S) {k : Nat} (hk : k < ai_n S) : ai_n S < 200 → ¬ ai_o S (ai_n S) = ai_o S k := fun hn z => by
  have := h.2.2.1 (ai_n S) k hn (by omega) z
  omega
