/-! LINKS, AND WHAT IS READ -/
theorem lv_eq {A B : hr_S} (h : rl A B) {a b : Nat} (ha : a < 8) (hb : b < 8) : cl_lv A a b = B 15 0 ((8 * a) + b) := by
  have hu := up_iff h ha hb
  unfold cl_lv
  rw [hu]
  rcases h.1.2.2.2.2 ((8 * a) + b) (by omega) with z | z
  · rw [z, if_neg (by decide)]
  · rw [z, if_pos (by decide)]
def md_ind (B : hr_S) (p : Nat) : Prop := ¬ B 15 0 p = 0 ∧ p / 8 < p % 8
theorem cnt_upd {B B' : hr_S} {q : Nat} (h : ∀ p, p ≠ q → (md_ind B' p ↔ md_ind B p)) : ∀ n, md_cnt B' n + (if q < n ∧ ¬ B 15 0 q = 0 ∧ q / 8 < q % 8 then 1 else 0) = md_cnt B n + (if q < n ∧ ¬ B' 15 0 q = 0 ∧ q / 8 < q % 8 then 1 else 0)
  | 0 => by rw [if_neg (by omega), if_neg (by omega)]; rfl
  | n + 1 => by
    have ih := cnt_upd h n
    unfold md_cnt
    by_cases e : q = n
    · subst e
      rw [if_neg (show ¬ (q < q ∧ ¬ B 15 0 q = 0 ∧ q / 8 < q % 8) by omega), if_neg (show ¬ (q < q ∧ ¬ B' 15 0 q = 0 ∧ q / 8 < q % 8) by omega)] at ih
      have hl : q < q + 1 := Nat.lt_succ_self q
      by_cases c1 : ¬ B 15 0 q = 0 ∧ q / 8 < q % 8
      · by_cases c2 : ¬ B' 15 0 q = 0 ∧ q / 8 < q % 8
        · rw [if_pos c1, if_pos c2, if_pos ⟨hl, c1⟩, if_pos ⟨hl, c2⟩]; omega
        · rw [if_pos c1, if_neg c2, if_pos ⟨hl, c1⟩, if_neg (fun z => c2 z.2)]; omega
      · by_cases c2 : ¬ B' 15 0 q = 0 ∧ q / 8 < q % 8
        · rw [if_neg c1, if_pos c2, if_neg (fun z => c1 z.2), if_pos ⟨hl, c2⟩]; omega
        · rw [if_neg c1, if_neg c2, if_neg (fun z => c1 z.2), if_neg (fun z => c2 z.2)]; omega
    · have hi := h n (fun z => e z.symm)
      have k1 : (if ¬ B' 15 0 n = 0 ∧ n / 8 < n % 8 then 1 else 0) = (if ¬ B 15 0 n = 0 ∧ n / 8 < n % 8 then 1 else 0) := by
        by_cases c : md_ind B n
        · rw [if_pos (show ¬ B' 15 0 n = 0 ∧ n / 8 < n % 8 from hi.mpr c), if_pos (show ¬ B 15 0 n = 0 ∧ n / 8 < n % 8 from c)]
        · rw [if_neg (show ¬ (¬ B' 15 0 n = 0 ∧ n / 8 < n % 8) from fun z => c (hi.mp z)), if_neg (show ¬ (¬ B 15 0 n = 0 ∧ n / 8 < n % 8) from c)]
      have k2 : (q < n + 1) ↔ (q < n) := by omega
      rw [k1]
      simp only [k2]
      omega
theorem link_sim {A B : hr_S} (h : rl A B) {a b : Nat} (ha : a < 8) (hb : b < 8) (hne : a ≠ b) {up : Int32} (hu : up = 0 ∨ up = 1) : rl (if cl_lv A a b = up then A else cl_link A a b up) (md_lnk B a b up) := by
  have hlv := lv_eq h ha hb
  obtain ⟨⟨c, m⟩, t, ⟨l1, l2, l3, l4⟩, ra, n⟩ := id h
  by_cases he : cl_lv A a b = up
  · rw [if_pos he]
    have e1 : B 15 0 ((8 * a) + b) = up := by rw [← hlv]; exact he
    have e2 : B 15 0 ((8 * b) + a) = up := by rw [← l2 a b ha hb]; exact e1
    have eB : md_lnk B a b up = B := by
      unfold md_lnk
      rw [vp_nar01 hu]
      funext k i j
      rw [hr_w_at, hr_w_at]
      split
      · next z => rw [z.1, z.2.1, z.2.2]; exact e2.symm
      · split
        · next z => rw [z.1, z.2.1, z.2.2]; exact e1.symm
        · rfl
    rw [eB]
    exact h
  · rw [if_neg he]
    have e1 : ¬ B 15 0 ((8 * a) + b) = up := by rw [← hlv]; exact he
    have e2 : B 15 0 ((8 * b) + a) = B 15 0 ((8 * a) + b) := (l2 a b ha hb).symm
    have hA1 : ∀ x, cl_link A a b up 1 0 x = if x = b * 8 + a then up else if x = a * 8 + b then up else A 1 0 x := fun x => by
      unfold cl_link cl_lk0
      rw [vp_nar01 hu, hr_w_k _ (by decide), hr_w_at, hr_w_at]
      simp
    have hB15 : ∀ x, md_lnk B a b up 15 0 x = if x = (8 * b) + a then up else if x = (8 * a) + b then up else B 15 0 x := fun x => by
      unfold md_lnk
      rw [vp_nar01 hu, hr_w_at, hr_w_at]
      simp
    have hAk : ∀ k, k ≠ 0 → k ≠ 1 → cl_link A a b up k = A k := fun k h0 h1 => by
      funext i j
      unfold cl_link cl_lk0
      rw [hr_w_k _ h0, hr_w_k _ h1, hr_w_k _ h1]
    have hA0 : ∀ j, j ≠ 6 → cl_link A a b up 0 0 j = A 0 0 j := fun j hj => by
      unfold cl_link cl_lk0
      rw [hr_w_at, if_neg (fun z => hj z.2.2), hr_w_k _ (by decide), hr_w_k _ (by decide)]
    have hBk : ∀ k, k ≠ 15 → md_lnk B a b up k = B k := fun k hk => by
      funext i j
      unfold md_lnk
      rw [hr_w_k _ hk, hr_w_k _ hk]
    refine ⟨⟨CI_link c hu, MI_lnk m hu⟩, rT_cg (fun k h1 h2 => hAk k (by omega) (by omega)) (fun k h1 h2 => hBk k (by omega)) t, ⟨fun x hx => ?_, fun p q hp hq => ?_, fun p hp => ?_, ?_⟩, rA_cg (by rw [hAk 3 (by decide) (by decide)]) (hAk 5 (by decide) (by decide)) (fun p _ => by rw [hAk 6 (by decide) (by decide)]) (fun p _ => by rw [hAk 7 (by decide) (by decide)]) (by rw [hBk 14 (by decide)]) (fun k h1 h2 => hBk k (by omega)) c ra, rN_cg (hA0 5 (by decide)) (hA0 7 (by decide)) (by rw [hAk 3 (by decide) (by decide)]) (by rw [hAk 3 (by decide) (by decide)]) (by rw [hBk 14 (by decide)]) (by rw [hBk 14 (by decide)]) (by rw [hBk 14 (by decide)]) (by rw [hBk 14 (by decide)]) n⟩
    · rw [hA1, hB15, l1 x hx, Nat.mul_comm b 8, Nat.mul_comm a 8]
    · rw [hB15, hB15]
      by_cases s1 : p = a ∧ q = b
      · rw [if_neg (by omega), if_pos (by omega), if_pos (by omega)]
      · by_cases s2 : p = b ∧ q = a
        · rw [if_pos (by omega), if_neg (by omega), if_pos (by omega)]
        · rw [if_neg (by omega), if_neg (by omega), if_neg (by omega), if_neg (by omega)]
          exact l2 p q hp hq
    · rw [hB15, if_neg (by omega), if_neg (by omega)]
      exact l3 p hp
    · -- the number of links
      have key : ∀ q o, (q = (8 * a) + b ∧ o = (8 * b) + a) ∨ (q = (8 * b) + a ∧ o = (8 * a) + b) → q / 8 < q % 8 → ¬ o / 8 < o % 8 → cl_link A a b up 0 0 6 = nI (md_cnt (md_lnk B a b up) 64) := by
        intro q o hq hlt hno
        have hcu := cnt_upd (B := B) (B' := md_lnk B a b up) (q := q) (fun p hp => by
          unfold md_ind
          by_cases po : p = o
          · rw [po]
            exact ⟨fun z => absurd z.2 hno, fun z => absurd z.2 hno⟩
          · rw [hB15, if_neg (by omega), if_neg (by omega)]) 64
        have hq64 : q < 64 := by omega
        have eB : B 15 0 q = B 15 0 ((8 * a) + b) := by rcases hq with z | z <;> rw [z.1]; exact e2
        have eB' : md_lnk B a b up 15 0 q = up := by
          rw [hB15]
          rcases hq with z | z
          · rw [if_neg (by omega), if_pos z.1]
          · rw [if_pos z.1]
        have e6 : cl_link A a b up 0 0 6 = A 0 0 6 + (if up = 0 then -1 else 1) := by unfold cl_link; rw [hr_w_self]
        rw [eB, eB'] at hcu
        rw [e6, l4]
        have hcl := md_cnt_le B 64
        rcases hu with u0 | u1
        · have hone : B 15 0 ((8 * a) + b) = 1 := by
            rcases m.2.2.2 ((8 * a) + b) (by omega) with z | z
            · exact absurd (z.trans u0.symm) e1
            · exact z
          rw [if_pos ⟨hq64, by rw [hone]; decide, hlt⟩, if_neg (fun z => z.2.1 u0)] at hcu
          rw [if_pos u0]
          have e9 : md_cnt B 64 = md_cnt (md_lnk B a b up) 64 + 1 := by omega
          rw [e9, ← nI_add, Int32.add_assoc]
          show nI _ + ((1 : Int32) + -1) = _
          rw [show ((1 : Int32) + -1) = 0 by decide, Int32.add_zero]
        · have hzero : B 15 0 ((8 * a) + b) = 0 := by
            rcases m.2.2.2 ((8 * a) + b) (by omega) with z | z
            · exact z
            · exact absurd (z.trans u1.symm) e1
          rw [if_neg (fun z => z.2.1 hzero), if_pos ⟨hq64, by rw [u1]; decide, hlt⟩] at hcu
          rw [if_neg (by rw [u1]; decide)]
          have e9 : md_cnt (md_lnk B a b up) 64 = md_cnt B 64 + 1 := by omega
          rw [e9, ← nI_add]
          rfl
      rcases Nat.lt_or_gt_of_ne hne with z | z
      · exact key ((8 * a) + b) ((8 * b) + a) (Or.inl ⟨rfl, rfl⟩) (by omega) (by omega)
      · exact key ((8 * b) + a) ((8 * a) + b) (Or.inr ⟨rfl, rfl⟩) (by omega) (by omega)
/-! a packet twice, a byte, a length -/
theorem twL_25 (S : hr_S) (k i : Nat) : ∀ n, md_twL S k n 25 0 i = if i < n then S 24 0 ((164 * k) + i) else S 25 0 i
  | 0 => by rw [if_neg (by omega)]; rfl
  | n + 1 => by
    unfold md_twL
    rw [hr_w_at, md_twL_k _ _ (by decide), twL_25 S k i n]
    by_cases h : i = n
    · rw [if_pos ⟨rfl, rfl, h⟩, if_pos (by omega), h]
    · rw [if_neg (fun z => h z.2.2)]
      by_cases h2 : i < n
      · rw [if_pos h2, if_pos (by omega)]
      · rw [if_neg h2, if_neg (by omega)]
theorem twice_sim {A B : hr_S} (h : rl A B) {k : Nat} (hk : k < ai_n A) : rl (ai_launch A (ai_o A k)) (md_twice B k) := by
  have hn : ai_n A < 201 := h.1.1.1.2
  obtain ⟨b1, b2, b3⟩ := h.1.2.2.1 k (by omega)
  have h3 := b3.2
  have hp : ai_o A k < 200 := (h.1.1.2.1 k (by omega)).2
  have hdM : dM (md_tw1 B k) B := by
    refine ⟨fun x h14 h25 => ?_, fun j hj => ?_⟩
    · funext i j; exact md_tw1_k B k h25 h14 i j
    · unfold md_tw1
      rw [md_twL_k _ _ (by decide), hr_w_at, if_neg (fun z => hj z.2.2)]
  have hl : rl A (md_tw1 B k) := rl_draft h h.1.1 (MI_tw1 h.1.2) (dC.rf A) hdM
  obtain ⟨r0, r1, r2, r3⟩ := h.2.2.2.1.2 k hk
  have hq : rQ A (md_tw1 B k) (ai_o A k) (B 21 0 k) (B 22 0 k) (un (B 23 0 k)) := by
    refine ⟨r0, r1, by rw [r2]; exact b3.1, by rw [md_tw1_m]; exact b3.1, fun i hi => ?_⟩
    have e : md_tw1 B k 25 0 i = B 24 0 ((164 * k) + i) := by
      unfold md_tw1
      rw [twL_25, if_pos hi, hr_w_k _ (by decide)]
    rw [e]
    exact r3 i (by rw [r2]; exact hi)
  unfold md_twice
  rw [md_tw1_k _ _ (by decide) (by decide), md_tw1_k _ _ (by decide) (by decide)]
  exact rl_post hl hq b1 b2 (by omega) (by omega) (ai_twne h.1.1 hk)
theorem poke_sim {A B : hr_S} (h : rl A B) {k j : Nat} (hk : k < ai_n A) (hj : j < un (A 6 (ai_o A k) 2)) {v : Int32} (hv : nb v 256) : rl (hr_w A 7 (ai_o A k) (j / 4) (hr_sb (A 7 (ai_o A k) (j / 4)) j v)) (hr_w B 24 0 ((164 * k) + j) v) := by
  obtain ⟨⟨c, m⟩, t, l, ⟨a1, a2⟩, n⟩ := h
  have hn : ai_n A < 201 := c.1.2
  have hA : ∀ x, x ≠ 7 → hr_w A 7 (ai_o A k) (j / 4) (hr_sb (A 7 (ai_o A k) (j / 4)) j v) x = A x := fun x hx => by funext i w; exact hr_w_k _ hx i w
  have hB : ∀ x, x ≠ 24 → hr_w B 24 0 ((164 * k) + j) v x = B x := fun x hx => by funext i w; exact hr_w_k _ hx i w
  have hj164 : j < 164 := by have := (c.2.2.2.1 (ai_o A k) (by have := (c.2.1 k (by omega)).2; unfold ai_o; omega)).2.2.2; omega
  refine ⟨⟨CI_o c (by omega) (by omega) (by omega) (by omega) (by omega), MI_o m (by omega) (by omega) (by omega) (by omega) (by omega) (by omega)⟩, rT_cg (fun x h1 h2 => hA x (by omega)) (fun x h1 h2 => hB x (by omega)) t, rL_cg (hA 1 (by decide)) (by rw [hA 0 (by decide)]) (hB 15 (by decide)) l, ⟨by rw [hA 3 (by decide), hB 14 (by decide)]; exact a1, fun q hq => ?_⟩, rN_cg (by rw [hA 0 (by decide)]) (by rw [hA 0 (by decide)]) (by rw [hA 3 (by decide)]) (by rw [hA 3 (by decide)]) (by rw [hB 14 (by decide)]) (by rw [hB 14 (by decide)]) (by rw [hB 14 (by decide)]) (by rw [hB 14 (by decide)]) n⟩
  have hq : q < ai_n A := by
    have e : ai_n (hr_w A 7 (ai_o A k) (j / 4) (hr_sb (A 7 (ai_o A k) (j / 4)) j v)) = ai_n A := by unfold ai_n; rw [hr_w_k _ (by decide)]
    rw [e] at hq
    exact hq
  have eo : ai_o (hr_w A 7 (ai_o A k) (j / 4) (hr_sb (A 7 (ai_o A k) (j / 4)) j v)) q = ai_o A q := by
    show un (hr_w A 7 (ai_o A k) (j / 4) (hr_sb (A 7 (ai_o A k) (j / 4)) j v) 5 0 q) = un (A 5 0 q)
    rw [hr_w_k _ (by decide)]
  obtain ⟨r0, r1, r2, r3⟩ := a2 q hq
  rw [eo]
  unfold rp
  rw [hA 6 (by decide), hB 21 (by decide), hB 22 (by decide), hB 23 (by decide)]
  refine ⟨r0, r1, r2, fun i hi => ?_⟩
  have hi164 : i < 164 := by have := (c.2.2.2.1 (ai_o A q) (by have := (c.2.1 q (by omega)).2; unfold ai_o; omega)).2.2.2; omega
  rw [by_b4, hr_w_at, hr_w_at]
  by_cases e : q = k
  · subst e
    by_cases ew : i / 4 = j / 4
    · rw [if_pos ⟨rfl, rfl, ew⟩, b4_sb _ (by omega) hv]
      by_cases em : i % 4 = j % 4
      · rw [if_pos em, if_pos ⟨rfl, rfl, by omega⟩]
      · rw [if_neg em, if_neg (by omega), ← ew, ← by_b4]
        exact r3 i hi
    · rw [if_neg (fun z => ew z.2.2), if_neg (by omega), ← by_b4]
      exact r3 i hi
  · have hne : ai_o A q ≠ ai_o A k := fun z => e (c.2.2.1 q k (by omega) (by omega) z)
    rw [if_neg (fun z => hne z.2.1), if_neg (by omega), ← by_b4]
    exact r3 i hi
theorem cut_sim {A B : hr_S} (h : rl A B) {k : Nat} (hk : k < ai_n A) {v : Int32} (hv : nb v 165) (hle : un v ≤ un (A 6 (ai_o A k) 2)) : rl (hr_w A 6 (ai_o A k) 2 v) (hr_w B 23 0 k v) := by
  obtain ⟨⟨c, m⟩, t, l, ⟨a1, a2⟩, n⟩ := h
  have hn : ai_n A < 201 := c.1.2
  have hA : ∀ x, x ≠ 6 → hr_w A 6 (ai_o A k) 2 v x = A x := fun x hx => by funext i w; exact hr_w_k _ hx i w
  have hB : ∀ x, x ≠ 23 → hr_w B 23 0 k v x = B x := fun x hx => by funext i w; exact hr_w_k _ hx i w
  refine ⟨⟨CI_p c ⟨fun z => by omega, fun _ => hv⟩, MI_p m (Or.inr (Or.inr rfl)) ⟨fun z => by omega, fun _ => hv⟩⟩, rT_cg (fun x h1 h2 => hA x (by omega)) (fun x h1 h2 => hB x (by omega)) t, rL_cg (hA 1 (by decide)) (by rw [hA 0 (by decide)]) (hB 15 (by decide)) l, ⟨by rw [hA 3 (by decide), hB 14 (by decide)]; exact a1, fun q hq => ?_⟩, rN_cg (by rw [hA 0 (by decide)]) (by rw [hA 0 (by decide)]) (by rw [hA 3 (by decide)]) (by rw [hA 3 (by decide)]) (by rw [hB 14 (by decide)]) (by rw [hB 14 (by decide)]) (by rw [hB 14 (by decide)]) (by rw [hB 14 (by decide)]) n⟩
  have hq : q < ai_n A := by
    have e : ai_n (hr_w A 6 (ai_o A k) 2 v) = ai_n A := by unfold ai_n; rw [hr_w_k _ (by decide)]
    rw [e] at hq
    exact hq
  have eo : ai_o (hr_w A 6 (ai_o A k) 2 v) q = ai_o A q := by
    show un (hr_w A 6 (ai_o A k) 2 v 5 0 q) = un (A 5 0 q)
    rw [hr_w_k _ (by decide)]
  obtain ⟨r0, r1, r2, r3⟩ := a2 q hq
  rw [eo]
  unfold rp
  rw [hA 7 (by decide), hB 21 (by decide), hB 22 (by decide), hB 24 (by decide)]
  by_cases e : q = k
  · subst e
    rw [hr_w_self, hr_w_self, hr_w_at, if_neg (by omega), hr_w_at, if_neg (by omega)]
    exact ⟨r0, r1, rfl, fun i hi => r3 i (by omega)⟩
  · have hne : ai_o A q ≠ ai_o A k := fun z => e (c.2.2.1 q k (by omega) (by omega) z)
    rw [hr_w_i _ hne, hr_w_i _ hne, hr_w_i _ hne, hr_w_j _ e]
    exact ⟨r0, r1, r2, r3⟩
/-! answers -/
theorem pkt_eq {A B : hr_S} (h : rl A B) {k : Nat} (hk : k < ai_n A) {j : Int32} (hj : j = -3 ∨ j = -2 ∨ j = -1 ∨ nb j (un (A 6 (ai_o A k) 2))) : cl_pkt A (ai_o A k) j = md_pkt B k j := by
  obtain ⟨r0, r1, r2, r3⟩ := h.2.2.2.1.2 k hk
  unfold cl_pkt md_pkt
  by_cases c3 : j = -3
  · rw [if_pos c3, if_pos c3]; exact r0
  · rw [if_neg c3, if_neg c3]
    by_cases c2 : j = -2
    · rw [if_pos c2, if_pos c2]; exact r1
    · rw [if_neg c2, if_neg c2]
      by_cases c1 : j = -1
      · rw [if_pos c1, if_pos c1]; exact r2
      · rw [if_neg c1, if_neg c1]
        have hnb : nb j (un (A 6 (ai_o A k) 2)) := hj.elim (fun z => absurd z c3) (fun z => z.elim (fun z => absurd z c2) (fun z => z.elim (fun z => absurd z c1) id))
        exact r3 _ hnb.2
theorem route_eq {A B : hr_S} (h : rl A B) {a b w : Int32} (ha : nb a 8) (hb : nb b 8) : cl_route A a b w = md_route B (un a) (un b) (un w) := by
  unfold cl_route md_route
  by_cases e : a = b
  · rw [if_pos e, if_pos (show un a = un b by rw [e])]
  · rw [if_neg e, if_neg (fun z => e (un_inj ha hb z))]
    unfold tb_read md_rt1
    rcases h.2.1 (un a) (un b) ha.2 hb.2 with ⟨a9, b16, a13⟩ | ⟨e9, n9, p9, hne, e10, e11, e12, e13, _⟩
    · rw [if_neg (not_not_intro a9), if_pos b16]
    · have hz : ¬ B 16 0 (8 * un a + un b) = 0 := fun z => by
        rw [← e9] at z
        rw [z] at p9
        exact absurd p9 (by decide)
      rw [if_pos (nb_m1 n9 (by decide)), if_neg hz, e9, e10, e11, e12, e13]
theorem sd_eq {A B : hr_S} (h : rl A B) {d : Nat} (hd : d < 8) : ∀ f at9, at9 < 8 → cl_sd A d f at9 = md_sd B d f at9
  | 0, at9, _ => rfl
  | f + 1, at9, hat => by
    unfold cl_sd md_sd
    by_cases e : at9 = d
    · rw [if_pos e, if_pos e]
    · rw [if_neg e, if_neg e]
      rcases h.2.1 at9 d hat hd with ⟨a9, b16, a13⟩ | ⟨e9, n9, p9, hne, e10, _⟩
      · rw [if_neg (fun z => z.1 a9), if_pos (Or.inl b16)]
      · have hnx : nb (A 10 at9 d) 8 := h.1.1.2.2.2.2.1 at9 d hat hd
        have h17 := n9.2
        have hz : ¬ B 16 0 ((8 * at9) + d) = 0 := fun z => by
          rw [← e9] at z
          rw [z] at p9
          exact absurd p9 (by decide)
        by_cases c16 : A 9 at9 d = 16
        · rw [if_neg (fun z => absurd z.2 (by rw [c16]; decide)), if_pos (Or.inr (by rw [← e9]; exact c16))]
        · have hlt : A 9 at9 d < 16 := by
            rw [n9.1]
            refine (nI_ltI (a := un (A 9 at9 d)) (b := 16) (by omega) (by omega)).mpr ?_
            rcases Nat.lt_or_ge (un (A 9 at9 d)) 16 with z | z
            · exact z
            · exfalso; exact c16 (by rw [n9.1, show un (A 9 at9 d) = 16 by omega]; rfl)
          rw [if_pos ⟨nb_m1 n9 (by decide), hlt⟩, if_neg (show ¬ (B 16 0 ((8 * at9) + d) = 0 ∨ B 16 0 ((8 * at9) + d) = 16) from fun z => z.elim hz (fun y => c16 (by rw [e9]; exact y)))]
          have hu := up_iff h hat hnx.2
          rw [hu, ← e10, sd_eq h hd f _ hnx.2]
theorem count_eq {A B : hr_S} (h : rl A B) (w : Nat) : cl_count A w = md_count B w := by
  obtain ⟨_, _, ⟨_, _, _, l4⟩, ⟨a1, _⟩, n1, n2, n3, n4⟩ := h
  unfold cl_count md_count
  rw [a1, n1, n2, n3, n4, l4]
