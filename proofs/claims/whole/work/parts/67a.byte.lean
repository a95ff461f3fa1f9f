/-! BYTES OF WORDS -/
def b4 (x : Int32) (m : Nat) : Int32 := (x.toUInt32 >>> ((nI ((3 - m) * 8)).toUInt32 &&& Int32.toUInt32 31)).toInt32 &&& 255
theorem by_b4 (w : Nat → Int32) (i : Nat) : hr_by w i = b4 (w (i / 4)) (i % 4) := rfl
theorem bt_ge (x : Int32) {i : Nat} (h : 32 ≤ i) : hr_bt x i = false := BitVec.getLsbD_of_ge _ _ h
theorem bt_xor (x y : Int32) (i : Nat) : hr_bt (x ^^^ y) i = (hr_bt x i ^^ hr_bt y i) := by
  unfold hr_bt
  rw [Int32.toBitVec_xor, BitVec.getLsbD_xor]
theorem bt_255 (i : Nat) : hr_bt 255 i = decide (i < 8) := by
  by_cases h : i < 32
  · have : ∀ i : Fin 32, hr_bt 255 i.val = decide (i.val < 8) := by decide
    exact this ⟨i, h⟩
  · rw [bt_ge _ (by omega)]
    exact (decide_eq_false (by omega)).symm
theorem bt_m1 {i : Nat} (h : i < 32) : hr_bt (-1) i = true := by
  have : ∀ i : Fin 32, hr_bt (-1) i.val = true := by decide
  exact this ⟨i, h⟩
theorem bt_sr (x : Int32) (c : Nat) (hc : c < 32) (i : Nat) : hr_bt (x.toUInt32 >>> ((nI c).toUInt32 &&& Int32.toUInt32 31)).toInt32 i = hr_bt x (c + i) := by
  have e : (((nI c).toUInt32 &&& Int32.toUInt32 31).toBitVec % 32).toNat = c := by
    have : ∀ c : Fin 32, (((nI c.val).toUInt32 &&& Int32.toUInt32 31).toBitVec % 32).toNat = c.val := by decide
    exact this ⟨c, hc⟩
  unfold hr_bt
  rw [UInt32.toBitVec_toInt32, UInt32.toBitVec_shiftRight, Int32.toBitVec_toUInt32, BitVec.ushiftRight_eq']
  rw [e, BitVec.getLsbD_ushiftRight]
theorem bt_sl (x : Int32) (c : Nat) (hc : c < 32) (i : Nat) : hr_bt (x <<< (nI c &&& 31)) i = (decide (i < 32) && !decide (i < c) && hr_bt x (i - c)) := by
  have e : ((nI c &&& 31).toBitVec.smod 32).toNat = c := by
    have : ∀ c : Fin 32, ((nI c.val &&& 31).toBitVec.smod 32).toNat = c.val := by decide
    exact this ⟨c, hc⟩
  unfold hr_bt
  rw [Int32.toBitVec_shiftLeft, BitVec.shiftLeft_eq']
  rw [e, BitVec.getLsbD_shiftLeft]
theorem bt_b4 (x : Int32) {m : Nat} (hm : m < 4) (i : Nat) : hr_bt (b4 x m) i = (decide (i < 8) && hr_bt x ((3 - m) * 8 + i)) := by
  unfold b4
  rw [hr_bt_and, bt_sr _ _ (by omega), bt_255, Bool.and_comm]
theorem and255 (y : Int32) : ∃ j, j < 256 ∧ (y &&& 255) = nI j := by
  refine ⟨(y &&& 255).toBitVec.toNat, ?_, ?_⟩
  · rw [Int32.toBitVec_and, BitVec.toNat_and]
    exact Nat.lt_of_le_of_lt Nat.and_le_right (by decide)
  · apply Int32.toBitVec_inj.mp
    apply BitVec.eq_of_toNat_eq
    show _ = (Int32.ofNat _).toBitVec.toNat
    rw [Int32.toBitVec_ofNat']
    simp
theorem b4_nb (x : Int32) (m : Nat) : nb (b4 x m) 256 := by
  obtain ⟨j, hj, e⟩ := and255 (x.toUInt32 >>> ((nI ((3 - m) * 8)).toUInt32 &&& Int32.toUInt32 31)).toInt32
  unfold b4
  rw [e]
  exact nb_nI hj (by decide)
/-- a word is its bytes -/
theorem w_ext {x y : Int32} (h : ∀ m, m < 4 → b4 x m = b4 y m) : x = y := by
  apply hr_bt_ext
  intro i hi
  have h1 := bt_b4 x (show 3 - i / 8 < 4 by omega) (i % 8)
  have h2 := bt_b4 y (show 3 - i / 8 < 4 by omega) (i % 8)
  rw [h _ (by omega), h2] at h1
  rw [decide_eq_true (show i % 8 < 8 by omega), Bool.true_and, Bool.true_and, show (3 - (3 - i / 8)) * 8 + i % 8 = i by omega] at h1
  exact h1.symm
theorem w_iff {x y : Int32} : x = y ↔ b4 x 0 = b4 y 0 ∧ b4 x 1 = b4 y 1 ∧ b4 x 2 = b4 y 2 ∧ b4 x 3 = b4 y 3 := by
  constructor
  · intro h; rw [h]; exact ⟨rfl, rfl, rfl, rfl⟩
  · intro ⟨h0, h1, h2, h3⟩
    apply w_ext
    intro m hm
    rcases (show m = 0 ∨ m = 1 ∨ m = 2 ∨ m = 3 by omega) with rfl | rfl | rfl | rfl <;> assumption
theorem b4_and (x y : Int32) {m : Nat} (hm : m < 4) : b4 (x &&& y) m = (b4 x m &&& b4 y m) := by
  apply hr_bt_ext
  intro i hi
  rw [hr_bt_and, bt_b4 _ hm, bt_b4 _ hm, bt_b4 _ hm, hr_bt_and]
  cases decide (i < 8) <;> simp
theorem b4_255 (x : Int32) {m : Nat} : b4 x m &&& 255 = b4 x m := by
  unfold b4
  apply hr_bt_ext
  intro i hi
  rw [hr_bt_and, hr_bt_and, bt_255]
  cases decide (i < 8) <;> simp
/-- one byte is set -/
theorem b4_sb (x : Int32) {i m : Nat} {v : Int32} (hm : m < 4) (hv : nb v 256) : b4 (hr_sb x i v) m = if m = i % 4 then v else b4 x m := by
  have hv8 : ∀ j, 8 ≤ j → hr_bt v j = false := by
    intro j hj
    by_cases h32 : j < 32
    · have : ∀ n : Fin 256, ∀ j : Fin 32, 8 ≤ j.val → hr_bt (nI n.val) j.val = false := by decide +kernel
      rw [hv.1]
      exact this ⟨un v, hv.2⟩ ⟨j, h32⟩ hj
    · exact bt_ge _ (by omega)
  apply hr_bt_ext
  intro j hj
  rw [bt_b4 _ hm]
  unfold hr_sb
  rw [hr_bt_or, hr_bt_and, bt_xor, bt_sl _ _ (by omega), bt_sl _ _ (by omega), bt_255]
  by_cases h8 : j < 8
  · rw [decide_eq_true h8, Bool.true_and, bt_m1 (by omega)]
    by_cases he : m = i % 4
    · rw [if_pos he, he]
      have a1 : decide ((3 - i % 4) * 8 + j < 32) = true := decide_eq_true (by omega)
      have a2 : decide ((3 - i % 4) * 8 + j < (3 - i % 4) * 8) = false := decide_eq_false (by omega)
      have a3 : (3 - i % 4) * 8 + j - (3 - i % 4) * 8 = j := by omega
      rw [a1, a2, a3, decide_eq_true h8]
      simp
    · rw [if_neg he, bt_b4 _ hm, decide_eq_true h8]
      by_cases hlt : (3 - m) * 8 + j < (3 - i % 4) * 8
      · rw [decide_eq_true hlt]
        simp
      · have a4 : decide ((3 - m) * 8 + j - (3 - i % 4) * 8 < 8) = false := decide_eq_false (by omega)
        rw [a4, hv8 _ (by omega)]
        simp
  · rw [decide_eq_false h8, Bool.false_and]
    by_cases he : m = i % 4
    · rw [if_pos he]
      exact (hv8 _ (by omega)).symm
    · rw [if_neg he, bt_b4 _ hm, decide_eq_false h8, Bool.false_and]
/-! words with a meaning -/
theorem w_hdr1 (x : Int32) : x = 16908288 ↔ b4 x 0 = 1 ∧ b4 x 1 = 2 ∧ b4 x 2 = 0 ∧ b4 x 3 = 0 := w_iff
theorem w_hdr2 (x : Int32) : x = 33685504 ↔ b4 x 0 = 2 ∧ b4 x 1 = 2 ∧ b4 x 2 = 0 ∧ b4 x 3 = 0 := w_iff
theorem w_fam2 (x : Int32) : x = 131072 ↔ b4 x 0 = 0 ∧ b4 x 1 = 2 ∧ b4 x 2 = 0 ∧ b4 x 3 = 0 := w_iff
theorem w_fam0 (x : Int32) : x = 0 ↔ b4 x 0 = 0 ∧ b4 x 1 = 0 ∧ b4 x 2 = 0 ∧ b4 x 3 = 0 := w_iff
theorem w_mask (x : Int32) : x = -256 ↔ b4 x 0 = 255 ∧ b4 x 1 = 255 ∧ b4 x 2 = 255 ∧ b4 x 3 = 0 := w_iff
theorem w_16 (x : Int32) : x = 16 ↔ b4 x 0 = 0 ∧ b4 x 1 = 0 ∧ b4 x 2 = 0 ∧ b4 x 3 = 16 := w_iff
theorem w_any (x : Int32) : (x &&& ((65280 : Int32) ^^^ (-1))) = 167772160 ↔ b4 x 0 = 10 ∧ b4 x 1 = 0 ∧ b4 x 3 = 0 := by
  rw [w_iff, b4_and _ _ (by decide), b4_and _ _ (by decide), b4_and _ _ (by decide), b4_and _ _ (by decide)]
  have e0 : b4 ((65280 : Int32) ^^^ (-1)) 0 = 255 := by decide
  have e1 : b4 ((65280 : Int32) ^^^ (-1)) 1 = 255 := by decide
  have e2 : b4 ((65280 : Int32) ^^^ (-1)) 2 = 0 := by decide
  have e3 : b4 ((65280 : Int32) ^^^ (-1)) 3 = 255 := by decide
  rw [e0, e1, e2, e3, b4_255, b4_255, b4_255, Int32.and_zero]
  constructor
  · intro h; exact ⟨h.1, h.2.1, h.2.2.2⟩
  · intro h; exact ⟨h.1, h.2.1, by decide, h.2.2⟩
theorem w_dst (x : Int32) : (x &&& ((1792 : Int32) ^^^ (-1))) = 167772160 ↔ b4 x 0 = 10 ∧ b4 x 1 = 0 ∧ b4 x 3 = 0 ∧ (0 ≤ b4 x 2 ∧ b4 x 2 ≤ 7) := by
  rw [w_iff, b4_and _ _ (by decide), b4_and _ _ (by decide), b4_and _ _ (by decide), b4_and _ _ (by decide)]
  have e0 : b4 ((1792 : Int32) ^^^ (-1)) 0 = 255 := by decide
  have e1 : b4 ((1792 : Int32) ^^^ (-1)) 1 = 255 := by decide
  have e2 : b4 ((1792 : Int32) ^^^ (-1)) 2 = 248 := by decide
  have e3 : b4 ((1792 : Int32) ^^^ (-1)) 3 = 255 := by decide
  rw [e0, e1, e2, e3, b4_255, b4_255, b4_255]
  have hz : b4 (167772160 : Int32) 2 = 0 := by decide
  have key : ∀ n : Fin 256, (nI n.val &&& 248 = 0) ↔ (0 ≤ nI n.val ∧ nI n.val ≤ 7) := by decide +kernel
  have k2 := key ⟨un (b4 x 2), (b4_nb x 2).2⟩
  have k3 : nI (un (b4 x 2)) = b4 x 2 := (b4_nb x 2).1.symm
  simp only [k3] at k2
  rw [hz, k2]
  constructor
  · intro h; exact ⟨h.1, h.2.1, h.2.2.2, h.2.2.1⟩
  · intro h; exact ⟨h.1, h.2.1, h.2.2.2, h.2.2.1⟩
theorem w_met (x : Int32) : (1 ≤ x ∧ x ≤ 16) ↔ b4 x 0 = 0 ∧ b4 x 1 = 0 ∧ b4 x 2 = 0 ∧ (1 ≤ b4 x 3 ∧ b4 x 3 ≤ 16) := by
  have key : ∀ n : Fin 256, b4 (nI n.val) 0 = 0 ∧ b4 (nI n.val) 1 = 0 ∧ b4 (nI n.val) 2 = 0 ∧ b4 (nI n.val) 3 = nI n.val := by decide +kernel
  constructor
  · intro h
    have hx : nb x 17 := nb_le (N := 16) (fun z => absurd (Int32.lt_of_le_of_lt h.1 z) (by decide)) h.2 rfl (by decide)
    obtain ⟨k0, k1, k2, k3⟩ := key ⟨un x, by have := hx.2; omega⟩
    rw [← hx.1] at k0 k1 k2 k3
    rw [k0, k1, k2, k3]
    exact ⟨rfl, rfl, rfl, h⟩
  · intro ⟨h0, h1, h2, h3⟩
    obtain ⟨k0, k1, k2, k3⟩ := key ⟨un (b4 x 3), (b4_nb x 3).2⟩
    have k4 : nI (un (b4 x 3)) = b4 x 3 := (b4_nb x 3).1.symm
    simp only [k4] at k0 k1 k2 k3
    have e : x = b4 x 3 := w_iff.mpr ⟨h0.trans k0.symm, h1.trans k1.symm, h2.trans k2.symm, k3.symm⟩
    rw [e]
    exact h3
theorem w_met_eq {x : Int32} (h : 1 ≤ x ∧ x ≤ 16) : b4 x 3 = x := by
  obtain ⟨h0, h1, h2, h3⟩ := (w_met x).mp h
  have key : ∀ n : Fin 256, b4 (nI n.val) 0 = 0 ∧ b4 (nI n.val) 1 = 0 ∧ b4 (nI n.val) 2 = 0 ∧ b4 (nI n.val) 3 = nI n.val := by decide +kernel
  obtain ⟨k0, k1, k2, k3⟩ := key ⟨un (b4 x 3), (b4_nb x 3).2⟩
  have k4 : nI (un (b4 x 3)) = b4 x 3 := (b4_nb x 3).1.symm
  simp only [k4] at k0 k1 k2 k3
  exact (w_iff.mpr ⟨h0.trans k0.symm, h1.trans k1.symm, h2.trans k2.symm, k3.symm⟩ : x = b4 x 3).symm
theorem w_dst_eq {x : Int32} (h : (x &&& ((1792 : Int32) ^^^ (-1))) = 167772160) : (x >>> ((8 : Int32) &&& 31)) &&& 255 = b4 x 2 := by
  obtain ⟨d, hd, e⟩ := hr_and1792 x
  have h1 := hr_dst_or x h
  rw [e] at h1
  have h2 : ∀ d : Fin 8, (((167772160 : Int32) ||| nI (d.val * 256)) >>> ((8 : Int32) &&& 31)) &&& 255 = b4 ((167772160 : Int32) ||| nI (d.val * 256)) 2 := by decide
  rw [h1]
  exact h2 ⟨d, hd⟩
/-! what an entry's words are -/
theorem e_w0 : ∀ f : Int32, f = 0 ∨ f = 2 → b4 (f <<< ((16 : Int32) &&& 31)) 0 = 0 ∧ b4 (f <<< ((16 : Int32) &&& 31)) 1 = f ∧ b4 (f <<< ((16 : Int32) &&& 31)) 2 = 0 ∧ b4 (f <<< ((16 : Int32) &&& 31)) 3 = 0 := by
  intro f h
  rcases h with rfl | rfl <;> decide
theorem e_w1 {d : Nat} (h : d < 8) : b4 (167772160 ||| (nI d <<< ((8 : Int32) &&& 31))) 0 = 10 ∧ b4 (167772160 ||| (nI d <<< ((8 : Int32) &&& 31))) 1 = 0 ∧ b4 (167772160 ||| (nI d <<< ((8 : Int32) &&& 31))) 2 = nI d ∧ b4 (167772160 ||| (nI d <<< ((8 : Int32) &&& 31))) 3 = 0 := by
  have : ∀ d : Fin 8, b4 (167772160 ||| (nI d.val <<< ((8 : Int32) &&& 31))) 0 = 10 ∧ b4 (167772160 ||| (nI d.val <<< ((8 : Int32) &&& 31))) 1 = 0 ∧ b4 (167772160 ||| (nI d.val <<< ((8 : Int32) &&& 31))) 2 = nI d.val ∧ b4 (167772160 ||| (nI d.val <<< ((8 : Int32) &&& 31))) 3 = 0 := by decide
  exact this ⟨d, h⟩
theorem e_w4 {t : Int32} (h : nb t 17) : b4 t 0 = 0 ∧ b4 t 1 = 0 ∧ b4 t 2 = 0 ∧ b4 t 3 = t := by
  have key : ∀ n : Fin 17, b4 (nI n.val) 0 = 0 ∧ b4 (nI n.val) 1 = 0 ∧ b4 (nI n.val) 2 = 0 ∧ b4 (nI n.val) 3 = nI n.val := by decide
  have := key ⟨un t, h.2⟩
  rw [← h.1] at this
  exact this
