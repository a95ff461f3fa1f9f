/-! EACH CALL: class and model answer alike, and stay alike -/
theorem pu_x {S : hr_S} (hR : hr_R S) {k r : Int32} {u2 : hr_S} {P : Prop} (hu : u2 = md_r S k) (hr : r = k) (hk : ¬ k = 0) : hr_R u2 ∧ u2 14 0 0 = r ∧ (r = 0 → P) := by
  subst hu
  subst hr
  exact ⟨(R_r hR _).1, (R_r hR _).2, fun z => absurd z hk⟩
theorem pu_n {S S1 u2 : hr_S} {P : Prop} {r : Int32} (hr : r = 0) (hC : eqM S1 S) (hM : fM u2 (md_0 S1)) (h : rl S1 u2) (hp : P) : hr_R u2 ∧ u2 14 0 0 = r ∧ (r = 0 → P) := by
  subst hr
  exact ⟨(R_ok hC hM h).1, (R_ok hC hM h).2, fun _ => hp⟩
theorem pu_in {S S1 : hr_S} (hR : hr_R S) (hC : eqM S1 S) : rl S (md_0 S1) := rl_0 (hr_R_in hC hR)
theorem fM_0 (S : hr_S) : fM S S := fM.rf S
theorem lo_iff {v w : Int32} : (¬ v < 0 ∧ v ≤ w) ↔ (0 ≤ v ∧ v ≤ w) := by rw [Int32.not_lt]
theorem lo1_iff {v : Int32} : (¬ v < 1 ∧ v ≤ 255) ↔ (1 ≤ v ∧ v ≤ 255) := by rw [Int32.not_lt]
theorem pm_link {S : hr_S} {o : Int64} (hR : hr_R S) (a b up : Int32) (hu : up = 0 ∨ up = 1) {r : Int32} {z : hr_S × Int64} (h1 : (hl_Q (fun r u => (r = (if cl_lv S (un a) (un b) = up then 0 else 1) ∧ u = (if cl_lv S (un a) (un b) = up then S else cl_link S (un a) (un b) up)) ∧ nb a 8 ∧ nb b 8 ∧ ¬ a = b) (fun X => (X = "java/lang/IndexOutOfBoundsException" ∧ ¬ (nb a 8 ∧ nb b 8)) ∨ (X = "java/lang/IllegalArgumentException" ∧ (nb a 8 ∧ nb b 8) ∧ a = b)) hl_k hl_z S o) r z) : hr_MI z.1 := by
  rcases h1 with ⟨-, v9, ⟨⟨-, hz⟩, -⟩, -⟩ | ⟨X, -, -, hz⟩
  · exact MI_cg (by rw [hz]; split; exact eqM.rf S; exact fC_link _ _ _ _) hR.1.2
  · rw [hz]; exact hR.1.2
theorem pm_sees {S : hr_S} {o : Int64} (hR : hr_R S) (a b : Int32) {r : Int32} {z : hr_S × Int64} (h1 : (hl_Q (fun r u => (r = nI (tb_lose S (un a) (nI (un b)) 8).2 ∧ u = (tb_lose S (un a) (nI (un b)) 8).1) ∧ (nb a 8 ∧ nb b 8 ∧ ¬ a = b) ∧ S 1 0 (un a * 8 + un b) = 0) (fun X => ((X = "java/lang/IndexOutOfBoundsException" ∧ ¬ (nb a 8 ∧ nb b 8)) ∨ (X = "java/lang/IllegalArgumentException" ∧ (nb a 8 ∧ nb b 8) ∧ a = b)) ∨ (X = "java/lang/IllegalStateException" ∧ (nb a 8 ∧ nb b 8 ∧ ¬ a = b) ∧ ¬ S 1 0 (un a * 8 + un b) = 0)) hl_k (fun v => v.toInt64) S o) r z) : hr_MI z.1 := by
  rcases h1 with ⟨-, v9, ⟨⟨-, hz⟩, -⟩, -⟩ | ⟨X, -, -, hz⟩
  · exact MI_cg (by rw [hz]; exact fC_lose _ _ _ _) hR.1.2
  · rw [hz]; exact hR.1.2
theorem pm_restart {S : hr_S} {o : Int64} (hR : hr_R S) (a : Int32) {r : Int32} {z : hr_S × Int64} (h1 : (hl_Q (fun r u => (r = (cl_rsL (tb_fall S (un a) 8) (un a) 8) 3 0 2 ∧ u = (cl_rsL (tb_fall S (un a) 8) (un a) 8)) ∧ nb a 8) (fun X => X = "java/lang/IndexOutOfBoundsException" ∧ ¬ nb a 8) hl_k (fun v => v.toInt64) S o) r z) : hr_MI z.1 := by
  rcases h1 with ⟨-, v9, ⟨⟨-, hz⟩, -⟩, -⟩ | ⟨X, -, -, hz⟩
  · exact MI_cg (by rw [hz]; exact (fC_rsL _ _ _).tr (fC_fall _ _ _)) hR.1.2
  · rw [hz]; exact hR.1.2
theorem pm_ask {S : hr_S} {o : Int64} (hR : hr_R S) (a b ds : Int32) {r : Int32} {z : hr_S × Int64} (h1 : (hl_Q (fun r u => (r = (ai_launch (cl_askL S (un a) (un b) ds 8) 200) 3 0 2 ∧ u = (ai_launch (cl_askL S (un a) (un b) ds 8) 200)) ∧ (nb a 8 ∧ nb b 8 ∧ ¬ a = b) ∧ (¬ ds < 1 ∧ ds ≤ 255) ∧ ¬ S 1 0 (un a * 8 + un b) = 0) (fun X => ((X = "java/lang/IndexOutOfBoundsException" ∧ ¬ (nb a 8 ∧ nb b 8)) ∨ (X = "java/lang/IllegalArgumentException" ∧ (nb a 8 ∧ nb b 8) ∧ a = b)) ∨ (X = "java/lang/IllegalArgumentException" ∧ (nb a 8 ∧ nb b 8 ∧ ¬ a = b) ∧ ¬ (¬ ds < 1 ∧ ds ≤ 255)) ∨ (X = "java/lang/IllegalStateException" ∧ (nb a 8 ∧ nb b 8 ∧ ¬ a = b) ∧ (¬ ds < 1 ∧ ds ≤ 255) ∧ S 1 0 (un a * 8 + un b) = 0)) hl_k (fun v => v.toInt64) S o) r z) : hr_MI z.1 := by
  rcases h1 with ⟨-, v9, ⟨⟨-, hz⟩, -⟩, -⟩ | ⟨X, -, -, hz⟩
  · exact MI_cg (by rw [hz]; exact (fC_launch _ _).tr (fC_askL _ _ _ _ _)) hR.1.2
  · rw [hz]; exact hR.1.2
theorem pm_tick {S : hr_S} {o : Int64} (hR : hr_R S) (n9 al : Int32) {r : Int32} {z : hr_S × Int64} (h1 : (hl_Q (fun r u => (r = (cl_tick S al (un n9)) 3 0 2 ∧ u = (cl_tick S al (un n9))) ∧ nb n9 1001) (fun X => X = "java/lang/IllegalArgumentException" ∧ ¬ nb n9 1001) hl_k1 (fun v => v.toInt64) S o) r z) : hr_MI z.1 := by
  rcases h1 with ⟨-, v9, ⟨⟨-, hz⟩, -⟩, -⟩ | ⟨X, -, -, hz⟩
  · exact MI_cg (by rw [hz]; exact fC_tick _ _ _) hR.1.2
  · rw [hz]; exact hR.1.2
theorem pm_deliver {S : hr_S} {o : Int64} (hR : hr_R S) (k : Int32) {r : Int32} {z : hr_S × Int64} (h1 : (hl_Q (fun r u => (r = (if ¬ (cl_take S (un k)) 1 0 (un ((cl_take S (un k)) 6 201 0) * 8 + un ((cl_take S (un k)) 6 201 1)) = 0 then 1 else 0) ∧ u = cl_bring S (un k)) ∧ nb k (ai_n S)) (fun X => X = "java/lang/IndexOutOfBoundsException" ∧ ¬ nb k (ai_n S)) hl_k hl_z S o) r z) : hr_MI z.1 := by
  rcases h1 with ⟨-, v9, ⟨⟨-, hz⟩, -⟩, -⟩ | ⟨X, -, -, hz⟩
  · exact MI_cg (by rw [hz]; exact fC_bring _ _) hR.1.2
  · rw [hz]; exact hR.1.2
theorem pm_lose {S : hr_S} {o : Int64} (hR : hr_R S) (k : Int32) {r : Int32} {z : hr_S × Int64} (h1 : (hl_Q (fun r u => (r = (ai_remove S (un k)) 3 0 2 ∧ u = ai_remove S (un k)) ∧ nb k (ai_n S)) (fun X => X = "java/lang/IndexOutOfBoundsException" ∧ ¬ nb k (ai_n S)) hl_k (fun v => v.toInt64) S o) r z) : hr_MI z.1 := by
  rcases h1 with ⟨-, v9, ⟨⟨-, hz⟩, -⟩, -⟩ | ⟨X, -, -, hz⟩
  · exact MI_cg (by rw [hz]; exact fC_remove _ _) hR.1.2
  · rw [hz]; exact hR.1.2
theorem pm_twice {S : hr_S} {o : Int64} (hR : hr_R S) (k : Int32) {r : Int32} {z : hr_S × Int64} (h1 : (hl_Q (fun r u => (r = (ai_launch S (ai_o S (un k))) 3 0 2 ∧ u = ai_launch S (ai_o S (un k))) ∧ nb k (ai_n S)) (fun X => X = "java/lang/IndexOutOfBoundsException" ∧ ¬ nb k (ai_n S)) hl_k (fun v => v.toInt64) S o) r z) : hr_MI z.1 := by
  rcases h1 with ⟨-, v9, ⟨⟨-, hz⟩, -⟩, -⟩ | ⟨X, -, -, hz⟩
  · exact MI_cg (by rw [hz]; exact fC_launch _ _) hR.1.2
  · rw [hz]; exact hR.1.2
theorem pm_poke {S : hr_S} {o : Int64} (hR : hr_R S) (k j v : Int32) {r : Int32} {z : hr_S × Int64} (h1 : (hl_Q (fun r u => (r = hr_by (S 7 (un (S 5 0 (un k)))) (un j) ∧ u = hr_w S 7 (un (S 5 0 (un k))) (un j / 4) (hr_sb (S 7 (un (S 5 0 (un k))) (un j / 4)) (un j) v)) ∧ nb k (ai_n S) ∧ nb j (un (S 6 (un (S 5 0 (un k))) 2)) ∧ (¬ v < 0 ∧ v ≤ 255)) (fun X => (X = "java/lang/IndexOutOfBoundsException" ∧ ¬ nb k (ai_n S)) ∨ (X = "java/lang/IndexOutOfBoundsException" ∧ nb k (ai_n S) ∧ ¬ nb j (un (S 6 (un (S 5 0 (un k))) 2))) ∨ (X = "java/lang/IllegalArgumentException" ∧ nb k (ai_n S) ∧ nb j (un (S 6 (un (S 5 0 (un k))) 2)) ∧ ¬ (¬ v < 0 ∧ v ≤ 255))) hl_k (fun v => v.toInt64) S o) r z) : hr_MI z.1 := by
  rcases h1 with ⟨-, v9, ⟨⟨-, hz⟩, -⟩, -⟩ | ⟨X, -, -, hz⟩
  · exact MI_cg (by rw [hz]; exact eqM.w (eqM.rf S) (by decide)) hR.1.2
  · rw [hz]; exact hR.1.2
theorem pm_cut {S : hr_S} {o : Int64} (hR : hr_R S) (k v : Int32) {r : Int32} {z : hr_S × Int64} (h1 : (hl_Qv (fun u => u = hr_w S 6 (un (S 5 0 (un k))) 2 v ∧ nb k (ai_n S) ∧ (¬ v < 0 ∧ v ≤ S 6 (un (S 5 0 (un k))) 2)) (fun X => (X = "java/lang/IndexOutOfBoundsException" ∧ ¬ nb k (ai_n S)) ∨ (X = "java/lang/IllegalArgumentException" ∧ nb k (ai_n S) ∧ ¬ (¬ v < 0 ∧ v ≤ S 6 (un (S 5 0 (un k))) 2))) hl_k S o) r z) : hr_MI z.1 := by
  rcases h1 with ⟨-, ⟨hz, -⟩, -⟩ | ⟨X, -, -, hz⟩
  · exact MI_cg (by rw [hz]; exact eqM.w (eqM.rf S) (by decide)) hR.1.2
  · rw [hz]; exact hR.1.2
theorem pm_packet {S : hr_S} {o : Int64} (hR : hr_R S) (k j : Int32) {r : Int32} {z : hr_S × Int64} (h1 : (hl_Q (fun r u => (r = cl_pkt S (un (S 5 0 (un k))) j ∧ u = S) ∧ nb k (ai_n S) ∧ (¬ j = -3 → ¬ j = -2 → ¬ j = -1 → nb j (un (S 6 (un (S 5 0 (un k))) 2)))) (fun X => (X = "java/lang/IndexOutOfBoundsException" ∧ ¬ nb k (ai_n S)) ∨ (X = "java/lang/IndexOutOfBoundsException" ∧ nb k (ai_n S) ∧ ¬ j = -3 ∧ ¬ j = -2 ∧ ¬ j = -1 ∧ ¬ nb j (un (S 6 (un (S 5 0 (un k))) 2)))) hl_k (fun v => v.toInt64) S o) r z) : hr_MI z.1 := by
  rcases h1 with ⟨-, v9, ⟨⟨-, hz⟩, -⟩, -⟩ | ⟨X, -, -, hz⟩
  · exact MI_cg (by rw [hz]; exact eqM.rf S) hR.1.2
  · rw [hz]; exact hR.1.2
theorem pm_route {S : hr_S} {o : Int64} (hR : hr_R S) (a b w9 : Int32) {r : Int32} {z : hr_S × Int64} (h1 : (hl_Q (fun r u => (r = cl_route S a b w9 ∧ u = S) ∧ nb a 8 ∧ nb b 8 ∧ nb w9 5) (fun X => X = "java/lang/IndexOutOfBoundsException" ∧ ¬ (nb a 8 ∧ nb b 8 ∧ nb w9 5)) hl_k (fun v => v.toInt64) S o) r z) : hr_MI z.1 := by
  rcases h1 with ⟨-, v9, ⟨⟨-, hz⟩, -⟩, -⟩ | ⟨X, -, -, hz⟩
  · exact MI_cg (by rw [hz]; exact eqM.rf S) hR.1.2
  · rw [hz]; exact hR.1.2
theorem pm_send {S : hr_S} {o : Int64} (hR : hr_R S) (a b : Int32) {r : Int32} {z : hr_S × Int64} (h1 : (hl_Q (fun r u => (r = cl_sd S (un b) 16 (un a) ∧ u = S) ∧ nb a 8 ∧ nb b 8) (fun X => X = "java/lang/IndexOutOfBoundsException" ∧ ¬ (nb a 8 ∧ nb b 8)) hl_k (fun v => v.toInt64) S o) r z) : hr_MI z.1 := by
  rcases h1 with ⟨-, v9, ⟨⟨-, hz⟩, -⟩, -⟩ | ⟨X, -, -, hz⟩
  · exact MI_cg (by rw [hz]; exact eqM.rf S) hR.1.2
  · rw [hz]; exact hR.1.2
theorem pm_count {S : hr_S} {o : Int64} (hR : hr_R S) (w9 : Int32) {r : Int32} {z : hr_S × Int64} (h1 : (hl_Q (fun r u => (r = cl_count S (un w9) ∧ u = S) ∧ nb w9 6) (fun X => X = "java/lang/IndexOutOfBoundsException" ∧ ¬ nb w9 6) hl_k (fun v => v.toInt64) S o) r z) : hr_MI z.1 := by
  rcases h1 with ⟨-, v9, ⟨⟨-, hz⟩, -⟩, -⟩ | ⟨X, -, -, hz⟩
  · exact MI_cg (by rw [hz]; exact eqM.rf S) hR.1.2
  · rw [hz]; exact hR.1.2
theorem pu_link {S : hr_S} {o : Int64} (hR : hr_R S) (a b up : Int32) (hu : up = 0 ∨ up = 1) {r : Int32} {z : hr_S × Int64} (h1 : (hl_Q (fun r u => (r = (if cl_lv S (un a) (un b) = up then 0 else 1) ∧ u = (if cl_lv S (un a) (un b) = up then S else cl_link S (un a) (un b) up)) ∧ nb a 8 ∧ nb b 8 ∧ ¬ a = b) (fun X => (X = "java/lang/IndexOutOfBoundsException" ∧ ¬ (nb a 8 ∧ nb b 8)) ∨ (X = "java/lang/IllegalArgumentException" ∧ (nb a 8 ∧ nb b 8) ∧ a = b)) hl_k hl_z S o) r z) {r2 : Int32} {u2 : hr_S} (h2 : (fun r u => (¬ (nb a 8 ∧ nb b 8) ∧ u = md_r z.1 1) ∨ ((nb a 8 ∧ nb b 8) ∧ a = b ∧ u = md_r z.1 2) ∨ ((nb a 8 ∧ nb b 8 ∧ ¬ a = b) ∧ r = (if md_0 z.1 15 0 ((8 * un a) + un b) = up then 0 else 1) ∧ u = md_lnk (md_0 z.1) (un a) (un b) up)) r2 u2) : hr_R u2 ∧ u2 14 0 0 = r ∧ (r = 0 → z.2 = hl_z r2) := by
  rcases h1 with ⟨hr0, v9, ⟨⟨hv, hz⟩, fA, fB, fN⟩, ho⟩ | ⟨X, hx, hrk, hz⟩
  · have hC : eqM z.1 S := by rw [hz]; split; exact eqM.rf S; exact fC_link _ _ _ _
    have hl := pu_in hR hC
    have el := lv_eq hl fA.2 fB.2
    rcases h2 with ⟨q, -⟩ | ⟨-, q, -⟩ | ⟨-, hr2, hu2⟩
    · exact absurd ⟨fA, fB⟩ q
    · exact absurd q fN
    · refine pu_n hr0 hC (by rw [hu2]; exact fD_lnk _ _ _ _) (by rw [hu2, hz]; exact link_sim (by rw [← hz]; exact hl) fA.2 fB.2 (fun e => fN (un_inj fA fB e)) hu) ?_
      rw [ho, hv, hr2, el]
  · subst hz
    rcases hx with ⟨rfl, h⟩ | ⟨rfl, h, he⟩
    · rcases h2 with ⟨-, hu2⟩ | ⟨q, -⟩ | ⟨q, -⟩
      · exact pu_x hR hu2 hrk (by decide)
      · exact absurd q h
      · exact absurd ⟨q.1, q.2.1⟩ h
    · rcases h2 with ⟨q, -⟩ | ⟨-, -, hu2⟩ | ⟨q, -⟩
      · exact absurd h q
      · exact pu_x hR hu2 hrk (by decide)
      · exact absurd he q.2.2
theorem pu_sees {S : hr_S} {o : Int64} (hR : hr_R S) (a b : Int32) {r : Int32} {z : hr_S × Int64} (h1 : (hl_Q (fun r u => (r = nI (tb_lose S (un a) (nI (un b)) 8).2 ∧ u = (tb_lose S (un a) (nI (un b)) 8).1) ∧ (nb a 8 ∧ nb b 8 ∧ ¬ a = b) ∧ S 1 0 (un a * 8 + un b) = 0) (fun X => ((X = "java/lang/IndexOutOfBoundsException" ∧ ¬ (nb a 8 ∧ nb b 8)) ∨ (X = "java/lang/IllegalArgumentException" ∧ (nb a 8 ∧ nb b 8) ∧ a = b)) ∨ (X = "java/lang/IllegalStateException" ∧ (nb a 8 ∧ nb b 8 ∧ ¬ a = b) ∧ ¬ S 1 0 (un a * 8 + un b) = 0)) hl_k (fun v => v.toInt64) S o) r z) {r2 : Int32} {u2 : hr_S} (h2 : (fun r u => (¬ (nb a 8 ∧ nb b 8) ∧ u = md_r z.1 1) ∨ ((nb a 8 ∧ nb b 8) ∧ a = b ∧ u = md_r z.1 2) ∨ ((nb a 8 ∧ nb b 8 ∧ ¬ a = b) ∧ ¬ md_0 z.1 15 0 ((8 * un a) + un b) = 0 ∧ u = md_r z.1 3) ∨ ((nb a 8 ∧ nb b 8 ∧ ¬ a = b) ∧ md_0 z.1 15 0 ((8 * un a) + un b) = 0 ∧ r = nI (md_seL (md_0 z.1) (un a) (nI (un b)) 8).2 ∧ u = (md_seL (md_0 z.1) (un a) (nI (un b)) 8).1)) r2 u2) : hr_R u2 ∧ u2 14 0 0 = r ∧ (r = 0 → z.2 = r2.toInt64) := by
  rcases h1 with ⟨hr0, v9, ⟨⟨hv, hz⟩, ⟨fA, fB, fN⟩, fU⟩, ho⟩ | ⟨X, hx, hrk, hz⟩
  · have hC : eqM z.1 S := by rw [hz]; exact fC_lose _ _ _ _
    have hl := pu_in hR hC
    have eu := up_iff hl fA.2 fB.2
    rcases h2 with ⟨q, -⟩ | ⟨-, q, -⟩ | ⟨-, q, -⟩ | ⟨-, -, hr2, hu2⟩
    · exact absurd ⟨fA, fB⟩ q
    · exact absurd q fN
    · exact absurd (by rw [← eu]; exact fU) q
    · have hs := rl_lose hl fA.2 (nI (un b)) 8 (Nat.le_refl 8)
      refine pu_n hr0 hC (by rw [hu2]; exact fD_seL _ _ _ _) (by rw [hu2, hz]; rw [hz] at hs; exact hs.1) ?_
      rw [ho, hv, hr2, hs.2]
  · subst hz
    have hl := pu_in hR (eqM.rf S)
    rcases hx with (⟨rfl, h⟩ | ⟨rfl, h, he⟩) | ⟨rfl, h, hup⟩
    · rcases h2 with ⟨-, hu2⟩ | ⟨q, -⟩ | ⟨q, -⟩ | ⟨q, -⟩
      · exact pu_x hR hu2 hrk (by decide)
      · exact absurd q h
      · exact absurd ⟨q.1, q.2.1⟩ h
      · exact absurd ⟨q.1, q.2.1⟩ h
    · rcases h2 with ⟨q, -⟩ | ⟨-, -, hu2⟩ | ⟨q, -⟩ | ⟨q, -⟩
      · exact absurd h q
      · exact pu_x hR hu2 hrk (by decide)
      · exact absurd he q.2.2
      · exact absurd he q.2.2
    · have eu := up_iff hl h.1.2 h.2.1.2
      rcases h2 with ⟨q, -⟩ | ⟨-, q, -⟩ | ⟨-, -, hu2⟩ | ⟨-, q, -⟩
      · exact absurd ⟨h.1, h.2.1⟩ q
      · exact absurd q h.2.2
      · exact pu_x hR hu2 hrk (by decide)
      · exact absurd (by rw [eu]; exact q) hup
theorem pu_restart {S : hr_S} {o : Int64} (hR : hr_R S) (a : Int32) {r : Int32} {z : hr_S × Int64} (h1 : (hl_Q (fun r u => (r = (cl_rsL (tb_fall S (un a) 8) (un a) 8) 3 0 2 ∧ u = (cl_rsL (tb_fall S (un a) 8) (un a) 8)) ∧ nb a 8) (fun X => X = "java/lang/IndexOutOfBoundsException" ∧ ¬ nb a 8) hl_k (fun v => v.toInt64) S o) r z) {r2 : Int32} {u2 : hr_S} (h2 : (fun r u => (¬ nb a 8 ∧ u = md_r z.1 1) ∨ (nb a 8 ∧ r = (md_rsL (md_rsC (md_0 z.1) (un a) 8) (un a) 8) 14 0 11 ∧ u = md_rsL (md_rsC (md_0 z.1) (un a) 8) (un a) 8)) r2 u2) : hr_R u2 ∧ u2 14 0 0 = r ∧ (r = 0 → z.2 = r2.toInt64) := by
  rcases h1 with ⟨hr0, v9, ⟨⟨hv, hz⟩, fA⟩, ho⟩ | ⟨X, hx, hrk, hz⟩
  · have hC : eqM z.1 S := by rw [hz]; exact (fC_rsL _ _ _).tr (fC_fall _ _ _)
    have hl := pu_in hR hC
    rcases h2 with ⟨q, -⟩ | ⟨-, hr2, hu2⟩
    · exact absurd fA q
    · have hs := rsL_sim (rl_fall hl fA.2 8 (Nat.le_refl 8)) fA.2 8 (Nat.le_refl 8)
      refine pu_n hr0 hC (by rw [hu2]; exact (fD_rsL _ _ _).tr (fD_rsC _ _ _)) (by rw [hu2, hz]; rw [hz] at hs; exact hs) ?_
      rw [ho, hv, hr2, hs.2.2.2.1.1]
  · subst hz
    obtain ⟨rfl, h⟩ := hx
    rcases h2 with ⟨-, hu2⟩ | ⟨q, -⟩
    · exact pu_x hR hu2 hrk (by decide)
    · exact absurd q h
theorem pu_ask {S : hr_S} {o : Int64} (hR : hr_R S) (a b ds : Int32) {r : Int32} {z : hr_S × Int64} (h1 : (hl_Q (fun r u => (r = (ai_launch (cl_askL S (un a) (un b) ds 8) 200) 3 0 2 ∧ u = (ai_launch (cl_askL S (un a) (un b) ds 8) 200)) ∧ (nb a 8 ∧ nb b 8 ∧ ¬ a = b) ∧ (¬ ds < 1 ∧ ds ≤ 255) ∧ ¬ S 1 0 (un a * 8 + un b) = 0) (fun X => ((X = "java/lang/IndexOutOfBoundsException" ∧ ¬ (nb a 8 ∧ nb b 8)) ∨ (X = "java/lang/IllegalArgumentException" ∧ (nb a 8 ∧ nb b 8) ∧ a = b)) ∨ (X = "java/lang/IllegalArgumentException" ∧ (nb a 8 ∧ nb b 8 ∧ ¬ a = b) ∧ ¬ (¬ ds < 1 ∧ ds ≤ 255)) ∨ (X = "java/lang/IllegalStateException" ∧ (nb a 8 ∧ nb b 8 ∧ ¬ a = b) ∧ (¬ ds < 1 ∧ ds ≤ 255) ∧ S 1 0 (un a * 8 + un b) = 0)) hl_k (fun v => v.toInt64) S o) r z) {r2 : Int32} {u2 : hr_S} (h2 : (fun r u => (¬ (nb a 8 ∧ nb b 8) ∧ u = md_r z.1 1) ∨ ((nb a 8 ∧ nb b 8) ∧ (a = b ∨ ¬ (1 ≤ ds ∧ ds ≤ 255)) ∧ u = md_r z.1 2) ∨ ((nb a 8 ∧ nb b 8 ∧ ¬ a = b) ∧ (1 ≤ ds ∧ ds ≤ 255) ∧ md_0 z.1 15 0 ((8 * un a) + un b) = 0 ∧ u = md_r z.1 3) ∨ ((nb a 8 ∧ nb b 8 ∧ ¬ a = b) ∧ (1 ≤ ds ∧ ds ≤ 255) ∧ ¬ md_0 z.1 15 0 ((8 * un a) + un b) = 0 ∧ r = (md_post (md_asL (md_0 z.1) ds 8) (nI (un a)) (nI (un b))) 14 0 11 ∧ u = md_post (md_asL (md_0 z.1) ds 8) (nI (un a)) (nI (un b)))) r2 u2) : hr_R u2 ∧ u2 14 0 0 = r ∧ (r = 0 → z.2 = r2.toInt64) := by
  rcases h1 with ⟨hr0, v9, ⟨⟨hv, hz⟩, ⟨fA, fB, fN⟩, fD, fU⟩, ho⟩ | ⟨X, hx, hrk, hz⟩
  · have hC : eqM z.1 S := by rw [hz]; exact (fC_launch _ _).tr (fC_askL _ _ _ _ _)
    have hl := pu_in hR hC
    have eu := up_iff hl fA.2 fB.2
    rcases h2 with ⟨q, -⟩ | ⟨-, q, -⟩ | ⟨-, -, q, -⟩ | ⟨-, -, -, hr2, hu2⟩
    · exact absurd ⟨fA, fB⟩ q
    · exact q.elim (fun y => absurd y fN) (fun y => absurd (lo1_iff.mp fD) y)
    · exact absurd (by rw [eu]; exact q) fU
    · have hs := ask_sim hl fA.2 fB.2 ds
      refine pu_n hr0 hC (by rw [hu2]; exact (fD_post _ _ _).tr (fD_asL _ _ _)) (by rw [hu2, hz]; rw [hz] at hs; exact hs) ?_
      rw [ho, hv, hr2, hs.2.2.2.1.1]
  · subst hz
    have hl := pu_in hR (eqM.rf S)
    rcases hx with (⟨rfl, h⟩ | ⟨rfl, h, he⟩) | ⟨rfl, h, hd⟩ | ⟨rfl, h, hd, hup⟩
    · rcases h2 with ⟨-, hu2⟩ | ⟨q, -⟩ | ⟨q, -⟩ | ⟨q, -⟩
      · exact pu_x hR hu2 hrk (by decide)
      · exact absurd q h
      · exact absurd ⟨q.1, q.2.1⟩ h
      · exact absurd ⟨q.1, q.2.1⟩ h
    · rcases h2 with ⟨q, -⟩ | ⟨-, -, hu2⟩ | ⟨q, -⟩ | ⟨q, -⟩
      · exact absurd h q
      · exact pu_x hR hu2 hrk (by decide)
      · exact absurd he q.2.2
      · exact absurd he q.2.2
    · rcases h2 with ⟨q, -⟩ | ⟨-, -, hu2⟩ | ⟨-, q, -⟩ | ⟨-, q, -⟩
      · exact absurd ⟨h.1, h.2.1⟩ q
      · exact pu_x hR hu2 hrk (by decide)
      · exact absurd (lo1_iff.mpr q) hd
      · exact absurd (lo1_iff.mpr q) hd
    · have eu := up_iff hl h.1.2 h.2.1.2
      rcases h2 with ⟨q, -⟩ | ⟨-, q, -⟩ | ⟨-, -, -, hu2⟩ | ⟨-, -, q, -⟩
      · exact absurd ⟨h.1, h.2.1⟩ q
      · exact q.elim (fun y => absurd y h.2.2) (fun y => absurd (lo1_iff.mp hd) y)
      · exact pu_x hR hu2 hrk (by decide)
      · exact absurd (by rw [← eu]; exact hup) q
theorem pu_tick {S : hr_S} {o : Int64} (hR : hr_R S) (n9 al : Int32) {r : Int32} {z : hr_S × Int64} (h1 : (hl_Q (fun r u => (r = (cl_tick S al (un n9)) 3 0 2 ∧ u = (cl_tick S al (un n9))) ∧ nb n9 1001) (fun X => X = "java/lang/IllegalArgumentException" ∧ ¬ nb n9 1001) hl_k1 (fun v => v.toInt64) S o) r z) {r2 : Int32} {u2 : hr_S} (h2 : (fun r u => (¬ nb n9 1001 ∧ u = md_r z.1 1) ∨ (nb n9 1001 ∧ r = (md_tick (md_0 z.1) al (un n9)) 14 0 11 ∧ u = md_tick (md_0 z.1) al (un n9))) r2 u2) : hr_R u2 ∧ u2 14 0 0 = r ∧ (r = 0 → z.2 = r2.toInt64) := by
  rcases h1 with ⟨hr0, v9, ⟨⟨hv, hz⟩, fA⟩, ho⟩ | ⟨X, hx, hrk, hz⟩
  · have hC : eqM z.1 S := by rw [hz]; exact fC_tick _ _ _
    have hl := pu_in hR hC
    rcases h2 with ⟨q, -⟩ | ⟨-, hr2, hu2⟩
    · exact absurd fA q
    · have hs := tick_sim hl al (un n9)
      refine pu_n hr0 hC (by rw [hu2]; exact fD_tick _ _ _) (by rw [hu2, hz]; rw [hz] at hs; exact hs) ?_
      rw [ho, hv, hr2, hs.2.2.2.1.1]
  · subst hz
    obtain ⟨rfl, h⟩ := hx
    rcases h2 with ⟨-, hu2⟩ | ⟨q, -⟩
    · exact pu_x hR hu2 hrk (by decide)
    · exact absurd q h
theorem pu_deliver {S : hr_S} {o : Int64} (hR : hr_R S) (k : Int32) {r : Int32} {z : hr_S × Int64} (h1 : (hl_Q (fun r u => (r = (if ¬ (cl_take S (un k)) 1 0 (un ((cl_take S (un k)) 6 201 0) * 8 + un ((cl_take S (un k)) 6 201 1)) = 0 then 1 else 0) ∧ u = cl_bring S (un k)) ∧ nb k (ai_n S)) (fun X => X = "java/lang/IndexOutOfBoundsException" ∧ ¬ nb k (ai_n S)) hl_k hl_z S o) r z) {r2 : Int32} {u2 : hr_S} (h2 : (fun r u => (¬ nb k (md_n (md_0 z.1)) ∧ u = md_r z.1 1) ∨ (nb k (md_n (md_0 z.1)) ∧ r = (if ¬ (md_come (md_0 z.1) (un k)) 15 0 ((8 * un (md_0 z.1 21 0 (un k))) + un (md_0 z.1 22 0 (un k))) = 0 then 1 else 0) ∧ u = md_arr (md_0 z.1) (un k))) r2 u2) : hr_R u2 ∧ u2 14 0 0 = r ∧ (r = 0 → z.2 = hl_z r2) := by
  rcases h1 with ⟨hr0, v9, ⟨⟨hv, hz⟩, fK⟩, ho⟩ | ⟨X, hx, hrk, hz⟩
  · have hC : eqM z.1 S := by rw [hz]; exact fC_bring _ _
    have hl := pu_in hR hC
    have en := n_eq hl
    rcases h2 with ⟨q, -⟩ | ⟨-, hr2, hu2⟩
    · exact absurd (by rw [← en]; exact fK) q
    · have hs := bring_sim hl fK.2
      refine pu_n hr0 hC (by rw [hu2]; exact fD_arr _ _) (by rw [hu2, hz]; rw [hz] at hs; exact hs) ?_
      rw [ho, hv, hr2]
      obtain ⟨g1, g2, g3, g4⟩ := rl_come hl fK.2
      have hn : ai_n S < 201 := hR.1.1.1.2
      obtain ⟨b1, b2, -⟩ := hl.1.2.2.1 (un k) (by have := fK.2; omega)
      rw [g3, g4, up_iff g1 b1.2 b2.2]
  · subst hz
    have en := n_eq (pu_in hR (eqM.rf S))
    obtain ⟨rfl, h⟩ := hx
    rcases h2 with ⟨-, hu2⟩ | ⟨q, -⟩
    · exact pu_x hR hu2 hrk (by decide)
    · exact absurd (by rw [en]; exact q) h
theorem pu_lose {S : hr_S} {o : Int64} (hR : hr_R S) (k : Int32) {r : Int32} {z : hr_S × Int64} (h1 : (hl_Q (fun r u => (r = (ai_remove S (un k)) 3 0 2 ∧ u = ai_remove S (un k)) ∧ nb k (ai_n S)) (fun X => X = "java/lang/IndexOutOfBoundsException" ∧ ¬ nb k (ai_n S)) hl_k (fun v => v.toInt64) S o) r z) {r2 : Int32} {u2 : hr_S} (h2 : (fun r u => (¬ nb k (md_n (md_0 z.1)) ∧ u = md_r z.1 1) ∨ (nb k (md_n (md_0 z.1)) ∧ r = (md_take (md_0 z.1) (un k)) 14 0 11 ∧ u = md_take (md_0 z.1) (un k))) r2 u2) : hr_R u2 ∧ u2 14 0 0 = r ∧ (r = 0 → z.2 = r2.toInt64) := by
  rcases h1 with ⟨hr0, v9, ⟨⟨hv, hz⟩, fK⟩, ho⟩ | ⟨X, hx, hrk, hz⟩
  · have hC : eqM z.1 S := by rw [hz]; exact fC_remove _ _
    have hl := pu_in hR hC
    have en := n_eq hl
    rcases h2 with ⟨q, -⟩ | ⟨-, hr2, hu2⟩
    · exact absurd (by rw [← en]; exact fK) q
    · have hs := rl_take hl fK.2
      refine pu_n hr0 hC (by rw [hu2]; exact fD_take _ _) (by rw [hu2, hz]; rw [hz] at hs; exact hs) ?_
      rw [ho, hv, hr2, hs.2.2.2.1.1]
  · subst hz
    have en := n_eq (pu_in hR (eqM.rf S))
    obtain ⟨rfl, h⟩ := hx
    rcases h2 with ⟨-, hu2⟩ | ⟨q, -⟩
    · exact pu_x hR hu2 hrk (by decide)
    · exact absurd (by rw [en]; exact q) h
theorem pu_twice {S : hr_S} {o : Int64} (hR : hr_R S) (k : Int32) {r : Int32} {z : hr_S × Int64} (h1 : (hl_Q (fun r u => (r = (ai_launch S (ai_o S (un k))) 3 0 2 ∧ u = ai_launch S (ai_o S (un k))) ∧ nb k (ai_n S)) (fun X => X = "java/lang/IndexOutOfBoundsException" ∧ ¬ nb k (ai_n S)) hl_k (fun v => v.toInt64) S o) r z) {r2 : Int32} {u2 : hr_S} (h2 : (fun r u => (¬ nb k (md_n (md_0 z.1)) ∧ u = md_r z.1 1) ∨ (nb k (md_n (md_0 z.1)) ∧ r = (md_twice (md_0 z.1) (un k)) 14 0 11 ∧ u = md_twice (md_0 z.1) (un k))) r2 u2) : hr_R u2 ∧ u2 14 0 0 = r ∧ (r = 0 → z.2 = r2.toInt64) := by
  rcases h1 with ⟨hr0, v9, ⟨⟨hv, hz⟩, fK⟩, ho⟩ | ⟨X, hx, hrk, hz⟩
  · have hC : eqM z.1 S := by rw [hz]; exact fC_launch _ _
    have hl := pu_in hR hC
    have en := n_eq hl
    rcases h2 with ⟨q, -⟩ | ⟨-, hr2, hu2⟩
    · exact absurd (by rw [← en]; exact fK) q
    · have hs := twice_sim hl fK.2
      refine pu_n hr0 hC (by rw [hu2]; exact fD_twice _ _) (by rw [hu2, hz]; rw [hz] at hs; exact hs) ?_
      rw [ho, hv, hr2, hs.2.2.2.1.1]
  · subst hz
    have en := n_eq (pu_in hR (eqM.rf S))
    obtain ⟨rfl, h⟩ := hx
    rcases h2 with ⟨-, hu2⟩ | ⟨q, -⟩
    · exact pu_x hR hu2 hrk (by decide)
    · exact absurd (by rw [en]; exact q) h
theorem pu_poke {S : hr_S} {o : Int64} (hR : hr_R S) (k j v : Int32) {r : Int32} {z : hr_S × Int64} (h1 : (hl_Q (fun r u => (r = hr_by (S 7 (un (S 5 0 (un k)))) (un j) ∧ u = hr_w S 7 (un (S 5 0 (un k))) (un j / 4) (hr_sb (S 7 (un (S 5 0 (un k))) (un j / 4)) (un j) v)) ∧ nb k (ai_n S) ∧ nb j (un (S 6 (un (S 5 0 (un k))) 2)) ∧ (¬ v < 0 ∧ v ≤ 255)) (fun X => (X = "java/lang/IndexOutOfBoundsException" ∧ ¬ nb k (ai_n S)) ∨ (X = "java/lang/IndexOutOfBoundsException" ∧ nb k (ai_n S) ∧ ¬ nb j (un (S 6 (un (S 5 0 (un k))) 2))) ∨ (X = "java/lang/IllegalArgumentException" ∧ nb k (ai_n S) ∧ nb j (un (S 6 (un (S 5 0 (un k))) 2)) ∧ ¬ (¬ v < 0 ∧ v ≤ 255))) hl_k (fun v => v.toInt64) S o) r z) {r2 : Int32} {u2 : hr_S} (h2 : (fun r u => (¬ nb k (md_n (md_0 z.1)) ∧ u = md_r z.1 1) ∨ (nb k (md_n (md_0 z.1)) ∧ ¬ nb j (un (md_0 z.1 23 0 (un k))) ∧ u = md_r z.1 1) ∨ (nb k (md_n (md_0 z.1)) ∧ nb j (un (md_0 z.1 23 0 (un k))) ∧ ¬ (0 ≤ v ∧ v ≤ 255) ∧ u = md_r z.1 2) ∨ (nb k (md_n (md_0 z.1)) ∧ nb j (un (md_0 z.1 23 0 (un k))) ∧ (0 ≤ v ∧ v ≤ 255) ∧ r = md_0 z.1 24 0 ((164 * un k) + un j) ∧ u = hr_w (md_0 z.1) 24 0 ((164 * un k) + un j) v)) r2 u2) : hr_R u2 ∧ u2 14 0 0 = r ∧ (r = 0 → z.2 = r2.toInt64) := by
  rcases h1 with ⟨hr0, v9, ⟨⟨hv, hz⟩, fK, fJ, fV⟩, ho⟩ | ⟨X, hx, hrk, hz⟩
  · have hC : eqM z.1 S := by rw [hz]; exact eqM.w (eqM.rf S) (by decide)
    have hl := pu_in hR hC
    have en := n_eq hl
    obtain ⟨r0, r1, r2', r3⟩ := hl.2.2.2.1.2 (un k) fK.2
    have r2e : S 6 (un (S 5 0 (un k))) 2 = md_0 z.1 23 0 (un k) := r2'
    rcases h2 with ⟨q, -⟩ | ⟨-, q, -⟩ | ⟨-, -, q, -⟩ | ⟨-, -, -, hr2, hu2⟩
    · exact absurd (by rw [← en]; exact fK) q
    · exact absurd (by rw [← r2e]; exact fJ) q
    · exact absurd (lo_iff.mp fV) q
    · have hs := poke_sim hl fK.2 (show un j < un (S 6 (ai_o S (un k)) 2) from fJ.2) (v := v) (nb_le (N := 255) fV.1 fV.2 rfl (by decide))
      refine pu_n hr0 hC (by rw [hu2]; exact fM.w (fM.rf _) (by omega) (by omega)) (by rw [hu2]; have e : z.1 = _ := hz; rw [e] at hs ⊢; exact hs) ?_
      rw [ho, hv, hr2]
      exact congrArg _ (r3 (un j) fJ.2)
  · subst hz
    have hl := pu_in hR (eqM.rf S)
    have en := n_eq hl
    rcases hx with ⟨rfl, h⟩ | ⟨rfl, h, hj⟩ | ⟨rfl, h, hj, hvv⟩
    · rcases h2 with ⟨-, hu2⟩ | ⟨q, -⟩ | ⟨q, -⟩ | ⟨q, -⟩
      · exact pu_x hR hu2 hrk (by decide)
      · exact absurd (by rw [en]; exact q) h
      · exact absurd (by rw [en]; exact q) h
      · exact absurd (by rw [en]; exact q) h
    · obtain ⟨r0, r1, r2', r3⟩ := hl.2.2.2.1.2 (un k) h.2
      have r2e : S 6 (un (S 5 0 (un k))) 2 = md_0 S 23 0 (un k) := r2'
      rcases h2 with ⟨q, -⟩ | ⟨-, -, hu2⟩ | ⟨-, q, -⟩ | ⟨-, q, -⟩
      · exact absurd (by rw [← en]; exact h) q
      · exact pu_x hR hu2 hrk (by decide)
      · exact absurd (by rw [r2e]; exact q) hj
      · exact absurd (by rw [r2e]; exact q) hj
    · obtain ⟨r0, r1, r2', r3⟩ := hl.2.2.2.1.2 (un k) h.2
      have r2e : S 6 (un (S 5 0 (un k))) 2 = md_0 S 23 0 (un k) := r2'
      rcases h2 with ⟨q, -⟩ | ⟨-, q, -⟩ | ⟨-, -, -, hu2⟩ | ⟨-, -, q, -⟩
      · exact absurd (by rw [← en]; exact h) q
      · exact absurd (by rw [← r2e]; exact hj) q
      · exact pu_x hR hu2 hrk (by decide)
      · exact absurd (lo_iff.mpr q) hvv
theorem pu_cut {S : hr_S} {o : Int64} (hR : hr_R S) (k v : Int32) {r : Int32} {z : hr_S × Int64} (h1 : (hl_Qv (fun u => u = hr_w S 6 (un (S 5 0 (un k))) 2 v ∧ nb k (ai_n S) ∧ (¬ v < 0 ∧ v ≤ S 6 (un (S 5 0 (un k))) 2)) (fun X => (X = "java/lang/IndexOutOfBoundsException" ∧ ¬ nb k (ai_n S)) ∨ (X = "java/lang/IllegalArgumentException" ∧ nb k (ai_n S) ∧ ¬ (¬ v < 0 ∧ v ≤ S 6 (un (S 5 0 (un k))) 2))) hl_k S o) r z) {u2 : hr_S} (h2 : (fun u => (¬ nb k (md_n (md_0 z.1)) ∧ u = md_r z.1 1) ∨ (nb k (md_n (md_0 z.1)) ∧ ¬ (0 ≤ v ∧ v ≤ md_0 z.1 23 0 (un k)) ∧ u = md_r z.1 2) ∨ (nb k (md_n (md_0 z.1)) ∧ (0 ≤ v ∧ v ≤ md_0 z.1 23 0 (un k)) ∧ u = hr_w (md_0 z.1) 23 0 (un k) v)) u2) : hr_R u2 ∧ u2 14 0 0 = r := by
  rcases h1 with ⟨hr0, ⟨hz, fK, fV⟩, ho⟩ | ⟨X, hx, hrk, hz⟩
  · have hC : eqM z.1 S := by rw [hz]; exact eqM.w (eqM.rf S) (by decide)
    have hl := pu_in hR hC
    have en := n_eq hl
    obtain ⟨r0, r1, r2', r3⟩ := hl.2.2.2.1.2 (un k) fK.2
    have r2e : S 6 (un (S 5 0 (un k))) 2 = md_0 z.1 23 0 (un k) := r2'
    rcases h2 with ⟨q, -⟩ | ⟨-, q, -⟩ | ⟨-, -, hu2⟩
    · exact absurd (by rw [← en]; exact fK) q
    · exact absurd (by rw [← r2e]; exact lo_iff.mp fV) q
    · have hn : ai_n S < 201 := hR.1.1.1.2
      have hb := (hR.1.1.2.2.2.1 (un (S 5 0 (un k))) (by have := (hR.1.1.2.1 (un k) (by have := fK.2; omega)).2; omega)).2.2
      have hb2 := hb.2
      have hnv : nb v (un (S 6 (un (S 5 0 (un k))) 2) + 1) := nb_le fV.1 fV.2 hb.1 (by omega)
      have hs := cut_sim hl fK.2 (v := v) ⟨hnv.1, by have := hnv.2; omega⟩ (show un v ≤ un (S 6 (un (S 5 0 (un k))) 2) by have := hnv.2; omega)
      have := pu_n (u2 := u2) (P := True) hr0 hC (by rw [hu2]; exact fM.w (fM.rf _) (by omega) (by omega)) (by rw [hu2]; have e : z.1 = _ := hz; rw [e] at hs ⊢; exact hs) trivial
      exact ⟨this.1, this.2.1⟩
  · subst hz
    have hl := pu_in hR (eqM.rf S)
    have en := n_eq hl
    rcases hx with ⟨rfl, h⟩ | ⟨rfl, h, hvv⟩
    · rcases h2 with ⟨-, hu2⟩ | ⟨q, -⟩ | ⟨q, -⟩
      · have := pu_x (P := True) hR hu2 hrk (by decide)
        exact ⟨this.1, this.2.1⟩
      · exact absurd (by rw [en]; exact q) h
      · exact absurd (by rw [en]; exact q) h
    · obtain ⟨r0, r1, r2', r3⟩ := hl.2.2.2.1.2 (un k) h.2
      have r2e : S 6 (un (S 5 0 (un k))) 2 = md_0 S 23 0 (un k) := r2'
      rcases h2 with ⟨q, -⟩ | ⟨-, -, hu2⟩ | ⟨-, q, -⟩
      · exact absurd (by rw [← en]; exact h) q
      · have := pu_x (P := True) hR hu2 hrk (by decide)
        exact ⟨this.1, this.2.1⟩
      · exact absurd (lo_iff.mpr (by rw [r2e]; exact q)) hvv
theorem pu_packet {S : hr_S} {o : Int64} (hR : hr_R S) (k j : Int32) {r : Int32} {z : hr_S × Int64} (h1 : (hl_Q (fun r u => (r = cl_pkt S (un (S 5 0 (un k))) j ∧ u = S) ∧ nb k (ai_n S) ∧ (¬ j = -3 → ¬ j = -2 → ¬ j = -1 → nb j (un (S 6 (un (S 5 0 (un k))) 2)))) (fun X => (X = "java/lang/IndexOutOfBoundsException" ∧ ¬ nb k (ai_n S)) ∨ (X = "java/lang/IndexOutOfBoundsException" ∧ nb k (ai_n S) ∧ ¬ j = -3 ∧ ¬ j = -2 ∧ ¬ j = -1 ∧ ¬ nb j (un (S 6 (un (S 5 0 (un k))) 2)))) hl_k (fun v => v.toInt64) S o) r z) {r2 : Int32} {u2 : hr_S} (h2 : (fun r u => (¬ nb k (md_n (md_0 z.1)) ∧ u = md_r z.1 1) ∨ (nb k (md_n (md_0 z.1)) ∧ ¬ (j = -3 ∨ j = -2 ∨ j = -1 ∨ nb j (un (md_0 z.1 23 0 (un k)))) ∧ u = md_r z.1 1) ∨ (nb k (md_n (md_0 z.1)) ∧ (j = -3 ∨ j = -2 ∨ j = -1 ∨ nb j (un (md_0 z.1 23 0 (un k)))) ∧ r = md_pkt (md_0 z.1) (un k) j ∧ u = md_0 z.1)) r2 u2) : hr_R u2 ∧ u2 14 0 0 = r ∧ (r = 0 → z.2 = r2.toInt64) := by
  rcases h1 with ⟨hr0, v9, ⟨⟨hv, hz⟩, fK, fJ⟩, ho⟩ | ⟨X, hx, hrk, hz⟩
  · have hC : eqM z.1 S := by rw [hz]; exact eqM.rf S
    have hl := pu_in hR hC
    have en := n_eq hl
    obtain ⟨r0, r1, r2', r3⟩ := hl.2.2.2.1.2 (un k) fK.2
    have r2e : S 6 (un (S 5 0 (un k))) 2 = md_0 z.1 23 0 (un k) := r2'
    have hj4 : j = -3 ∨ j = -2 ∨ j = -1 ∨ nb j (un (S 6 (un (S 5 0 (un k))) 2)) := by
      by_cases c3 : j = -3
      · exact Or.inl c3
      · by_cases c2 : j = -2
        · exact Or.inr (Or.inl c2)
        · by_cases c1 : j = -1
          · exact Or.inr (Or.inr (Or.inl c1))
          · exact Or.inr (Or.inr (Or.inr (fJ c3 c2 c1)))
    rcases h2 with ⟨q, -⟩ | ⟨-, q, -⟩ | ⟨-, -, hr2, hu2⟩
    · exact absurd (by rw [← en]; exact fK) q
    · exact absurd (by rw [← r2e]; exact hj4) q
    · refine pu_n hr0 hC (by rw [hu2]; exact fM.rf _) (by rw [hu2]; rw [hz] at hl ⊢; exact hl) ?_
      rw [ho, hv, hr2]
      exact congrArg _ (pkt_eq hl fK.2 hj4)
  · subst hz
    have hl := pu_in hR (eqM.rf S)
    have en := n_eq hl
    rcases hx with ⟨rfl, h⟩ | ⟨rfl, h, c3, c2, c1, hj⟩
    · rcases h2 with ⟨-, hu2⟩ | ⟨q, -⟩ | ⟨q, -⟩
      · exact pu_x hR hu2 hrk (by decide)
      · exact absurd (by rw [en]; exact q) h
      · exact absurd (by rw [en]; exact q) h
    · obtain ⟨r0, r1, r2', r3⟩ := hl.2.2.2.1.2 (un k) h.2
      have r2e : S 6 (un (S 5 0 (un k))) 2 = md_0 S 23 0 (un k) := r2'
      rcases h2 with ⟨q, -⟩ | ⟨-, -, hu2⟩ | ⟨-, q, -⟩
      · exact absurd (by rw [← en]; exact h) q
      · exact pu_x hR hu2 hrk (by decide)
      · exact absurd (q.elim (fun y => absurd y c3) (fun y => y.elim (fun y => absurd y c2) (fun y => y.elim (fun y => absurd y c1) (fun y => by rw [r2e]; exact y)))) hj
theorem pu_route {S : hr_S} {o : Int64} (hR : hr_R S) (a b w9 : Int32) {r : Int32} {z : hr_S × Int64} (h1 : (hl_Q (fun r u => (r = cl_route S a b w9 ∧ u = S) ∧ nb a 8 ∧ nb b 8 ∧ nb w9 5) (fun X => X = "java/lang/IndexOutOfBoundsException" ∧ ¬ (nb a 8 ∧ nb b 8 ∧ nb w9 5)) hl_k (fun v => v.toInt64) S o) r z) {r2 : Int32} {u2 : hr_S} (h2 : (fun r u => (¬ (nb a 8 ∧ nb b 8 ∧ nb w9 5) ∧ u = md_r z.1 1) ∨ ((nb a 8 ∧ nb b 8 ∧ nb w9 5) ∧ r = md_route (md_0 z.1) (un a) (un b) (un w9) ∧ u = md_0 z.1)) r2 u2) : hr_R u2 ∧ u2 14 0 0 = r ∧ (r = 0 → z.2 = r2.toInt64) := by
  rcases h1 with ⟨hr0, v9, ⟨⟨hv, hz⟩, fA, fB, fW⟩, ho⟩ | ⟨X, hx, hrk, hz⟩
  · have hC : eqM z.1 S := by rw [hz]; exact eqM.rf S
    have hl := pu_in hR hC
    rcases h2 with ⟨q, -⟩ | ⟨-, hr2, hu2⟩
    · exact absurd ⟨fA, fB, fW⟩ q
    · refine pu_n hr0 hC (by rw [hu2]; exact fM.rf _) (by rw [hu2]; rw [hz] at hl ⊢; exact hl) ?_
      rw [ho, hv, hr2]
      exact congrArg _ (route_eq hl fA fB)
  · subst hz
    obtain ⟨rfl, h⟩ := hx
    rcases h2 with ⟨-, hu2⟩ | ⟨q, -⟩
    · exact pu_x hR hu2 hrk (by decide)
    · exact absurd q h
theorem pu_send {S : hr_S} {o : Int64} (hR : hr_R S) (a b : Int32) {r : Int32} {z : hr_S × Int64} (h1 : (hl_Q (fun r u => (r = cl_sd S (un b) 16 (un a) ∧ u = S) ∧ nb a 8 ∧ nb b 8) (fun X => X = "java/lang/IndexOutOfBoundsException" ∧ ¬ (nb a 8 ∧ nb b 8)) hl_k (fun v => v.toInt64) S o) r z) {r2 : Int32} {u2 : hr_S} (h2 : (fun r u => (¬ (nb a 8 ∧ nb b 8) ∧ u = md_r z.1 1) ∨ ((nb a 8 ∧ nb b 8) ∧ r = md_sd (md_0 z.1) (un b) 16 (un a) ∧ u = md_0 z.1)) r2 u2) : hr_R u2 ∧ u2 14 0 0 = r ∧ (r = 0 → z.2 = r2.toInt64) := by
  rcases h1 with ⟨hr0, v9, ⟨⟨hv, hz⟩, fA, fB⟩, ho⟩ | ⟨X, hx, hrk, hz⟩
  · have hC : eqM z.1 S := by rw [hz]; exact eqM.rf S
    have hl := pu_in hR hC
    rcases h2 with ⟨q, -⟩ | ⟨-, hr2, hu2⟩
    · exact absurd ⟨fA, fB⟩ q
    · refine pu_n hr0 hC (by rw [hu2]; exact fM.rf _) (by rw [hu2]; rw [hz] at hl ⊢; exact hl) ?_
      rw [ho, hv, hr2]
      exact congrArg _ (sd_eq hl fB.2 16 (un a) fA.2)
  · subst hz
    obtain ⟨rfl, h⟩ := hx
    rcases h2 with ⟨-, hu2⟩ | ⟨q, -⟩
    · exact pu_x hR hu2 hrk (by decide)
    · exact absurd q h
theorem pu_count {S : hr_S} {o : Int64} (hR : hr_R S) (w9 : Int32) {r : Int32} {z : hr_S × Int64} (h1 : (hl_Q (fun r u => (r = cl_count S (un w9) ∧ u = S) ∧ nb w9 6) (fun X => X = "java/lang/IndexOutOfBoundsException" ∧ ¬ nb w9 6) hl_k (fun v => v.toInt64) S o) r z) {r2 : Int32} {u2 : hr_S} (h2 : (fun r u => (¬ nb w9 6 ∧ u = md_r z.1 1) ∨ (nb w9 6 ∧ r = md_count (md_0 z.1) (un w9) ∧ u = md_0 z.1)) r2 u2) : hr_R u2 ∧ u2 14 0 0 = r ∧ (r = 0 → z.2 = r2.toInt64) := by
  rcases h1 with ⟨hr0, v9, ⟨⟨hv, hz⟩, fW⟩, ho⟩ | ⟨X, hx, hrk, hz⟩
  · have hC : eqM z.1 S := by rw [hz]; exact eqM.rf S
    have hl := pu_in hR hC
    rcases h2 with ⟨q, -⟩ | ⟨-, hr2, hu2⟩
    · exact absurd fW q
    · refine pu_n hr0 hC (by rw [hu2]; exact fM.rf _) (by rw [hu2]; rw [hz] at hl ⊢; exact hl) ?_
      rw [ho, hv, hr2]
      exact congrArg _ (count_eq hl (un w9))
  · subst hz
    obtain ⟨rfl, h⟩ := hx
    rcases h2 with ⟨-, hu2⟩ | ⟨q, -⟩
    · exact pu_x hR hu2 hrk (by decide)
    · exact absurd q h
