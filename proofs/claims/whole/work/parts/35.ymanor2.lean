/-! the reference: manor's loops -/
set_option maxRecDepth 100000 in
set_option maxHeartbeats 4000000 in
theorem mn_l1 (d : Nat) (sd : Int64) (I : Nat → Int32) : ∀ (m k : Nat) (F : Nat → Nat → Int32), k + m = 21 → (∀ j, j < k → F 5 j = 0) → ∃ G, pm_EV (pm_run mt (d + 5)) (some .int) oX8_manor (23, [some (.ref 0), some (.int (nI k))], [], hY I F sd) = pm_EV (pm_run mt (d + 5)) (some .int) oX8_manor (35, [some (.ref 0), some (.int 0)], [], hY I G sd) ∧ (∀ j, j ≠ 5 → G j = F j) ∧ ∀ j, j < 21 → G 5 j = 0 := by
  intro m
  induction m with
  | zero =>
    intro k F hk h
    obtain rfl : k = 21 := by omega
    exact ⟨F, by rw [tr_X8_manor_0_23 _ _ _ _ 0 I F _ (fun h => absurd h (by decide)), if_neg (by decide)], fun _ _ => rfl, h⟩
  | succ m ih =>
    intro k F hk h
    obtain ⟨G, h1, h2, h3⟩ := ih (k + 1) (uF F 5 (upd (F 5) k 0)) (by omega) (fun j hj => by
      rw [uF_at]
      by_cases e : j = k
      · rw [e, upd_at]
      · rw [upd_ne _ _ e]; exact h j (by omega))
    refine ⟨G, ?_, fun j hj => by rw [h2 j hj, uF_ne _ _ hj], h3⟩
    rw [tr_X8_manor_0_23 _ _ _ _ 0 I F _ (fun _ => pm_in_nI (by omega) (by decide)), if_pos (by rw [show (21 : Int32) = nI 21 from rfl, nI_ltI (by omega) (by decide)]; omega), nI_clamp (by omega), nI_p1, h1]
set_option maxRecDepth 100000 in
set_option maxHeartbeats 4000000 in
theorem mn_l2 (d : Nat) (sd : Int64) (I : Nat → Int32) (x : Nat) (hx : x ≤ 4) (e5 : I 5 = nI x) : ∀ (m k : Nat) (F : Nat → Nat → Int32), k + m = x → (∀ j, j < k → F 5 j = F 3 (2 * j) ∧ F 2 j = F 3 (2 * j + 1)) → (∀ j, k ≤ j → j < 21 → F 5 j = 0) → ∃ G, pm_EV (pm_run mt (d + 5)) (some .int) oX8_manor (35, [some (.ref 0), some (.int (nI k))], [], hY I F sd) = pm_EV (pm_run mt (d + 5)) (some .int) oX8_manor (65, [some (.ref 0), some (.int 0)], [], hY I G sd) ∧ (∀ j, j ≠ 5 → j ≠ 2 → G j = F j) ∧ (∀ j, j < x → G 5 j = F 3 (2 * j) ∧ G 2 j = F 3 (2 * j + 1)) ∧ ∀ j, x ≤ j → j < 21 → G 5 j = 0 := by
  intro m
  induction m with
  | zero =>
    intro k F hk h hz
    obtain rfl : k = x := by omega
    have no : ¬ nI k < I 5 := by rw [e5]; exact nI_nlt (Nat.le_refl _) (by omega)
    exact ⟨F, by rw [tr_X8_manor_0_35 _ _ _ _ 0 I F _ (fun h => absurd h no) (fun h => absurd h no), if_neg no], fun _ _ _ => rfl, h, hz⟩
  | succ m ih =>
    intro k F hk h hz
    have ys : nI k < I 5 := by rw [e5, nI_ltI (by omega) (by omega)]; omega
    have c1 : (2 * nI k) = nI (2 * k) := by rw [show (2 : Int32) = nI 2 from rfl, pk_mul]
    have h3a : uF (uF F 5 (upd (F 5) k (F 3 (2 * k)))) 2 (upd (F 2) k (F 3 (2 * k + 1))) 3 = F 3 := by rw [uF_ne _ _ (by decide), uF_ne _ _ (by decide)]
    obtain ⟨G, h1, h2, h3, h4⟩ := ih (k + 1) (uF (uF F 5 (upd (F 5) k (F 3 (2 * k)))) 2 (upd (F 2) k (F 3 (2 * k + 1)))) (by omega) (fun j hj => by
      rw [h3a, uF_at, uF_ne _ _ (show (5 : Nat) ≠ 2 by decide), uF_at]
      by_cases e : j = k
      · rw [e, upd_at, upd_at]; exact ⟨rfl, rfl⟩
      · rw [upd_ne _ _ e, upd_ne _ _ e]; exact h j (by omega)) (fun j hj hj2 => by
      rw [uF_ne _ _ (show (5 : Nat) ≠ 2 by decide), uF_at, upd_ne _ _ (by omega)]
      exact hz j (by omega) hj2)
    rw [h3a] at h3
    refine ⟨G, ?_, fun j hj hj2 => by rw [h2 j hj hj2, uF_ne _ _ hj2, uF_ne _ _ hj], h3, h4⟩
    rw [tr_X8_manor_0_35 _ _ _ _ 0 I F _ (fun _ => by rw [c1]; exact pm_in_nI (by omega) (by decide)) (fun _ => pm_in_nI (by omega) (by decide)), if_pos ys, tr_X8_manor_0_49 _ _ _ _ 0 I F _ (by rw [c1, nI_p1]; exact pm_in_nI (by omega) (by decide)) (pm_in_nI (by omega) (by decide)), c1, nI_p1, nI_p1, nI_clamp (by omega), nI_clamp (by omega), nI_clamp (by omega), uF_ne _ _ (show (2 : Nat) ≠ 5 by decide), uF_ne _ _ (show (3 : Nat) ≠ 5 by decide), h1]
set_option maxRecDepth 100000 in
set_option maxHeartbeats 4000000 in
theorem mn_l3 (d : Nat) (sd : Int64) (I : Nat → Int32) (y : Nat) (hy : y ≤ 5) (e7 : I 7 = nI y) : ∀ (m k : Nat) (F : Nat → Nat → Int32), k + m = y → (∀ j, j < k → F 5 (12 + j) = F 4 j) → ∃ G o, pm_EV (pm_run mt (d + 5)) (some .int) oX8_manor (65, [some (.ref 0), some (.int (nI k))], [], hY I F sd) = pm_EV (pm_run mt (d + 5)) (some .int) oX8_manor (81, [some (.ref 0), some (.int o)], [], hY I G sd) ∧ (∀ j, j ≠ 5 → G j = F j) ∧ (∀ j, j < y → G 5 (12 + j) = F 4 j) ∧ ∀ j, (j < 12 ∨ 12 + y ≤ j) → G 5 j = F 5 j := by
  intro m
  induction m with
  | zero =>
    intro k F hk h
    obtain rfl : k = y := by omega
    have no : ¬ nI k < I 7 := by rw [e7]; exact nI_nlt (Nat.le_refl _) (by omega)
    exact ⟨F, nI k, by rw [tr_X8_manor_0_65 _ _ _ _ 0 I F _ (fun h => absurd h no) (fun h => absurd h no), if_neg no], fun _ _ => rfl, h, fun _ _ => rfl⟩
  | succ m ih =>
    intro k F hk h
    have ys : nI k < I 7 := by rw [e7, nI_ltI (by omega) (by omega)]; omega
    have c1 : (12 + nI k) = nI (12 + k) := by rw [show (12 : Int32) = nI 12 from rfl, nI_add]
    obtain ⟨G, o, h1, h2, h3, h4⟩ := ih (k + 1) (uF F 5 (upd (F 5) (12 + k) (F 4 k))) (by omega) (fun j hj => by
      rw [uF_at, uF_ne _ _ (show (4 : Nat) ≠ 5 by decide)]
      by_cases e : j = k
      · rw [e, upd_at]
      · rw [upd_ne _ _ (by omega)]; exact h j (by omega))
    rw [uF_ne _ _ (show (4 : Nat) ≠ 5 by decide)] at h3
    refine ⟨G, o, ?_, fun j hj => by rw [h2 j hj, uF_ne _ _ hj], h3, fun j hj => by rw [h4 j hj, uF_at, upd_ne _ _ (by omega)]⟩
    rw [tr_X8_manor_0_65 _ _ _ _ 0 I F _ (fun _ => pm_in_nI (by omega) (by decide)) (fun _ => by rw [c1]; exact pm_in_nI (by omega) (by decide)), if_pos ys, c1, nI_p1, nI_clamp (by omega), nI_clamp (by omega), h1]
set_option maxRecDepth 100000 in
set_option maxHeartbeats 4000000 in
theorem en_X8_manor_0' (d : Nat) (I : Nat → Int32) (F : Nat → Nat → Int32) (sd : Int64) : pm_run mt (d + 6) 122 [.ref 0] (hY I F sd) = pm_EV (pm_run mt (d + 5)) (some .int) oX8_manor (0, [some (.ref 0), none], [], hY I F sd) := rfl
set_option maxHeartbeats 4000000 in
theorem mn_no (d : Nat) (I : Nat → Int32) (F : Nat → Nat → Int32) (sd : Int64) (RA : Int32) (RI : Nat → Int32) (RF : Nat → Nat → Int32) (hA : ¬ RA = -9) (h : pm_run mt (d + 5) 120 [.ref 0] (hY (upd I 0 0) F sd) = some (some (.int RA), hY RI RF sd)) : pm_run mt (d + 6) 122 [.ref 0] (hY I F sd) = some (some (.int (-3)), hY RI RF sd) := by
  rw [en_X8_manor_0', tr_X8_manor_0_0 d I F sd RA RI RF h, if_neg hA]
set_option maxHeartbeats 4000000 in
theorem mn_yes (d : Nat) (I : Nat → Int32) (F : Nat → Nat → Int32) (sd : Int64) (RI : Nat → Int32) (RF : Nat → Nat → Int32) (x y : Nat) (hx : x ≤ 4) (hy : y ≤ 5) (e10 : RI 10 = nI x) (e12 : RI 12 = nI y) (h : pm_run mt (d + 5) 120 [.ref 0] (hY (upd I 0 0) F sd) = some (some (.int (-9)), hY RI RF sd)) :
    ∃ G, pm_run mt (d + 6) 122 [.ref 0] (hY I F sd) = some (some (.int (10 * nI x + nI y)), hY (upd (upd (upd (upd RI 4 (RI 8)) 5 (RI 10)) 7 (RI 12)) 17 0) G sd) ∧ (∀ j, j ≠ 5 → j ≠ 2 → j ≠ 9 → G j = RF j) ∧ (∀ j, j < x → G 5 j = RF 3 (2 * j) ∧ G 2 j = RF 3 (2 * j + 1)) ∧ (∀ j, j < y → G 5 (12 + j) = RF 4 j) ∧ G 5 19 = RI 9 ∧ (∀ j, x ≤ j → j < 21 → j ≠ 19 → (j < 12 ∨ 12 + y ≤ j) → G 5 j = 0) ∧ G 9 0 = 0 ∧ G 9 1 = 0 := by
  generalize hJ : upd (upd (upd RI 4 (RI 8)) 5 (RI 10)) 7 (RI 12) = J
  have J5 : J 5 = nI x := by rw [← hJ, upd_ne _ _ (by decide), upd_at, e10]
  have J7 : J 7 = nI y := by rw [← hJ, upd_at, e12]
  have J9 : J 9 = RI 9 := by rw [← hJ, upd_ne _ _ (by decide), upd_ne _ _ (by decide), upd_ne _ _ (by decide)]
  obtain ⟨G1, a1, a2, a3⟩ := mn_l1 d sd J 21 0 RF rfl (fun j hj => absurd hj (by omega))
  obtain ⟨G2, b1, b2, b3, b4⟩ := mn_l2 d sd J x hx J5 x 0 G1 (by omega) (fun j hj => absurd hj (by omega)) (fun j _ hj => a3 j hj)
  obtain ⟨G3, o, c1, c2, c3, c4⟩ := mn_l3 d sd J y hy J7 y 0 G2 (by omega) (fun j hj => absurd hj (by omega))
  refine ⟨uF (uF (uF G3 5 (upd (G3 5) 19 (J 9))) 9 (upd (G3 9) 0 (vp_nar .boolean 0))) 9 (upd (upd (G3 9) 0 (vp_nar .boolean 0)) 1 (vp_nar .boolean 0)), ?_, ?_, ?_, ?_, ?_, ?_, ?_, ?_⟩
  · rw [en_X8_manor_0', tr_X8_manor_0_0 d I F sd (-9) RI RF h, if_pos rfl, tr_X8_manor_0_9 d RI RF sd 0 RI RF, hJ]
    refine a1.trans (b1.trans (c1.trans ?_))
    rw [tr_X8_manor_0_81 d J G3 sd 0 J G3, tr_X8_manor_0_90 d (upd J 17 0) _ sd 0 J G3, upd_ne _ _ (show (5 : Nat) ≠ 17 by decide), upd_ne _ _ (show (7 : Nat) ≠ 17 by decide), J5, J7, uF_ne _ _ (show (9 : Nat) ≠ 5 by decide), uF_at]
  · intro j h1 h2 h3
    rw [uF_ne _ _ h3, uF_ne _ _ h3, uF_ne _ _ h1, c2 j h1, b2 j h1 h2, a2 j h1]
  · intro j hj
    rw [uF_ne _ _ (show (5 : Nat) ≠ 9 by decide), uF_ne _ _ (show (5 : Nat) ≠ 9 by decide), uF_at, upd_ne _ _ (by omega), c4 j (by omega), uF_ne _ _ (show (2 : Nat) ≠ 9 by decide), uF_ne _ _ (show (2 : Nat) ≠ 9 by decide), uF_ne _ _ (show (2 : Nat) ≠ 5 by decide), c2 2 (by decide), ← a2 3 (by decide)]
    exact b3 j hj
  · intro j hj
    rw [uF_ne _ _ (show (5 : Nat) ≠ 9 by decide), uF_ne _ _ (show (5 : Nat) ≠ 9 by decide), uF_at, upd_ne _ _ (by omega), c3 j hj, b2 4 (by decide) (by decide), a2 4 (by decide)]
  · rw [uF_ne _ _ (show (5 : Nat) ≠ 9 by decide), uF_ne _ _ (show (5 : Nat) ≠ 9 by decide), uF_at, upd_at, J9]
  · intro j h1 h2 h3 h4
    rw [uF_ne _ _ (show (5 : Nat) ≠ 9 by decide), uF_ne _ _ (show (5 : Nat) ≠ 9 by decide), uF_at, upd_ne _ _ h3, c4 j h4]
    exact b4 j h1 h2
  · rw [uF_at, upd_ne _ _ (by decide), upd_at]; rfl
  · rw [uF_at, upd_at]; rfl
