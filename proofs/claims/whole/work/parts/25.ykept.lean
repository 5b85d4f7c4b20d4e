/-! the reference: undone, kept, later, judged, years -/
def unA (a : Int32) : Int32 := if a = 0 then -3 else a - 1
def unS (a : Int32) : Int32 := if a = 0 then a else a - 1
def un5 (b p : Nat → Int32) (a : Int32) : Nat → Int32 := if a = 0 then p else va_cpy b p (21 * (a - 1)).toNatClampNeg 0 21
theorem lin01 (k : Int32) : lin k.toInt64 0 1 = inr k 2 := by
  rw [show (0 : Int64) = (0 : Int32).toInt64 from rfl, show (1 : Int64) = (1 : Int32).toInt64 from rfl, lin_lit, inr_sub (n := 2) (m := 2) (by omega) rfl]
  rfl
theorem bI_t {b : Bool} (h : ¬ bI b = 0) : b = true := by
  cases b
  · exact absurd rfl h
  · rfl
theorem upd_c0 (I : Nat → Int32) (k : Nat) (h : k ≠ 0) : upd (upd I 0 0) k (I k) = upd I 0 0 := by
  rw [upd_sw _ (Ne.symm h), upd_self]
set_option maxRecDepth 100000 in
set_option maxHeartbeats 4000000 in
theorem tr_X8_undo_0_0 (d : Nat) (I : Nat → Int32) (F : Nat → Nat → Int32) (sd : Int64) : pm_EV (pm_run mt (d + 0)) (some .int) oX8_undo (0, [some (.ref 0), none], [], (hY I F sd)) = (if (I 17) = 0 then some (some (.int (-3)), (hY (upd I 0 0) F sd)) else pm_EV (pm_run mt (d + 0)) (some .int) oX8_undo (16, [some (.ref 0), some (.int 0)], [], (hY (upd (upd I 0 0) 17 ((I 17) - 1)) F sd))) := by
  refine Eq.trans (pm_EV_at 5 (d := (5, [some (.ref 0), none], [.int (I 17)], (hY (upd I 0 0) F sd))) (x := if (I 17) = 0 then .inl (6, [some (.ref 0), none], [], (hY (upd I 0 0) F sd)) else .inl (8, [some (.ref 0), none], [], (hY (upd I 0 0) F sd))) rfl rfl) ?_
  refine pm_rc (fun p1 => ?_) (fun p1 => ?_)
  · show pm_EV (pm_run mt (d + 0)) (some .int) oX8_undo (6, [some (.ref 0), none], [], (hY (upd I 0 0) F sd)) = _
    exact pm_EV_at 1 (d := (7, [some (.ref 0), none], [.int (-3)], (hY (upd I 0 0) F sd))) rfl rfl
  · show pm_EV (pm_run mt (d + 0)) (some .int) oX8_undo (8, [some (.ref 0), none], [], (hY (upd I 0 0) F sd)) = _
    exact pm_EV_go 8 (d := (16, [some (.ref 0), some (.int 0)], [], (hY (upd (upd I 0 0) 17 ((I 17) - 1)) F sd))) rfl
set_option maxRecDepth 100000 in
set_option maxHeartbeats 4000000 in
theorem tr_X8_undo_0_16 (d : Nat) (I : Nat → Int32) (F : Nat → Nat → Int32) (sd : Int64) (x1 : Int32) (g1 : (x1 < 21) → pm_in ((21 * (I 17)) + x1) 294 = true) (g2 : (x1 < 21) → pm_in x1 21 = true) : pm_EV (pm_run mt (d + 0)) (some .int) oX8_undo (16, [some (.ref 0), some (.int x1)], [], (hY I F sd)) = (if x1 < 21 then pm_EV (pm_run mt (d + 0)) (some .int) oX8_undo (16, [some (.ref 0), some (.int (x1 + 1))], [], (hY I (uF F 5 (upd (F 5) x1.toNatClampNeg ((F 7) ((21 * (I 17)) + x1).toNatClampNeg))) sd)) else some (some (.int (I 17)), (hY I F sd))) := by
  refine Eq.trans (pm_EV_at 2 (d := (18, [some (.ref 0), some (.int x1)], [.int 21, .int x1], (hY I F sd))) (x := if x1 < 21 then .inl (19, [some (.ref 0), some (.int x1)], [], (hY I F sd)) else .inl (34, [some (.ref 0), some (.int x1)], [], (hY I F sd))) rfl rfl) ?_
  refine pm_rc (fun p1 => ?_) (fun p1 => ?_)
  · show pm_EV (pm_run mt (d + 0)) (some .int) oX8_undo (19, [some (.ref 0), some (.int x1)], [], (hY I F sd)) = _
    refine Eq.trans (b := pm_EV (pm_run mt (d + 0)) (some .int) oX8_undo (31, [some (.ref 0), some (.int x1)], [.int ((F 7) ((21 * (I 17)) + x1).toNatClampNeg), .int x1, .ref 5], (hY I F sd))) (pm_EV_gd 11 (d := (30, [some (.ref 0), some (.int x1)], [.int ((21 * (I 17)) + x1), .ref 7, .int x1, .ref 5], (hY I F sd))) (c1 := (31, [some (.ref 0), some (.int x1)], [.int ((F 7) ((21 * (I 17)) + x1).toNatClampNeg), .int x1, .ref 5], (hY I F sd))) rfl rfl (⟨rfl, g1 p1⟩)) ?_
    refine Eq.trans (b := pm_EV (pm_run mt (d + 0)) (some .int) oX8_undo (32, [some (.ref 0), some (.int x1)], [], ((hY I F sd)).set 5 (.inl (0, 21, .inl (upd (F 5) x1.toNatClampNeg ((F 7) ((21 * (I 17)) + x1).toNatClampNeg)))))) (pm_EV_gd 0 (d := (31, [some (.ref 0), some (.int x1)], [.int ((F 7) ((21 * (I 17)) + x1).toNatClampNeg), .int x1, .ref 5], (hY I F sd))) (c1 := (32, [some (.ref 0), some (.int x1)], [], ((hY I F sd)).set 5 (.inl (0, 21, .inl (upd (F 5) x1.toNatClampNeg ((F 7) ((21 * (I 17)) + x1).toNatClampNeg)))))) rfl rfl ⟨rfl, g2 p1⟩) ?_
    refine Eq.trans (b := pm_EV (pm_run mt (d + 0)) (some .int) oX8_undo (32, [some (.ref 0), some (.int x1)], [], (hY I (uF F 5 (upd (F 5) x1.toNatClampNeg ((F 7) ((21 * (I 17)) + x1).toNatClampNeg))) sd))) (congrArg (fun hz => pm_EV (pm_run mt (d + 0)) (some .int) oX8_undo (32, [some (.ref 0), some (.int x1)], [], hz)) (hY_s5 I F sd (upd (F 5) x1.toNatClampNeg ((F 7) ((21 * (I 17)) + x1).toNatClampNeg)))) ?_
    exact pm_EV_go 2 (d := (16, [some (.ref 0), some (.int (x1 + 1))], [], (hY I (uF F 5 (upd (F 5) x1.toNatClampNeg ((F 7) ((21 * (I 17)) + x1).toNatClampNeg))) sd))) rfl
  · show pm_EV (pm_run mt (d + 0)) (some .int) oX8_undo (34, [some (.ref 0), some (.int x1)], [], (hY I F sd)) = _
    exact pm_EV_at 2 (d := (36, [some (.ref 0), some (.int x1)], [.int (I 17)], (hY I F sd))) rfl rfl
set_option maxRecDepth 100000 in
set_option maxHeartbeats 4000000 in
theorem en_X8_undo_0 (d : Nat) (I : Nat → Int32) (F : Nat → Nat → Int32) (sd : Int64) : pm_run mt (d + 1) 145 [.ref 0] (hY I F sd) = pm_EV (pm_run mt (d + 0)) (some .int) oX8_undo (0, [some (.ref 0), none], [], (hY I F sd)) := rfl
set_option maxRecDepth 100000 in
set_option maxHeartbeats 4000000 in
theorem sp_X8_undo_0 (d : Nat) (I : Nat → Int32) (F : Nat → Nat → Int32) (sd : Int64) (h1 : inr (I 17) 15 = true) : pm_run mt (d + 1) 145 [.ref 0] (hY I F sd) = some (some (.int (unA (I 17))), (hY (upd (upd I 0 0) 17 (unS (I 17))) (uF F 5 (un5 (F 7) (F 5) (I 17))) sd)) := by
  obtain ⟨a, ha, e⟩ := inr_nI (n := 15) (by decide) h1
  rw [en_X8_undo_0, tr_X8_undo_0_0]
  unfold unA unS un5
  by_cases c : I 17 = 0
  · simp only [c, if_true]
    have h9 := upd_c0 I 17 (by decide)
    rw [c] at h9
    rw [uF_self, h9]
  · simp only [c, if_false]
    have ha0 : 0 < a := by
      rcases Nat.eq_zero_or_pos a with z | z
      · exact absurd (by rw [e, z]; rfl) c
      · exact z
    obtain ⟨b, rfl⟩ : ∃ b, a = b + 1 := ⟨a - 1, by omega⟩
    rw [e, nI_pred]
    have key : ∀ (m k : Nat), k + m = 21 → pm_EV (pm_run mt (d + 0)) (some .int) oX8_undo (16, [some (.ref 0), some (.int (nI k))], [], hY (upd (upd I 0 0) 17 (nI b)) (uF F 5 (va_cpy (F 7) (F 5) (21 * b) 0 k)) sd) = some (some (.int (nI b)), hY (upd (upd I 0 0) 17 (nI b)) (uF F 5 (va_cpy (F 7) (F 5) (21 * b) 0 21)) sd) := by
      intro m
      induction m with
      | zero =>
        intro k hk
        obtain rfl : k = 21 := by omega
        rw [tr_X8_undo_0_16 _ _ _ _ _ (fun h => absurd h (by decide)) (fun h => absurd h (by decide)), if_neg (by decide), upd_at]
      | succ m ih =>
        intro k hk
        rw [tr_X8_undo_0_16 _ _ _ _ _ (fun h => by rw [upd_at, ix21 (by omega) (by omega)]; exact pm_in_nI (by omega) (by decide)) (fun h => pm_in_nI (by omega) (by decide)), if_pos (by rw [show (21 : Int32) = nI 21 from rfl, nI_ltI (by omega) (by decide)]; omega), upd_at, ix21 (by omega) (by omega), nI_clamp (by omega), nI_clamp (by omega), nI_p1, uF_uF, uF_at, uF_ne _ _ (by decide), cpy_E]
        exact ih (k + 1) (by omega)
    have h2 := key 21 0 rfl
    rw [cpy_n0, uF_self] at h2
    refine h2.trans ?_
    rw [show (21 : Int32) = nI 21 from rfl, pk_mul, nI_clamp (by omega)]
def kpA (k v : Int32) : Int32 := if inr k 2 = false then -1 else v
def kp9 (k : Int32) (g : Nat → Int32) : Nat → Int32 := if inr k 2 = false then g else upd g k.toNatClampNeg (vp_nar .boolean 1)
def kp8 (k : Int32) (p g : Nat → Int32) : Nat → Int32 := if inr k 2 = false then g else va_cpy p g 0 (21 * k).toNatClampNeg 21
def ag5 (k : Int32) (h p g : Nat → Int32) : Nat → Int32 := if inr k 2 = false then p else if h k.toNatClampNeg = 0 then p else va_cpy g p (21 * k).toNatClampNeg 0 21
def agA (k : Int32) (h p g : Nat → Int32) : Int32 := if inr k 2 = false then -1 else if h k.toNatClampNeg = 0 then -3 else va_cpy g p (21 * k).toNatClampNeg 0 21 20
def ag17 (k : Int32) (h : Nat → Int32) (a : Int32) : Int32 := if inr k 2 = false then a else if h k.toNatClampNeg = 0 then a else 0
set_option maxRecDepth 100000 in
set_option maxHeartbeats 4000000 in
theorem tr_X8_keep_0_0 (d : Nat) (I : Nat → Int32) (F : Nat → Nat → Int32) (sd : Int64) (k : Int32) (g1 : (¬ ((bI (lin ((k : Int32).toInt64) 0 1)) = 0)) → pm_in k 2 = true) : pm_EV (pm_run mt (d + 1)) (some .int) oX8_keep (0, [some (.ref 0), some (.int k), none], [], (hY I F sd)) = (if (bI (lin ((k : Int32).toInt64) 0 1)) = 0 then some (some (.int (-1)), (hY (upd I 0 0) F sd)) else pm_EV (pm_run mt (d + 1)) (some .int) oX8_keep (18, [some (.ref 0), some (.int k), some (.int 0)], [], (hY (upd I 0 0) (uF F 9 (upd (F 9) k.toNatClampNeg (vp_nar .boolean 1))) sd))) := by
  refine Eq.trans (b := pm_EV (pm_run mt (d + 1)) (some .int) oX8_keep (8, [some (.ref 0), some (.int k), none], [.int (bI (lin ((k : Int32).toInt64) 0 1))], (hY (upd I 0 0) F sd))) (pm_EV_cl 7 (call := pm_run mt (d + 1)) (d := (7, [some (.ref 0), some (.int k), none], [.long 1, .long 0, .long ((k : Int32).toInt64)], (hY (upd I 0 0) F sd))) (a := 106) (as := [.long ((k : Int32).toInt64), .long 0, .long 1]) (hp := (hY (upd I 0 0) F sd)) (hp2 := (hY (upd I 0 0) F sd)) (i2 := 8) (ls := [some (.ref 0), some (.int k), none]) (rest := []) (r := some (.int (bI (lin ((k : Int32).toInt64) 0 1)))) rfl rfl (sp_X8_in (d + 0) (upd I 0 0) F sd ((k : Int32).toInt64) 0 1 )) ?_
  refine Eq.trans (pm_EV_at 0 (d := (8, [some (.ref 0), some (.int k), none], [.int (bI (lin ((k : Int32).toInt64) 0 1))], (hY (upd I 0 0) F sd))) (x := if (bI (lin ((k : Int32).toInt64) 0 1)) = 0 then .inl (9, [some (.ref 0), some (.int k), none], [], (hY (upd I 0 0) F sd)) else .inl (11, [some (.ref 0), some (.int k), none], [], (hY (upd I 0 0) F sd))) rfl rfl) ?_
  refine pm_rc (fun p1 => ?_) (fun p1 => ?_)
  · show pm_EV (pm_run mt (d + 1)) (some .int) oX8_keep (9, [some (.ref 0), some (.int k), none], [], (hY (upd I 0 0) F sd)) = _
    exact pm_EV_at 1 (d := (10, [some (.ref 0), some (.int k), none], [.int (-1)], (hY (upd I 0 0) F sd))) rfl rfl
  · show pm_EV (pm_run mt (d + 1)) (some .int) oX8_keep (11, [some (.ref 0), some (.int k), none], [], (hY (upd I 0 0) F sd)) = _
    refine Eq.trans (b := pm_EV (pm_run mt (d + 1)) (some .int) oX8_keep (16, [some (.ref 0), some (.int k), none], [], ((hY (upd I 0 0) F sd)).set 9 (.inl (1, 2, .inl (upd (F 9) k.toNatClampNeg (vp_nar .boolean 1)))))) (pm_EV_gd 4 (d := (15, [some (.ref 0), some (.int k), none], [.int 1, .int k, .ref 9], (hY (upd I 0 0) F sd))) (c1 := (16, [some (.ref 0), some (.int k), none], [], ((hY (upd I 0 0) F sd)).set 9 (.inl (1, 2, .inl (upd (F 9) k.toNatClampNeg (vp_nar .boolean 1)))))) rfl rfl ⟨rfl, g1 p1⟩) ?_
    refine Eq.trans (b := pm_EV (pm_run mt (d + 1)) (some .int) oX8_keep (16, [some (.ref 0), some (.int k), none], [], (hY (upd I 0 0) (uF F 9 (upd (F 9) k.toNatClampNeg (vp_nar .boolean 1))) sd))) (congrArg (fun hz => pm_EV (pm_run mt (d + 1)) (some .int) oX8_keep (16, [some (.ref 0), some (.int k), none], [], hz)) (hY_s9 (upd I 0 0) F sd (upd (F 9) k.toNatClampNeg (vp_nar .boolean 1)))) ?_
    exact pm_EV_go 2 (d := (18, [some (.ref 0), some (.int k), some (.int 0)], [], (hY (upd I 0 0) (uF F 9 (upd (F 9) k.toNatClampNeg (vp_nar .boolean 1))) sd))) rfl
set_option maxRecDepth 100000 in
set_option maxHeartbeats 4000000 in
theorem tr_X8_keep_0_18 (d : Nat) (I : Nat → Int32) (F : Nat → Nat → Int32) (sd : Int64) (k : Int32) (x2 : Int32) (g1 : (x2 < 21) → pm_in x2 21 = true) (g2 : (x2 < 21) → pm_in ((21 * k) + x2) 42 = true) : pm_EV (pm_run mt (d + 1)) (some .int) oX8_keep (18, [some (.ref 0), some (.int k), some (.int x2)], [], (hY I F sd)) = (if x2 < 21 then pm_EV (pm_run mt (d + 1)) (some .int) oX8_keep (18, [some (.ref 0), some (.int k), some (.int (x2 + 1))], [], (hY I (uF F 8 (upd (F 8) ((21 * k) + x2).toNatClampNeg ((F 5) x2.toNatClampNeg))) sd)) else some (some (.int ((F 5) 20)), (hY I F sd))) := by
  refine Eq.trans (pm_EV_at 2 (d := (20, [some (.ref 0), some (.int k), some (.int x2)], [.int 21, .int x2], (hY I F sd))) (x := if x2 < 21 then .inl (21, [some (.ref 0), some (.int k), some (.int x2)], [], (hY I F sd)) else .inl (35, [some (.ref 0), some (.int k), some (.int x2)], [], (hY I F sd))) rfl rfl) ?_
  refine pm_rc (fun p1 => ?_) (fun p1 => ?_)
  · show pm_EV (pm_run mt (d + 1)) (some .int) oX8_keep (21, [some (.ref 0), some (.int k), some (.int x2)], [], (hY I F sd)) = _
    refine Eq.trans (b := pm_EV (pm_run mt (d + 1)) (some .int) oX8_keep (32, [some (.ref 0), some (.int k), some (.int x2)], [.int ((F 5) x2.toNatClampNeg), .int ((21 * k) + x2), .ref 8], (hY I F sd))) (pm_EV_gd 10 (d := (31, [some (.ref 0), some (.int k), some (.int x2)], [.int x2, .ref 5, .int ((21 * k) + x2), .ref 8], (hY I F sd))) (c1 := (32, [some (.ref 0), some (.int k), some (.int x2)], [.int ((F 5) x2.toNatClampNeg), .int ((21 * k) + x2), .ref 8], (hY I F sd))) rfl rfl (⟨rfl, g1 p1⟩)) ?_
    refine Eq.trans (b := pm_EV (pm_run mt (d + 1)) (some .int) oX8_keep (33, [some (.ref 0), some (.int k), some (.int x2)], [], ((hY I F sd)).set 8 (.inl (0, 42, .inl (upd (F 8) ((21 * k) + x2).toNatClampNeg ((F 5) x2.toNatClampNeg)))))) (pm_EV_gd 0 (d := (32, [some (.ref 0), some (.int k), some (.int x2)], [.int ((F 5) x2.toNatClampNeg), .int ((21 * k) + x2), .ref 8], (hY I F sd))) (c1 := (33, [some (.ref 0), some (.int k), some (.int x2)], [], ((hY I F sd)).set 8 (.inl (0, 42, .inl (upd (F 8) ((21 * k) + x2).toNatClampNeg ((F 5) x2.toNatClampNeg)))))) rfl rfl ⟨rfl, g2 p1⟩) ?_
    refine Eq.trans (b := pm_EV (pm_run mt (d + 1)) (some .int) oX8_keep (33, [some (.ref 0), some (.int k), some (.int x2)], [], (hY I (uF F 8 (upd (F 8) ((21 * k) + x2).toNatClampNeg ((F 5) x2.toNatClampNeg))) sd))) (congrArg (fun hz => pm_EV (pm_run mt (d + 1)) (some .int) oX8_keep (33, [some (.ref 0), some (.int k), some (.int x2)], [], hz)) (hY_s8 I F sd (upd (F 8) ((21 * k) + x2).toNatClampNeg ((F 5) x2.toNatClampNeg)))) ?_
    exact pm_EV_go 2 (d := (18, [some (.ref 0), some (.int k), some (.int (x2 + 1))], [], (hY I (uF F 8 (upd (F 8) ((21 * k) + x2).toNatClampNeg ((F 5) x2.toNatClampNeg))) sd))) rfl
  · show pm_EV (pm_run mt (d + 1)) (some .int) oX8_keep (35, [some (.ref 0), some (.int k), some (.int x2)], [], (hY I F sd)) = _
    exact pm_EV_at 4 (d := (39, [some (.ref 0), some (.int k), some (.int x2)], [.int ((F 5) 20)], (hY I F sd))) rfl rfl
set_option maxRecDepth 100000 in
set_option maxHeartbeats 4000000 in
theorem en_X8_keep_0 (d : Nat) (I : Nat → Int32) (F : Nat → Nat → Int32) (sd : Int64) (k : Int32) : pm_run mt (d + 2) 166 [.ref 0, .int k] (hY I F sd) = pm_EV (pm_run mt (d + 1)) (some .int) oX8_keep (0, [some (.ref 0), some (.int k), none], [], (hY I F sd)) := rfl
set_option maxRecDepth 100000 in
set_option maxHeartbeats 4000000 in
theorem sp_X8_keep_0 (d : Nat) (I : Nat → Int32) (F : Nat → Nat → Int32) (sd : Int64) (k : Int32) : pm_run mt (d + 2) 166 [.ref 0, .int k] (hY I F sd) = some (some (.int (kpA k (F 5 20))), (hY (upd I 0 0) (uF (uF F 8 (kp8 k (F 5) (F 8))) 9 (kp9 k (F 9))) sd)) := by
  rw [en_X8_keep_0, tr_X8_keep_0_0 _ _ _ _ _ (fun h => by rw [lin01] at h; exact in_nn (n := 2) (by decide) (bI_t h)), lin01]
  simp only [bI_0]
  unfold kpA kp9 kp8
  cases c : inr k 2
  · simp only [if_true]
    rw [uF_self, uF_self]
  · simp only [Bool.true_eq_false, if_false]
    obtain ⟨z, hz, rfl⟩ := inr_nI (n := 2) (by decide) c
    have key : ∀ (G : Nat → Nat → Int32) (m j : Nat), j + m = 21 → pm_EV (pm_run mt (d + 1)) (some .int) oX8_keep (18, [some (.ref 0), some (.int (nI z)), some (.int (nI j))], [], hY (upd I 0 0) (uF G 8 (va_cpy (G 5) (G 8) 0 (21 * z) j)) sd) = some (some (.int (G 5 20)), hY (upd I 0 0) (uF G 8 (va_cpy (G 5) (G 8) 0 (21 * z) 21)) sd) := by
      intro G m
      induction m with
      | zero =>
        intro j hj
        obtain rfl : j = 21 := by omega
        rw [tr_X8_keep_0_18 _ _ _ _ _ _ (fun h => absurd h (by decide)) (fun h => absurd h (by decide)), if_neg (by decide), uF_ne _ _ (by decide)]
      | succ m ih =>
        intro j hj
        rw [tr_X8_keep_0_18 _ _ _ _ _ _ (fun h => pm_in_nI (by omega) (by decide)) (fun h => by rw [ix21 (by omega) (by omega)]; exact pm_in_nI (by omega) (by decide)), if_pos (by rw [show (21 : Int32) = nI 21 from rfl, nI_ltI (by omega) (by decide)]; omega), ix21 (by omega) (by omega), nI_clamp (by omega), nI_clamp (by omega), nI_p1, uF_uF, uF_at, uF_ne _ _ (by decide), cpy_D]
        exact ih (j + 1) (by omega)
    have h2 := key (uF F 9 (upd (F 9) (nI z).toNatClampNeg (vp_nar .boolean 1))) 21 0 rfl
    rw [cpy_n0, uF_self, uF_ne _ _ (show (5 : Nat) ≠ 9 by decide), uF_ne _ _ (show (8 : Nat) ≠ 9 by decide)] at h2
    refine h2.trans ?_
    rw [show (21 : Int32) * nI z = nI (21 * z) by rw [show (21 : Int32) = nI 21 from rfl, pk_mul], nI_clamp (show 21 * z < 2 ^ 31 by omega)]
    congr 3
    funext j
    unfold uF
    by_cases h8 : j = 8
    · subst h8; rfl
    · by_cases h9 : j = 9
      · subst h9; rfl
      · simp only [h8, h9, if_false]
set_option maxRecDepth 100000 in
set_option maxHeartbeats 4000000 in
theorem tr_X8_again_0_0 (d : Nat) (I : Nat → Int32) (F : Nat → Nat → Int32) (sd : Int64) (k : Int32) (g1 : (¬ ((bI (lin ((k : Int32).toInt64) 0 1)) = 0)) → pm_in k 2 = true) : pm_EV (pm_run mt (d + 1)) (some .int) oX8_again (0, [some (.ref 0), some (.int k), none], [], (hY I F sd)) = (if (bI (lin ((k : Int32).toInt64) 0 1)) = 0 then some (some (.int (-1)), (hY (upd I 0 0) F sd)) else (if ((F 9) k.toNatClampNeg) = 0 then some (some (.int (-3)), (hY (upd I 0 0) F sd)) else pm_EV (pm_run mt (d + 1)) (some .int) oX8_again (20, [some (.ref 0), some (.int k), some (.int 0)], [], (hY (upd I 0 0) F sd)))) := by
  refine Eq.trans (b := pm_EV (pm_run mt (d + 1)) (some .int) oX8_again (8, [some (.ref 0), some (.int k), none], [.int (bI (lin ((k : Int32).toInt64) 0 1))], (hY (upd I 0 0) F sd))) (pm_EV_cl 7 (call := pm_run mt (d + 1)) (d := (7, [some (.ref 0), some (.int k), none], [.long 1, .long 0, .long ((k : Int32).toInt64)], (hY (upd I 0 0) F sd))) (a := 106) (as := [.long ((k : Int32).toInt64), .long 0, .long 1]) (hp := (hY (upd I 0 0) F sd)) (hp2 := (hY (upd I 0 0) F sd)) (i2 := 8) (ls := [some (.ref 0), some (.int k), none]) (rest := []) (r := some (.int (bI (lin ((k : Int32).toInt64) 0 1)))) rfl rfl (sp_X8_in (d + 0) (upd I 0 0) F sd ((k : Int32).toInt64) 0 1 )) ?_
  refine Eq.trans (pm_EV_at 0 (d := (8, [some (.ref 0), some (.int k), none], [.int (bI (lin ((k : Int32).toInt64) 0 1))], (hY (upd I 0 0) F sd))) (x := if (bI (lin ((k : Int32).toInt64) 0 1)) = 0 then .inl (9, [some (.ref 0), some (.int k), none], [], (hY (upd I 0 0) F sd)) else .inl (11, [some (.ref 0), some (.int k), none], [], (hY (upd I 0 0) F sd))) rfl rfl) ?_
  refine pm_rc (fun p1 => ?_) (fun p1 => ?_)
  · show pm_EV (pm_run mt (d + 1)) (some .int) oX8_again (9, [some (.ref 0), some (.int k), none], [], (hY (upd I 0 0) F sd)) = _
    exact pm_EV_at 1 (d := (10, [some (.ref 0), some (.int k), none], [.int (-1)], (hY (upd I 0 0) F sd))) rfl rfl
  · show pm_EV (pm_run mt (d + 1)) (some .int) oX8_again (11, [some (.ref 0), some (.int k), none], [], (hY (upd I 0 0) F sd)) = _
    refine Eq.trans (b := pm_EV (pm_run mt (d + 1)) (some .int) oX8_again (15, [some (.ref 0), some (.int k), none], [.int ((F 9) k.toNatClampNeg)], (hY (upd I 0 0) F sd))) (pm_EV_gd 3 (d := (14, [some (.ref 0), some (.int k), none], [.int k, .ref 9], (hY (upd I 0 0) F sd))) (c1 := (15, [some (.ref 0), some (.int k), none], [.int ((F 9) k.toNatClampNeg)], (hY (upd I 0 0) F sd))) rfl rfl (⟨rfl, g1 p1⟩)) ?_
    refine Eq.trans (pm_EV_at 0 (d := (15, [some (.ref 0), some (.int k), none], [.int ((F 9) k.toNatClampNeg)], (hY (upd I 0 0) F sd))) (x := if ((F 9) k.toNatClampNeg) = 0 then .inl (16, [some (.ref 0), some (.int k), none], [], (hY (upd I 0 0) F sd)) else .inl (18, [some (.ref 0), some (.int k), none], [], (hY (upd I 0 0) F sd))) rfl rfl) ?_
    refine pm_rc (fun p2 => ?_) (fun p2 => ?_)
    · show pm_EV (pm_run mt (d + 1)) (some .int) oX8_again (16, [some (.ref 0), some (.int k), none], [], (hY (upd I 0 0) F sd)) = _
      exact pm_EV_at 1 (d := (17, [some (.ref 0), some (.int k), none], [.int (-3)], (hY (upd I 0 0) F sd))) rfl rfl
    · show pm_EV (pm_run mt (d + 1)) (some .int) oX8_again (18, [some (.ref 0), some (.int k), none], [], (hY (upd I 0 0) F sd)) = _
      exact pm_EV_go 2 (d := (20, [some (.ref 0), some (.int k), some (.int 0)], [], (hY (upd I 0 0) F sd))) rfl
set_option maxRecDepth 100000 in
set_option maxHeartbeats 4000000 in
theorem tr_X8_again_0_20 (d : Nat) (I : Nat → Int32) (F : Nat → Nat → Int32) (sd : Int64) (k : Int32) (x2 : Int32) (g1 : (x2 < 21) → pm_in ((21 * k) + x2) 42 = true) (g2 : (x2 < 21) → pm_in x2 21 = true) : pm_EV (pm_run mt (d + 1)) (some .int) oX8_again (20, [some (.ref 0), some (.int k), some (.int x2)], [], (hY I F sd)) = (if x2 < 21 then pm_EV (pm_run mt (d + 1)) (some .int) oX8_again (20, [some (.ref 0), some (.int k), some (.int (x2 + 1))], [], (hY I (uF F 5 (upd (F 5) x2.toNatClampNeg ((F 8) ((21 * k) + x2).toNatClampNeg))) sd)) else some (some (.int ((F 5) 20)), (hY (upd I 17 0) F sd))) := by
  refine Eq.trans (pm_EV_at 2 (d := (22, [some (.ref 0), some (.int k), some (.int x2)], [.int 21, .int x2], (hY I F sd))) (x := if x2 < 21 then .inl (23, [some (.ref 0), some (.int k), some (.int x2)], [], (hY I F sd)) else .inl (37, [some (.ref 0), some (.int k), some (.int x2)], [], (hY I F sd))) rfl rfl) ?_
  refine pm_rc (fun p1 => ?_) (fun p1 => ?_)
  · show pm_EV (pm_run mt (d + 1)) (some .int) oX8_again (23, [some (.ref 0), some (.int k), some (.int x2)], [], (hY I F sd)) = _
    refine Eq.trans (b := pm_EV (pm_run mt (d + 1)) (some .int) oX8_again (34, [some (.ref 0), some (.int k), some (.int x2)], [.int ((F 8) ((21 * k) + x2).toNatClampNeg), .int x2, .ref 5], (hY I F sd))) (pm_EV_gd 10 (d := (33, [some (.ref 0), some (.int k), some (.int x2)], [.int ((21 * k) + x2), .ref 8, .int x2, .ref 5], (hY I F sd))) (c1 := (34, [some (.ref 0), some (.int k), some (.int x2)], [.int ((F 8) ((21 * k) + x2).toNatClampNeg), .int x2, .ref 5], (hY I F sd))) rfl rfl (⟨rfl, g1 p1⟩)) ?_
    refine Eq.trans (b := pm_EV (pm_run mt (d + 1)) (some .int) oX8_again (35, [some (.ref 0), some (.int k), some (.int x2)], [], ((hY I F sd)).set 5 (.inl (0, 21, .inl (upd (F 5) x2.toNatClampNeg ((F 8) ((21 * k) + x2).toNatClampNeg)))))) (pm_EV_gd 0 (d := (34, [some (.ref 0), some (.int k), some (.int x2)], [.int ((F 8) ((21 * k) + x2).toNatClampNeg), .int x2, .ref 5], (hY I F sd))) (c1 := (35, [some (.ref 0), some (.int k), some (.int x2)], [], ((hY I F sd)).set 5 (.inl (0, 21, .inl (upd (F 5) x2.toNatClampNeg ((F 8) ((21 * k) + x2).toNatClampNeg)))))) rfl rfl ⟨rfl, g2 p1⟩) ?_
    refine Eq.trans (b := pm_EV (pm_run mt (d + 1)) (some .int) oX8_again (35, [some (.ref 0), some (.int k), some (.int x2)], [], (hY I (uF F 5 (upd (F 5) x2.toNatClampNeg ((F 8) ((21 * k) + x2).toNatClampNeg))) sd))) (congrArg (fun hz => pm_EV (pm_run mt (d + 1)) (some .int) oX8_again (35, [some (.ref 0), some (.int k), some (.int x2)], [], hz)) (hY_s5 I F sd (upd (F 5) x2.toNatClampNeg ((F 8) ((21 * k) + x2).toNatClampNeg)))) ?_
    exact pm_EV_go 2 (d := (20, [some (.ref 0), some (.int k), some (.int (x2 + 1))], [], (hY I (uF F 5 (upd (F 5) x2.toNatClampNeg ((F 8) ((21 * k) + x2).toNatClampNeg))) sd))) rfl
  · show pm_EV (pm_run mt (d + 1)) (some .int) oX8_again (37, [some (.ref 0), some (.int k), some (.int x2)], [], (hY I F sd)) = _
    exact pm_EV_at 7 (d := (44, [some (.ref 0), some (.int k), some (.int x2)], [.int ((F 5) 20)], (hY (upd I 17 0) F sd))) rfl rfl
set_option maxRecDepth 100000 in
set_option maxHeartbeats 4000000 in
theorem en_X8_again_0 (d : Nat) (I : Nat → Int32) (F : Nat → Nat → Int32) (sd : Int64) (k : Int32) : pm_run mt (d + 2) 167 [.ref 0, .int k] (hY I F sd) = pm_EV (pm_run mt (d + 1)) (some .int) oX8_again (0, [some (.ref 0), some (.int k), none], [], (hY I F sd)) := rfl
set_option maxRecDepth 100000 in
set_option maxHeartbeats 4000000 in
theorem sp_X8_again_0 (d : Nat) (I : Nat → Int32) (F : Nat → Nat → Int32) (sd : Int64) (k : Int32) : pm_run mt (d + 2) 167 [.ref 0, .int k] (hY I F sd) = some (some (.int (agA k (F 9) (F 5) (F 8))), (hY (upd (upd I 0 0) 17 (ag17 k (F 9) (I 17))) (uF F 5 (ag5 k (F 9) (F 5) (F 8))) sd)) := by
  rw [en_X8_again_0, tr_X8_again_0_0 _ _ _ _ _ (fun h => by rw [lin01] at h; exact in_nn (n := 2) (by decide) (bI_t h)), lin01]
  simp only [bI_0]
  unfold agA ag17 ag5
  cases c : inr k 2
  · simp only [if_true]
    rw [uF_self, upd_c0 _ _ (by decide)]
  · simp only [Bool.true_eq_false, if_false]
    by_cases c2 : F 9 k.toNatClampNeg = 0
    · simp only [c2, if_true]
      rw [uF_self, upd_c0 _ _ (by decide)]
    · simp only [c2, if_false]
      obtain ⟨z, hz, rfl⟩ := inr_nI (n := 2) (by decide) c
      have key : ∀ (m j : Nat), j + m = 21 → pm_EV (pm_run mt (d + 1)) (some .int) oX8_again (20, [some (.ref 0), some (.int (nI z)), some (.int (nI j))], [], hY (upd I 0 0) (uF F 5 (va_cpy (F 8) (F 5) (21 * z) 0 j)) sd) = some (some (.int (va_cpy (F 8) (F 5) (21 * z) 0 21 20)), hY (upd (upd I 0 0) 17 0) (uF F 5 (va_cpy (F 8) (F 5) (21 * z) 0 21)) sd) := by
        intro m
        induction m with
        | zero =>
          intro j hj
          obtain rfl : j = 21 := by omega
          rw [tr_X8_again_0_20 _ _ _ _ _ _ (fun h => absurd h (by decide)) (fun h => absurd h (by decide)), if_neg (by decide), uF_at]
        | succ m ih =>
          intro j hj
          rw [tr_X8_again_0_20 _ _ _ _ _ _ (fun h => by rw [ix21 (by omega) (by omega)]; exact pm_in_nI (by omega) (by decide)) (fun h => pm_in_nI (by omega) (by decide)), if_pos (by rw [show (21 : Int32) = nI 21 from rfl, nI_ltI (by omega) (by decide)]; omega), ix21 (by omega) (by omega), nI_clamp (by omega), nI_clamp (by omega), nI_p1, uF_uF, uF_at, uF_ne _ _ (by decide), cpy_E]
          exact ih (j + 1) (by omega)
      have h2 := key 21 0 rfl
      rw [cpy_n0, uF_self] at h2
      refine h2.trans ?_
      rw [show (21 : Int32) * nI z = nI (21 * z) by rw [show (21 : Int32) = nI 21 from rfl, pk_mul], nI_clamp (show 21 * z < 2 ^ 31 by omega)]
