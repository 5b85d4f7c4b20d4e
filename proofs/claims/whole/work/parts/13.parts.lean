/-! the class: past, slots, said, rests, least, fractions -/
def pnext (a b : Int32) : Int32 := (a + b) - (a + b) / 15 * 15
set_option maxRecDepth 100000 in
set_option maxHeartbeats 4000000 in
theorem tr_X2_size_7_0 (d : Nat) (I : Nat → Int32) (F : Nat → Nat → Int32) (sd : Int64) : pm_EV (pm_run mt (d + 0)) (some .int) oX2_size (0, [some (.ref 7)], [], (hX I F sd)) = some (some (.int (I 2)), (hX I F sd)) := by
  exact pm_EV_at 2 (d := (2, [some (.ref 7)], [.int (I 2)], (hX I F sd))) rfl rfl
set_option maxRecDepth 100000 in
set_option maxHeartbeats 4000000 in
theorem en_X2_size_7 (d : Nat) (I : Nat → Int32) (F : Nat → Nat → Int32) (sd : Int64) : pm_run mt (d + 1) 41 [.ref 7] (hX I F sd) = pm_EV (pm_run mt (d + 0)) (some .int) oX2_size (0, [some (.ref 7)], [], (hX I F sd)) := rfl
set_option maxRecDepth 100000 in
set_option maxHeartbeats 4000000 in
theorem sp_X2_size_7 (d : Nat) (I : Nat → Int32) (F : Nat → Nat → Int32) (sd : Int64) : pm_run mt (d + 1) 41 [.ref 7] (hX I F sd) = some (some (.int (I 2)), (hX I F sd)) := by
  rw [en_X2_size_7, tr_X2_size_7_0]
set_option maxRecDepth 100000 in
set_option maxHeartbeats 4000000 in
theorem tr_X2_forget_7_0 (d : Nat) (I : Nat → Int32) (F : Nat → Nat → Int32) (sd : Int64) : pm_EV (pm_run mt (d + 0)) none oX2_forget (0, [some (.ref 7)], [], (hX I F sd)) = some (none, (hX (upd I 2 0) F sd)) := by
  exact pm_EV_at 3 (d := (3, [some (.ref 7)], [], (hX (upd I 2 0) F sd))) rfl rfl
set_option maxRecDepth 100000 in
set_option maxHeartbeats 4000000 in
theorem en_X2_forget_7 (d : Nat) (I : Nat → Int32) (F : Nat → Nat → Int32) (sd : Int64) : pm_run mt (d + 1) 42 [.ref 7] (hX I F sd) = pm_EV (pm_run mt (d + 0)) none oX2_forget (0, [some (.ref 7)], [], (hX I F sd)) := rfl
set_option maxRecDepth 100000 in
set_option maxHeartbeats 4000000 in
theorem sp_X2_forget_7 (d : Nat) (I : Nat → Int32) (F : Nat → Nat → Int32) (sd : Int64) : pm_run mt (d + 1) 42 [.ref 7] (hX I F sd) = some (none, (hX (upd I 2 0) F sd)) := by
  rw [en_X2_forget_7, tr_X2_forget_7_0]
set_option maxRecDepth 100000 in
set_option maxHeartbeats 4000000 in
theorem tr_X2_next_7_0 (d : Nat) (I : Nat → Int32) (F : Nat → Nat → Int32) (sd : Int64) : pm_EV (pm_run mt (d + 0)) (some .int) oX2_next (0, [some (.ref 7)], [], (hX I F sd)) = some (some (.int (((I 1) + (I 2)) - ((I 1) + (I 2)) / 15 * 15)), (hX I F sd)) := by
  exact pm_EV_at 7 (d := (7, [some (.ref 7)], [.int (((I 1) + (I 2)) - ((I 1) + (I 2)) / 15 * 15)], (hX I F sd))) rfl rfl
set_option maxRecDepth 100000 in
set_option maxHeartbeats 4000000 in
theorem en_X2_next_7 (d : Nat) (I : Nat → Int32) (F : Nat → Nat → Int32) (sd : Int64) : pm_run mt (d + 1) 43 [.ref 7] (hX I F sd) = pm_EV (pm_run mt (d + 0)) (some .int) oX2_next (0, [some (.ref 7)], [], (hX I F sd)) := rfl
set_option maxRecDepth 100000 in
set_option maxHeartbeats 4000000 in
theorem sp_X2_next_7 (d : Nat) (I : Nat → Int32) (F : Nat → Nat → Int32) (sd : Int64) : pm_run mt (d + 1) 43 [.ref 7] (hX I F sd) = some (some (.int (pnext (I 1) (I 2))), (hX I F sd)) := by
  rw [en_X2_next_7, tr_X2_next_7_0]
  rfl
set_option maxRecDepth 100000 in
set_option maxHeartbeats 4000000 in
theorem tr_X2_note_7_3_0 (d : Nat) (I : Nat → Int32) (F : Nat → Nat → Int32) (sd : Int64) : pm_EV (pm_run mt (d + 1)) none oX2_note (0, [some (.ref 7), some (.ref 3)], [], (hX I F sd)) = some (none, (hX I (uF F 8 (hsto ((F 4)) ((F 8)) 15 (pnext ((I 1)) ((I 2))))) sd)) := by
  refine Eq.trans (b := pm_EV (pm_run mt (d + 1)) none oX2_note (5, [some (.ref 7), some (.ref 3)], [.int (pnext ((I 1)) ((I 2))), .ref 8, .ref 3], (hX I F sd))) (pm_EV_cl 4 (call := pm_run mt (d + 1)) (d := (4, [some (.ref 7), some (.ref 3)], [.ref 7, .ref 8, .ref 3], (hX I F sd))) (a := 43) (as := [.ref 7]) (hp := (hX I F sd)) (hp2 := (hX I F sd)) (i2 := 5) (ls := [some (.ref 7), some (.ref 3)]) (rest := [.ref 8, .ref 3]) (r := some (.int (pnext ((I 1)) ((I 2))))) rfl rfl (sp_X2_next_7 (d + 0) I F sd  )) ?_
  refine Eq.trans (b := pm_EV (pm_run mt (d + 1)) none oX2_note (6, [some (.ref 7), some (.ref 3)], [], (hX I (uF F 8 (hsto ((F 4)) ((F 8)) 15 (pnext ((I 1)) ((I 2))))) sd))) (pm_EV_cl 0 (call := pm_run mt (d + 1)) (d := (5, [some (.ref 7), some (.ref 3)], [.int (pnext ((I 1)) ((I 2))), .ref 8, .ref 3], (hX I F sd))) (a := 4) (as := [.ref 3, .ref 8, .int (pnext ((I 1)) ((I 2)))]) (hp := (hX I F sd)) (hp2 := (hX I (uF F 8 (hsto ((F 4)) ((F 8)) 15 (pnext ((I 1)) ((I 2))))) sd)) (i2 := 6) (ls := [some (.ref 7), some (.ref 3)]) (rest := []) (r := none) rfl rfl (sp_X0_storeIn_3_8 (d + 0) I F sd (pnext ((I 1)) ((I 2))) )) ?_
  exact pm_EV_at 0 (d := (6, [some (.ref 7), some (.ref 3)], [], (hX I (uF F 8 (hsto ((F 4)) ((F 8)) 15 (pnext ((I 1)) ((I 2))))) sd))) rfl rfl
set_option maxRecDepth 100000 in
set_option maxHeartbeats 4000000 in
theorem en_X2_note_7_3 (d : Nat) (I : Nat → Int32) (F : Nat → Nat → Int32) (sd : Int64) : pm_run mt (d + 2) 44 [.ref 7, .ref 3] (hX I F sd) = pm_EV (pm_run mt (d + 1)) none oX2_note (0, [some (.ref 7), some (.ref 3)], [], (hX I F sd)) := rfl
set_option maxRecDepth 100000 in
set_option maxHeartbeats 4000000 in
theorem sp_X2_note_7_3 (d : Nat) (I : Nat → Int32) (F : Nat → Nat → Int32) (sd : Int64) : pm_run mt (d + 2) 44 [.ref 7, .ref 3] (hX I F sd) = some (none, (hX I (uF F 8 (hsto (F 4) (F 8) 15 (pnext (I 1) (I 2)))) sd)) := by
  rw [en_X2_note_7_3, tr_X2_note_7_3_0]
def pst1 (a f s : Int32) : Int32 := if a < 0 then f else if s < 14 then f else (f + 1) - (f + 1) / 15 * 15
def pst2 (a s : Int32) : Int32 := if a < 0 then s else if s < 14 then s + 1 else s
theorem upd_sw (I : Nat → Int32) {i j : Nat} (h : i ≠ j) (x y : Int32) : upd (upd I i x) j y = upd (upd I j y) i x := by
  funext k
  unfold upd
  by_cases h1 : k = i
  · subst h1; rw [if_neg h, if_pos rfl, if_pos rfl]
  · rw [if_neg h1, if_neg h1]
theorem upd_up (I : Nat → Int32) (i : Nat) (x y : Int32) : upd (upd I i x) i y = upd I i y := by
  funext k
  unfold upd
  by_cases h1 : k = i
  · rw [if_pos h1, if_pos h1]
  · rw [if_neg h1, if_neg h1, if_neg h1]
theorem upd_at (I : Nat → Int32) (i : Nat) (x : Int32) : upd I i x i = x := if_pos rfl
theorem upd_ne (I : Nat → Int32) {i j : Nat} (x : Int32) (h : j ≠ i) : upd I i x j = I j := if_neg h
set_option maxRecDepth 100000 in
set_option maxHeartbeats 4000000 in
theorem tr_X2_settle_7_0 (d : Nat) (I : Nat → Int32) (F : Nat → Nat → Int32) (sd : Int64) (a : Int32) : pm_EV (pm_run mt (d + 0)) (some .int) oX2_settle (0, [some (.ref 7), some (.int a)], [], (hX I F sd)) = (if a < 0 then (if a < 0 then some (some (.int a), (hX I F sd)) else some (some (.int a), (hX (upd I 1 (((I 1) + 1) - ((I 1) + 1) / 15 * 15)) F sd))) else (if (I 2) < 14 then some (some (.int a), (hX (upd I 2 ((I 2) + 1)) F sd)) else (if a < 0 then some (some (.int a), (hX I F sd)) else some (some (.int a), (hX (upd I 1 (((I 1) + 1) - ((I 1) + 1) / 15 * 15)) F sd))))) := by
  refine Eq.trans (pm_EV_at 1 (d := (1, [some (.ref 7), some (.int a)], [.int a], (hX I F sd))) (x := if a < 0 then .inl (13, [some (.ref 7), some (.int a)], [], (hX I F sd)) else .inl (2, [some (.ref 7), some (.int a)], [], (hX I F sd))) rfl rfl) ?_
  refine pm_rc (fun p1 => ?_) (fun p1 => ?_)
  · show pm_EV (pm_run mt (d + 0)) (some .int) oX2_settle (13, [some (.ref 7), some (.int a)], [], (hX I F sd)) = _
    refine Eq.trans (pm_EV_at 1 (d := (14, [some (.ref 7), some (.int a)], [.int a], (hX I F sd))) (x := if a < 0 then .inl (23, [some (.ref 7), some (.int a)], [], (hX I F sd)) else .inl (15, [some (.ref 7), some (.int a)], [], (hX I F sd))) rfl rfl) ?_
    refine pm_rc (fun p2 => ?_) (fun p2 => ?_)
    · show pm_EV (pm_run mt (d + 0)) (some .int) oX2_settle (23, [some (.ref 7), some (.int a)], [], (hX I F sd)) = _
      exact pm_EV_at 1 (d := (24, [some (.ref 7), some (.int a)], [.int a], (hX I F sd))) rfl rfl
    · show pm_EV (pm_run mt (d + 0)) (some .int) oX2_settle (15, [some (.ref 7), some (.int a)], [], (hX I F sd)) = _
      exact pm_EV_at 9 (d := (24, [some (.ref 7), some (.int a)], [.int a], (hX (upd I 1 (((I 1) + 1) - ((I 1) + 1) / 15 * 15)) F sd))) rfl rfl
  · show pm_EV (pm_run mt (d + 0)) (some .int) oX2_settle (2, [some (.ref 7), some (.int a)], [], (hX I F sd)) = _
    refine Eq.trans (pm_EV_at 3 (d := (5, [some (.ref 7), some (.int a)], [.int 14, .int (I 2)], (hX I F sd))) (x := if (I 2) < 14 then .inl (6, [some (.ref 7), some (.int a)], [], (hX I F sd)) else .inl (13, [some (.ref 7), some (.int a)], [], (hX I F sd))) rfl rfl) ?_
    refine pm_rc (fun p2 => ?_) (fun p2 => ?_)
    · show pm_EV (pm_run mt (d + 0)) (some .int) oX2_settle (6, [some (.ref 7), some (.int a)], [], (hX I F sd)) = _
      exact pm_EV_at 8 (d := (24, [some (.ref 7), some (.int a)], [.int a], (hX (upd I 2 ((I 2) + 1)) F sd))) rfl rfl
    · show pm_EV (pm_run mt (d + 0)) (some .int) oX2_settle (13, [some (.ref 7), some (.int a)], [], (hX I F sd)) = _
      refine Eq.trans (pm_EV_at 1 (d := (14, [some (.ref 7), some (.int a)], [.int a], (hX I F sd))) (x := if a < 0 then .inl (23, [some (.ref 7), some (.int a)], [], (hX I F sd)) else .inl (15, [some (.ref 7), some (.int a)], [], (hX I F sd))) rfl rfl) ?_
      refine pm_rc (fun p3 => ?_) (fun p3 => ?_)
      · show pm_EV (pm_run mt (d + 0)) (some .int) oX2_settle (23, [some (.ref 7), some (.int a)], [], (hX I F sd)) = _
        exact pm_EV_at 1 (d := (24, [some (.ref 7), some (.int a)], [.int a], (hX I F sd))) rfl rfl
      · show pm_EV (pm_run mt (d + 0)) (some .int) oX2_settle (15, [some (.ref 7), some (.int a)], [], (hX I F sd)) = _
        exact pm_EV_at 9 (d := (24, [some (.ref 7), some (.int a)], [.int a], (hX (upd I 1 (((I 1) + 1) - ((I 1) + 1) / 15 * 15)) F sd))) rfl rfl
set_option maxRecDepth 100000 in
set_option maxHeartbeats 4000000 in
theorem en_X2_settle_7 (d : Nat) (I : Nat → Int32) (F : Nat → Nat → Int32) (sd : Int64) (a : Int32) : pm_run mt (d + 1) 45 [.ref 7, .int a] (hX I F sd) = pm_EV (pm_run mt (d + 0)) (some .int) oX2_settle (0, [some (.ref 7), some (.int a)], [], (hX I F sd)) := rfl
set_option maxRecDepth 100000 in
set_option maxHeartbeats 4000000 in
theorem sp_X2_settle_7 (d : Nat) (I : Nat → Int32) (F : Nat → Nat → Int32) (sd : Int64) (a : Int32) : pm_run mt (d + 1) 45 [.ref 7, .int a] (hX I F sd) = some (some (.int a), (hX (upd (upd I 1 (pst1 a (I 1) (I 2))) 2 (pst2 a (I 2))) F sd)) := by
  rw [en_X2_settle_7, tr_X2_settle_7_0]
  unfold pst1 pst2
  by_cases e1 : a < 0
  · simp only [e1, if_true, upd_self]
  · by_cases e2 : I 2 < 14
    · simp only [e1, e2, if_true, if_false, upd_self]
    · simp only [e1, e2, if_false]
      rw [show upd (upd I 1 ((I 1 + 1) - (I 1 + 1) / 15 * 15)) 2 (I 2) = upd I 1 ((I 1 + 1) - (I 1 + 1) / 15 * 15) by rw [upd_sw _ (by decide), upd_self]]
def ptbA (s : Int32) : Int32 := if s = 0 then -3 else s - 1
def ptbS (s : Int32) : Int32 := if s = 0 then s else s - 1
def ptbF (g f : Nat → Int32) (a s : Int32) : Nat → Int32 := if s = 0 then f else hfet g f 15 (pnext a (s - 1))
set_option maxRecDepth 100000 in
set_option maxHeartbeats 4000000 in
theorem tr_X2_takeBack_7_3_0 (d : Nat) (I : Nat → Int32) (F : Nat → Nat → Int32) (sd : Int64) : pm_EV (pm_run mt (d + 1)) (some .int) oX2_takeBack (0, [some (.ref 7), some (.ref 3)], [], (hX I F sd)) = (if (I 2) = 0 then some (some (.int (-3)), (hX I F sd)) else some (some (.int ((I 2) - 1)), (hX (upd I 2 ((I 2) - 1)) (uF F 4 (hfet ((F 8)) ((F 4)) 15 (pnext ((I 1)) (((I 2) - 1))))) sd))) := by
  refine Eq.trans (pm_EV_at 2 (d := (2, [some (.ref 7), some (.ref 3)], [.int (I 2)], (hX I F sd))) (x := if (I 2) = 0 then .inl (3, [some (.ref 7), some (.ref 3)], [], (hX I F sd)) else .inl (5, [some (.ref 7), some (.ref 3)], [], (hX I F sd))) rfl rfl) ?_
  refine pm_rc (fun p1 => ?_) (fun p1 => ?_)
  · show pm_EV (pm_run mt (d + 1)) (some .int) oX2_takeBack (3, [some (.ref 7), some (.ref 3)], [], (hX I F sd)) = _
    exact pm_EV_at 1 (d := (4, [some (.ref 7), some (.ref 3)], [.int (-3)], (hX I F sd))) rfl rfl
  · show pm_EV (pm_run mt (d + 1)) (some .int) oX2_takeBack (5, [some (.ref 7), some (.ref 3)], [], (hX I F sd)) = _
    refine Eq.trans (b := pm_EV (pm_run mt (d + 1)) (some .int) oX2_takeBack (16, [some (.ref 7), some (.ref 3)], [.int (pnext ((I 1)) (((I 2) - 1))), .ref 8, .ref 3], (hX (upd I 2 ((I 2) - 1)) F sd))) (pm_EV_cl 10 (call := pm_run mt (d + 1)) (d := (15, [some (.ref 7), some (.ref 3)], [.ref 7, .ref 8, .ref 3], (hX (upd I 2 ((I 2) - 1)) F sd))) (a := 43) (as := [.ref 7]) (hp := (hX (upd I 2 ((I 2) - 1)) F sd)) (hp2 := (hX (upd I 2 ((I 2) - 1)) F sd)) (i2 := 16) (ls := [some (.ref 7), some (.ref 3)]) (rest := [.ref 8, .ref 3]) (r := some (.int (pnext ((I 1)) (((I 2) - 1))))) rfl rfl (sp_X2_next_7 (d + 0) (upd I 2 ((I 2) - 1)) F sd  )) ?_
    refine Eq.trans (b := pm_EV (pm_run mt (d + 1)) (some .int) oX2_takeBack (17, [some (.ref 7), some (.ref 3)], [], (hX (upd I 2 ((I 2) - 1)) (uF F 4 (hfet ((F 8)) ((F 4)) 15 (pnext ((I 1)) (((I 2) - 1))))) sd))) (pm_EV_cl 0 (call := pm_run mt (d + 1)) (d := (16, [some (.ref 7), some (.ref 3)], [.int (pnext ((I 1)) (((I 2) - 1))), .ref 8, .ref 3], (hX (upd I 2 ((I 2) - 1)) F sd))) (a := 5) (as := [.ref 3, .ref 8, .int (pnext ((I 1)) (((I 2) - 1)))]) (hp := (hX (upd I 2 ((I 2) - 1)) F sd)) (hp2 := (hX (upd I 2 ((I 2) - 1)) (uF F 4 (hfet ((F 8)) ((F 4)) 15 (pnext ((I 1)) (((I 2) - 1))))) sd)) (i2 := 17) (ls := [some (.ref 7), some (.ref 3)]) (rest := []) (r := none) rfl rfl (sp_X0_fetchFrom_3_8 (d + 0) (upd I 2 ((I 2) - 1)) F sd (pnext ((I 1)) (((I 2) - 1))) )) ?_
    exact pm_EV_at 2 (d := (19, [some (.ref 7), some (.ref 3)], [.int ((I 2) - 1)], (hX (upd I 2 ((I 2) - 1)) (uF F 4 (hfet ((F 8)) ((F 4)) 15 (pnext ((I 1)) (((I 2) - 1))))) sd))) rfl rfl
set_option maxRecDepth 100000 in
set_option maxHeartbeats 4000000 in
theorem en_X2_takeBack_7_3 (d : Nat) (I : Nat → Int32) (F : Nat → Nat → Int32) (sd : Int64) : pm_run mt (d + 2) 46 [.ref 7, .ref 3] (hX I F sd) = pm_EV (pm_run mt (d + 1)) (some .int) oX2_takeBack (0, [some (.ref 7), some (.ref 3)], [], (hX I F sd)) := rfl
set_option maxRecDepth 100000 in
set_option maxHeartbeats 4000000 in
theorem sp_X2_takeBack_7_3 (d : Nat) (I : Nat → Int32) (F : Nat → Nat → Int32) (sd : Int64) : pm_run mt (d + 2) 46 [.ref 7, .ref 3] (hX I F sd) = some (some (.int (ptbA (I 2))), (hX (upd I 2 (ptbS (I 2))) (uF F 4 (ptbF (F 8) (F 4) (I 1) (I 2))) sd)) := by
  rw [en_X2_takeBack_7_3, tr_X2_takeBack_7_3_0]
  unfold ptbA ptbS ptbF
  by_cases e1 : I 2 = 0
  · simp only [e1, if_true]
    rw [uF_self, show upd I 2 0 = I by rw [← e1, upd_self]]
  · simp only [e1, if_false]
set_option maxRecDepth 100000 in
set_option maxHeartbeats 4000000 in
theorem tr_X5_forget_9_0 (d : Nat) (I : Nat → Int32) (F : Nat → Nat → Int32) (sd : Int64) : pm_EV (pm_run mt (d + 0)) none oX5_forget (0, [some (.ref 9)], [], (hX I F sd)) = some (none, (hX (upd I 3 0) F sd)) := by
  exact pm_EV_at 3 (d := (3, [some (.ref 9)], [], (hX (upd I 3 0) F sd))) rfl rfl
set_option maxRecDepth 100000 in
set_option maxHeartbeats 4000000 in
theorem en_X5_forget_9 (d : Nat) (I : Nat → Int32) (F : Nat → Nat → Int32) (sd : Int64) : pm_run mt (d + 1) 58 [.ref 9] (hX I F sd) = pm_EV (pm_run mt (d + 0)) none oX5_forget (0, [some (.ref 9)], [], (hX I F sd)) := rfl
set_option maxRecDepth 100000 in
set_option maxHeartbeats 4000000 in
theorem sp_X5_forget_9 (d : Nat) (I : Nat → Int32) (F : Nat → Nat → Int32) (sd : Int64) : pm_run mt (d + 1) 58 [.ref 9] (hX I F sd) = some (none, (hX (upd I 3 0) F sd)) := by
  rw [en_X5_forget_9, tr_X5_forget_9_0]
set_option maxRecDepth 100000 in
set_option maxHeartbeats 4000000 in
theorem tr_X5_isSlot_0 (d : Nat) (I : Nat → Int32) (F : Nat → Nat → Int32) (sd : Int64) (q : Int32) : pm_EV (pm_run mt (d + 0)) (some .boolean) oX5_isSlot (0, [some (.int q)], [], (hX I F sd)) = (if q < 0 then some (some (.int 0), (hX I F sd)) else (if q < 2 then some (some (.int 1), (hX I F sd)) else some (some (.int 0), (hX I F sd)))) := by
  refine Eq.trans (pm_EV_at 1 (d := (1, [some (.int q)], [.int q], (hX I F sd))) (x := if q < 0 then .inl (7, [some (.int q)], [], (hX I F sd)) else .inl (2, [some (.int q)], [], (hX I F sd))) rfl rfl) ?_
  refine pm_rc (fun p1 => ?_) (fun p1 => ?_)
  · show pm_EV (pm_run mt (d + 0)) (some .boolean) oX5_isSlot (7, [some (.int q)], [], (hX I F sd)) = _
    exact pm_EV_at 1 (d := (8, [some (.int q)], [.int 0], (hX I F sd))) rfl rfl
  · show pm_EV (pm_run mt (d + 0)) (some .boolean) oX5_isSlot (2, [some (.int q)], [], (hX I F sd)) = _
    refine Eq.trans (pm_EV_at 2 (d := (4, [some (.int q)], [.int 2, .int q], (hX I F sd))) (x := if q < 2 then .inl (5, [some (.int q)], [], (hX I F sd)) else .inl (7, [some (.int q)], [], (hX I F sd))) rfl rfl) ?_
    refine pm_rc (fun p2 => ?_) (fun p2 => ?_)
    · show pm_EV (pm_run mt (d + 0)) (some .boolean) oX5_isSlot (5, [some (.int q)], [], (hX I F sd)) = _
      exact pm_EV_at 2 (d := (8, [some (.int q)], [.int 1], (hX I F sd))) rfl rfl
    · show pm_EV (pm_run mt (d + 0)) (some .boolean) oX5_isSlot (7, [some (.int q)], [], (hX I F sd)) = _
      exact pm_EV_at 1 (d := (8, [some (.int q)], [.int 0], (hX I F sd))) rfl rfl
set_option maxRecDepth 100000 in
set_option maxHeartbeats 4000000 in
theorem en_X5_isSlot (d : Nat) (I : Nat → Int32) (F : Nat → Nat → Int32) (sd : Int64) (q : Int32) : pm_run mt (d + 1) 59 [.int q] (hX I F sd) = pm_EV (pm_run mt (d + 0)) (some .boolean) oX5_isSlot (0, [some (.int q)], [], (hX I F sd)) := rfl
set_option maxRecDepth 100000 in
set_option maxHeartbeats 4000000 in
theorem sp_X5_isSlot (d : Nat) (I : Nat → Int32) (F : Nat → Nat → Int32) (sd : Int64) (q : Int32) : pm_run mt (d + 1) 59 [.int q] (hX I F sd) = some (some (.int (bI (inr q 2))), (hX I F sd)) := by
  rw [en_X5_isSlot, tr_X5_isSlot_0]
  unfold inr bI
  by_cases e1 : q < 0
  · simp [e1]
  · by_cases e2 : q < 2 <;> simp [e1, e2]
def stkA (q v : Int32) : Int32 := if inr q 2 = false then -1 else v
def stkT (q t : Int32) : Int32 := if inr q 2 = false then t else t ||| (1 <<< (q &&& 31))
def stkF (f g : Nat → Int32) (q : Int32) : Nat → Int32 := if inr q 2 = false then g else hsto f g 2 q
def sgvF (g f : Nat → Int32) (q t : Int32) : Nat → Int32 := if inr q 2 = false then f else if (t >>> (q &&& 31)) &&& 1 = 0 then f else hfet g f 2 q
def sgvA (g f : Nat → Int32) (q t : Int32) : Int32 := if inr q 2 = false then -1 else if (t >>> (q &&& 31)) &&& 1 = 0 then -3 else hfet g f 2 q 27
set_option maxRecDepth 100000 in
set_option maxHeartbeats 4000000 in
theorem tr_X5_take_9_3_0 (d : Nat) (I : Nat → Int32) (F : Nat → Nat → Int32) (sd : Int64) (q : Int32) : pm_EV (pm_run mt (d + 1)) (some .int) oX5_take (0, [some (.ref 9), some (.int q), some (.ref 3)], [], (hX I F sd)) = (if (bI (inr q 2)) = 0 then some (some (.int (-1)), (hX I F sd)) else some (some (.int ((F 4) 27)), (hX (upd I 3 ((I 3) ||| ((1 : Int32) <<< (q &&& 31)))) (uF F 10 (hsto ((F 4)) ((F 10)) 2 q)) sd))) := by
  refine Eq.trans (b := pm_EV (pm_run mt (d + 1)) (some .int) oX5_take (2, [some (.ref 9), some (.int q), some (.ref 3)], [.int (bI (inr q 2))], (hX I F sd))) (pm_EV_cl 1 (call := pm_run mt (d + 1)) (d := (1, [some (.ref 9), some (.int q), some (.ref 3)], [.int q], (hX I F sd))) (a := 59) (as := [.int q]) (hp := (hX I F sd)) (hp2 := (hX I F sd)) (i2 := 2) (ls := [some (.ref 9), some (.int q), some (.ref 3)]) (rest := []) (r := some (.int (bI (inr q 2)))) rfl rfl (sp_X5_isSlot (d + 0) I F sd q )) ?_
  refine Eq.trans (pm_EV_at 0 (d := (2, [some (.ref 9), some (.int q), some (.ref 3)], [.int (bI (inr q 2))], (hX I F sd))) (x := if (bI (inr q 2)) = 0 then .inl (3, [some (.ref 9), some (.int q), some (.ref 3)], [], (hX I F sd)) else .inl (5, [some (.ref 9), some (.int q), some (.ref 3)], [], (hX I F sd))) rfl rfl) ?_
  refine pm_rc (fun p1 => ?_) (fun p1 => ?_)
  · show pm_EV (pm_run mt (d + 1)) (some .int) oX5_take (3, [some (.ref 9), some (.int q), some (.ref 3)], [], (hX I F sd)) = _
    exact pm_EV_at 1 (d := (4, [some (.ref 9), some (.int q), some (.ref 3)], [.int (-1)], (hX I F sd))) rfl rfl
  · show pm_EV (pm_run mt (d + 1)) (some .int) oX5_take (5, [some (.ref 9), some (.int q), some (.ref 3)], [], (hX I F sd)) = _
    refine Eq.trans (b := pm_EV (pm_run mt (d + 1)) (some .int) oX5_take (10, [some (.ref 9), some (.int q), some (.ref 3)], [], (hX I (uF F 10 (hsto ((F 4)) ((F 10)) 2 q)) sd))) (pm_EV_cl 4 (call := pm_run mt (d + 1)) (d := (9, [some (.ref 9), some (.int q), some (.ref 3)], [.int q, .ref 10, .ref 3], (hX I F sd))) (a := 4) (as := [.ref 3, .ref 10, .int q]) (hp := (hX I F sd)) (hp2 := (hX I (uF F 10 (hsto ((F 4)) ((F 10)) 2 q)) sd)) (i2 := 10) (ls := [some (.ref 9), some (.int q), some (.ref 3)]) (rest := []) (r := none) rfl rfl (sp_X0_storeIn_3_10 (d + 0) I F sd q )) ?_
    refine Eq.trans (b := pm_EV (pm_run mt (d + 1)) (some .int) oX5_take (20, [some (.ref 9), some (.int q), some (.ref 3)], [.int ((F 4) 27)], (hX (upd I 3 ((I 3) ||| ((1 : Int32) <<< (q &&& 31)))) (uF F 10 (hsto ((F 4)) ((F 10)) 2 q)) sd))) (pm_EV_cl 9 (call := pm_run mt (d + 1)) (d := (19, [some (.ref 9), some (.int q), some (.ref 3)], [.ref 3], (hX (upd I 3 ((I 3) ||| ((1 : Int32) <<< (q &&& 31)))) (uF F 10 (hsto ((F 4)) ((F 10)) 2 q)) sd))) (a := 13) (as := [.ref 3]) (hp := (hX (upd I 3 ((I 3) ||| ((1 : Int32) <<< (q &&& 31)))) (uF F 10 (hsto ((F 4)) ((F 10)) 2 q)) sd)) (hp2 := (hX (upd I 3 ((I 3) ||| ((1 : Int32) <<< (q &&& 31)))) (uF F 10 (hsto ((F 4)) ((F 10)) 2 q)) sd)) (i2 := 20) (ls := [some (.ref 9), some (.int q), some (.ref 3)]) (rest := []) (r := some (.int ((F 4) 27))) rfl rfl (sp_X0_quartersGone_3 (d + 0) (upd I 3 ((I 3) ||| ((1 : Int32) <<< (q &&& 31)))) (uF F 10 (hsto ((F 4)) ((F 10)) 2 q)) sd  )) ?_
    exact pm_EV_at 0 (d := (20, [some (.ref 9), some (.int q), some (.ref 3)], [.int ((F 4) 27)], (hX (upd I 3 ((I 3) ||| ((1 : Int32) <<< (q &&& 31)))) (uF F 10 (hsto ((F 4)) ((F 10)) 2 q)) sd))) rfl rfl
set_option maxRecDepth 100000 in
set_option maxHeartbeats 4000000 in
theorem en_X5_take_9_3 (d : Nat) (I : Nat → Int32) (F : Nat → Nat → Int32) (sd : Int64) (q : Int32) : pm_run mt (d + 2) 60 [.ref 9, .int q, .ref 3] (hX I F sd) = pm_EV (pm_run mt (d + 1)) (some .int) oX5_take (0, [some (.ref 9), some (.int q), some (.ref 3)], [], (hX I F sd)) := rfl
set_option maxRecDepth 100000 in
set_option maxHeartbeats 4000000 in
theorem sp_X5_take_9_3 (d : Nat) (I : Nat → Int32) (F : Nat → Nat → Int32) (sd : Int64) (q : Int32) : pm_run mt (d + 2) 60 [.ref 9, .int q, .ref 3] (hX I F sd) = some (some (.int (stkA q (F 4 27))), (hX (upd I 3 (stkT q (I 3))) (uF F 10 (stkF (F 4) (F 10) q)) sd)) := by
  rw [en_X5_take_9_3, tr_X5_take_9_3_0]
  simp only [bI_0]
  unfold stkA stkT stkF
  cases e1 : inr q 2
  · simp only [if_true, uF_self, upd_self]
  · simp only [Bool.true_eq_false, if_false]
set_option maxRecDepth 100000 in
set_option maxHeartbeats 4000000 in
theorem tr_X5_giveBack_9_3_0 (d : Nat) (I : Nat → Int32) (F : Nat → Nat → Int32) (sd : Int64) (q : Int32) : pm_EV (pm_run mt (d + 1)) (some .int) oX5_giveBack (0, [some (.ref 9), some (.int q), some (.ref 3)], [], (hX I F sd)) = (if (bI (inr q 2)) = 0 then some (some (.int (-1)), (hX I F sd)) else (if (((I 3) >>> (q &&& 31)) &&& (1 : Int32)) = 0 then some (some (.int (-3)), (hX I F sd)) else some (some (.int ((hfet ((F 10)) ((F 4)) 2 q) 27)), (hX I (uF F 4 (hfet ((F 10)) ((F 4)) 2 q)) sd)))) := by
  refine Eq.trans (b := pm_EV (pm_run mt (d + 1)) (some .int) oX5_giveBack (2, [some (.ref 9), some (.int q), some (.ref 3)], [.int (bI (inr q 2))], (hX I F sd))) (pm_EV_cl 1 (call := pm_run mt (d + 1)) (d := (1, [some (.ref 9), some (.int q), some (.ref 3)], [.int q], (hX I F sd))) (a := 59) (as := [.int q]) (hp := (hX I F sd)) (hp2 := (hX I F sd)) (i2 := 2) (ls := [some (.ref 9), some (.int q), some (.ref 3)]) (rest := []) (r := some (.int (bI (inr q 2)))) rfl rfl (sp_X5_isSlot (d + 0) I F sd q )) ?_
  refine Eq.trans (pm_EV_at 0 (d := (2, [some (.ref 9), some (.int q), some (.ref 3)], [.int (bI (inr q 2))], (hX I F sd))) (x := if (bI (inr q 2)) = 0 then .inl (3, [some (.ref 9), some (.int q), some (.ref 3)], [], (hX I F sd)) else .inl (5, [some (.ref 9), some (.int q), some (.ref 3)], [], (hX I F sd))) rfl rfl) ?_
  refine pm_rc (fun p1 => ?_) (fun p1 => ?_)
  · show pm_EV (pm_run mt (d + 1)) (some .int) oX5_giveBack (3, [some (.ref 9), some (.int q), some (.ref 3)], [], (hX I F sd)) = _
    exact pm_EV_at 1 (d := (4, [some (.ref 9), some (.int q), some (.ref 3)], [.int (-1)], (hX I F sd))) rfl rfl
  · show pm_EV (pm_run mt (d + 1)) (some .int) oX5_giveBack (5, [some (.ref 9), some (.int q), some (.ref 3)], [], (hX I F sd)) = _
    refine Eq.trans (pm_EV_at 6 (d := (11, [some (.ref 9), some (.int q), some (.ref 3)], [.int (((I 3) >>> (q &&& 31)) &&& (1 : Int32))], (hX I F sd))) (x := if (((I 3) >>> (q &&& 31)) &&& (1 : Int32)) = 0 then .inl (12, [some (.ref 9), some (.int q), some (.ref 3)], [], (hX I F sd)) else .inl (14, [some (.ref 9), some (.int q), some (.ref 3)], [], (hX I F sd))) rfl rfl) ?_
    refine pm_rc (fun p2 => ?_) (fun p2 => ?_)
    · show pm_EV (pm_run mt (d + 1)) (some .int) oX5_giveBack (12, [some (.ref 9), some (.int q), some (.ref 3)], [], (hX I F sd)) = _
      exact pm_EV_at 1 (d := (13, [some (.ref 9), some (.int q), some (.ref 3)], [.int (-3)], (hX I F sd))) rfl rfl
    · show pm_EV (pm_run mt (d + 1)) (some .int) oX5_giveBack (14, [some (.ref 9), some (.int q), some (.ref 3)], [], (hX I F sd)) = _
      refine Eq.trans (b := pm_EV (pm_run mt (d + 1)) (some .int) oX5_giveBack (19, [some (.ref 9), some (.int q), some (.ref 3)], [], (hX I (uF F 4 (hfet ((F 10)) ((F 4)) 2 q)) sd))) (pm_EV_cl 4 (call := pm_run mt (d + 1)) (d := (18, [some (.ref 9), some (.int q), some (.ref 3)], [.int q, .ref 10, .ref 3], (hX I F sd))) (a := 5) (as := [.ref 3, .ref 10, .int q]) (hp := (hX I F sd)) (hp2 := (hX I (uF F 4 (hfet ((F 10)) ((F 4)) 2 q)) sd)) (i2 := 19) (ls := [some (.ref 9), some (.int q), some (.ref 3)]) (rest := []) (r := none) rfl rfl (sp_X0_fetchFrom_3_10 (d + 0) I F sd q )) ?_
      refine Eq.trans (b := pm_EV (pm_run mt (d + 1)) (some .int) oX5_giveBack (21, [some (.ref 9), some (.int q), some (.ref 3)], [.int ((hfet ((F 10)) ((F 4)) 2 q) 27)], (hX I (uF F 4 (hfet ((F 10)) ((F 4)) 2 q)) sd))) (pm_EV_cl 1 (call := pm_run mt (d + 1)) (d := (20, [some (.ref 9), some (.int q), some (.ref 3)], [.ref 3], (hX I (uF F 4 (hfet ((F 10)) ((F 4)) 2 q)) sd))) (a := 13) (as := [.ref 3]) (hp := (hX I (uF F 4 (hfet ((F 10)) ((F 4)) 2 q)) sd)) (hp2 := (hX I (uF F 4 (hfet ((F 10)) ((F 4)) 2 q)) sd)) (i2 := 21) (ls := [some (.ref 9), some (.int q), some (.ref 3)]) (rest := []) (r := some (.int ((hfet ((F 10)) ((F 4)) 2 q) 27))) rfl rfl (sp_X0_quartersGone_3 (d + 0) I (uF F 4 (hfet ((F 10)) ((F 4)) 2 q)) sd  )) ?_
      exact pm_EV_at 0 (d := (21, [some (.ref 9), some (.int q), some (.ref 3)], [.int ((hfet ((F 10)) ((F 4)) 2 q) 27)], (hX I (uF F 4 (hfet ((F 10)) ((F 4)) 2 q)) sd))) rfl rfl
set_option maxRecDepth 100000 in
set_option maxHeartbeats 4000000 in
theorem en_X5_giveBack_9_3 (d : Nat) (I : Nat → Int32) (F : Nat → Nat → Int32) (sd : Int64) (q : Int32) : pm_run mt (d + 2) 61 [.ref 9, .int q, .ref 3] (hX I F sd) = pm_EV (pm_run mt (d + 1)) (some .int) oX5_giveBack (0, [some (.ref 9), some (.int q), some (.ref 3)], [], (hX I F sd)) := rfl
set_option maxRecDepth 100000 in
set_option maxHeartbeats 4000000 in
theorem sp_X5_giveBack_9_3 (d : Nat) (I : Nat → Int32) (F : Nat → Nat → Int32) (sd : Int64) (q : Int32) : pm_run mt (d + 2) 61 [.ref 9, .int q, .ref 3] (hX I F sd) = some (some (.int (sgvA (F 10) (F 4) q (I 3))), (hX I (uF F 4 (sgvF (F 10) (F 4) q (I 3))) sd)) := by
  rw [en_X5_giveBack_9_3, tr_X5_giveBack_9_3_0]
  simp only [bI_0]
  unfold sgvA sgvF
  cases e1 : inr q 2
  · simp only [if_true, uF_self]
  · by_cases e2 : (I 3 >>> (q &&& 31)) &&& 1 = 0
    · simp only [Bool.true_eq_false, if_false, e2, if_true, uF_self]
    · simp only [Bool.true_eq_false, if_false, e2]
set_option maxRecDepth 100000 in
set_option maxHeartbeats 4000000 in
theorem tr_X4_size_11_0 (d : Nat) (I : Nat → Int32) (F : Nat → Nat → Int32) (sd : Int64) : pm_EV (pm_run mt (d + 0)) (some .int) oX4_size (0, [some (.ref 11)], [], (hX I F sd)) = some (some (.int (I 4)), (hX I F sd)) := by
  exact pm_EV_at 2 (d := (2, [some (.ref 11)], [.int (I 4)], (hX I F sd))) rfl rfl
set_option maxRecDepth 100000 in
set_option maxHeartbeats 4000000 in
theorem en_X4_size_11 (d : Nat) (I : Nat → Int32) (F : Nat → Nat → Int32) (sd : Int64) : pm_run mt (d + 1) 52 [.ref 11] (hX I F sd) = pm_EV (pm_run mt (d + 0)) (some .int) oX4_size (0, [some (.ref 11)], [], (hX I F sd)) := rfl
set_option maxRecDepth 100000 in
set_option maxHeartbeats 4000000 in
theorem sp_X4_size_11 (d : Nat) (I : Nat → Int32) (F : Nat → Nat → Int32) (sd : Int64) : pm_run mt (d + 1) 52 [.ref 11] (hX I F sd) = some (some (.int (I 4)), (hX I F sd)) := by
  rw [en_X4_size_11, tr_X4_size_11_0]
def sdA (p k s : Int32) : Int32 := if inr p 10 = false then -1 else if ¬ (k = 0 ∨ k = 1) then -2 else if s < 6 then s + 1 else -4
def sdG (p k s : Int32) : Prop := inr p 10 = true ∧ (k = 0 ∨ k = 1) ∧ s < 6
noncomputable def sdS (p k s : Int32) : Int32 := @ite _ (sdG p k s) (Classical.propDecidable _) (s + 1) s
noncomputable def sdY (p k s y : Int32) : Int32 := @ite _ (sdG p k s ∧ k = 1) (Classical.propDecidable _) (y ||| (1 <<< (p &&& 31))) y
noncomputable def sdN (p k s y : Int32) : Int32 := @ite _ (sdG p k s ∧ k = 0) (Classical.propDecidable _) (y ||| (1 <<< (p &&& 31))) y
theorem upd_id3 (I : Nat → Int32) : upd (upd (upd I 4 (I 4)) 5 (I 5)) 6 (I 6) = I := by
  rw [upd_self, upd_self, upd_self]
set_option maxRecDepth 100000 in
set_option maxHeartbeats 4000000 in
theorem tr_X4_add_11_0 (d : Nat) (I : Nat → Int32) (F : Nat → Nat → Int32) (sd : Int64) (p : Int32) (k : Int32) : pm_EV (pm_run mt (d + 1)) (some .int) oX4_add (0, [some (.ref 11), some (.int p), some (.int k)], [], (hX I F sd)) = (if (bI (inr p 10)) = 0 then some (some (.int (-1)), (hX I F sd)) else (if k = 0 then (if (I 4) < 6 then (if k = 1 then some (some (.int ((I 4) + 1)), (hX (upd (upd I 4 ((I 4) + 1)) 5 ((I 5) ||| ((1 : Int32) <<< (p &&& 31)))) F sd)) else some (some (.int ((I 4) + 1)), (hX (upd (upd I 4 ((I 4) + 1)) 6 ((I 6) ||| ((1 : Int32) <<< (p &&& 31)))) F sd))) else some (some (.int (-4)), (hX I F sd))) else (if k = 1 then (if (I 4) < 6 then (if k = 1 then some (some (.int ((I 4) + 1)), (hX (upd (upd I 4 ((I 4) + 1)) 5 ((I 5) ||| ((1 : Int32) <<< (p &&& 31)))) F sd)) else some (some (.int ((I 4) + 1)), (hX (upd (upd I 4 ((I 4) + 1)) 6 ((I 6) ||| ((1 : Int32) <<< (p &&& 31)))) F sd))) else some (some (.int (-4)), (hX I F sd))) else some (some (.int (-2)), (hX I F sd))))) := by
  refine Eq.trans (b := pm_EV (pm_run mt (d + 1)) (some .int) oX4_add (2, [some (.ref 11), some (.int p), some (.int k)], [.int (bI (inr p 10))], (hX I F sd))) (pm_EV_cl 1 (call := pm_run mt (d + 1)) (d := (1, [some (.ref 11), some (.int p), some (.int k)], [.int p], (hX I F sd))) (a := 102) (as := [.int p]) (hp := (hX I F sd)) (hp2 := (hX I F sd)) (i2 := 2) (ls := [some (.ref 11), some (.int p), some (.int k)]) (rest := []) (r := some (.int (bI (inr p 10)))) rfl rfl (sp_X7_isPlace (d + 0) I F sd p )) ?_
  refine Eq.trans (pm_EV_at 0 (d := (2, [some (.ref 11), some (.int p), some (.int k)], [.int (bI (inr p 10))], (hX I F sd))) (x := if (bI (inr p 10)) = 0 then .inl (3, [some (.ref 11), some (.int p), some (.int k)], [], (hX I F sd)) else .inl (5, [some (.ref 11), some (.int p), some (.int k)], [], (hX I F sd))) rfl rfl) ?_
  refine pm_rc (fun p1 => ?_) (fun p1 => ?_)
  · show pm_EV (pm_run mt (d + 1)) (some .int) oX4_add (3, [some (.ref 11), some (.int p), some (.int k)], [], (hX I F sd)) = _
    exact pm_EV_at 1 (d := (4, [some (.ref 11), some (.int p), some (.int k)], [.int (-1)], (hX I F sd))) rfl rfl
  · show pm_EV (pm_run mt (d + 1)) (some .int) oX4_add (5, [some (.ref 11), some (.int p), some (.int k)], [], (hX I F sd)) = _
    refine Eq.trans (pm_EV_at 1 (d := (6, [some (.ref 11), some (.int p), some (.int k)], [.int k], (hX I F sd))) (x := if k = 0 then .inl (12, [some (.ref 11), some (.int p), some (.int k)], [], (hX I F sd)) else .inl (7, [some (.ref 11), some (.int p), some (.int k)], [], (hX I F sd))) rfl rfl) ?_
    refine pm_rc (fun p2 => ?_) (fun p2 => ?_)
    · show pm_EV (pm_run mt (d + 1)) (some .int) oX4_add (12, [some (.ref 11), some (.int p), some (.int k)], [], (hX I F sd)) = _
      refine Eq.trans (pm_EV_at 3 (d := (15, [some (.ref 11), some (.int p), some (.int k)], [.int 6, .int (I 4)], (hX I F sd))) (x := if (I 4) < 6 then .inl (18, [some (.ref 11), some (.int p), some (.int k)], [], (hX I F sd)) else .inl (16, [some (.ref 11), some (.int p), some (.int k)], [], (hX I F sd))) rfl rfl) ?_
      refine pm_rc (fun p3 => ?_) (fun p3 => ?_)
      · show pm_EV (pm_run mt (d + 1)) (some .int) oX4_add (18, [some (.ref 11), some (.int p), some (.int k)], [], (hX I F sd)) = _
        refine Eq.trans (pm_EV_at 2 (d := (20, [some (.ref 11), some (.int p), some (.int k)], [.int 1, .int k], (hX I F sd))) (x := if k = 1 then .inl (21, [some (.ref 11), some (.int p), some (.int k)], [], (hX I F sd)) else .inl (30, [some (.ref 11), some (.int p), some (.int k)], [], (hX I F sd))) rfl rfl) ?_
        refine pm_rc (fun p4 => ?_) (fun p4 => ?_)
        · show pm_EV (pm_run mt (d + 1)) (some .int) oX4_add (21, [some (.ref 11), some (.int p), some (.int k)], [], (hX I F sd)) = _
          exact pm_EV_at 17 (d := (46, [some (.ref 11), some (.int p), some (.int k)], [.int ((I 4) + 1)], (hX (upd (upd I 4 ((I 4) + 1)) 5 ((I 5) ||| ((1 : Int32) <<< (p &&& 31)))) F sd))) rfl rfl
        · show pm_EV (pm_run mt (d + 1)) (some .int) oX4_add (30, [some (.ref 11), some (.int p), some (.int k)], [], (hX I F sd)) = _
          exact pm_EV_at 16 (d := (46, [some (.ref 11), some (.int p), some (.int k)], [.int ((I 4) + 1)], (hX (upd (upd I 4 ((I 4) + 1)) 6 ((I 6) ||| ((1 : Int32) <<< (p &&& 31)))) F sd))) rfl rfl
      · show pm_EV (pm_run mt (d + 1)) (some .int) oX4_add (16, [some (.ref 11), some (.int p), some (.int k)], [], (hX I F sd)) = _
        exact pm_EV_at 1 (d := (17, [some (.ref 11), some (.int p), some (.int k)], [.int (-4)], (hX I F sd))) rfl rfl
    · show pm_EV (pm_run mt (d + 1)) (some .int) oX4_add (7, [some (.ref 11), some (.int p), some (.int k)], [], (hX I F sd)) = _
      refine Eq.trans (pm_EV_at 2 (d := (9, [some (.ref 11), some (.int p), some (.int k)], [.int 1, .int k], (hX I F sd))) (x := if k = 1 then .inl (12, [some (.ref 11), some (.int p), some (.int k)], [], (hX I F sd)) else .inl (10, [some (.ref 11), some (.int p), some (.int k)], [], (hX I F sd))) rfl rfl) ?_
      refine pm_rc (fun p3 => ?_) (fun p3 => ?_)
      · show pm_EV (pm_run mt (d + 1)) (some .int) oX4_add (12, [some (.ref 11), some (.int p), some (.int k)], [], (hX I F sd)) = _
        refine Eq.trans (pm_EV_at 3 (d := (15, [some (.ref 11), some (.int p), some (.int k)], [.int 6, .int (I 4)], (hX I F sd))) (x := if (I 4) < 6 then .inl (18, [some (.ref 11), some (.int p), some (.int k)], [], (hX I F sd)) else .inl (16, [some (.ref 11), some (.int p), some (.int k)], [], (hX I F sd))) rfl rfl) ?_
        refine pm_rc (fun p4 => ?_) (fun p4 => ?_)
        · show pm_EV (pm_run mt (d + 1)) (some .int) oX4_add (18, [some (.ref 11), some (.int p), some (.int k)], [], (hX I F sd)) = _
          refine Eq.trans (pm_EV_at 2 (d := (20, [some (.ref 11), some (.int p), some (.int k)], [.int 1, .int k], (hX I F sd))) (x := if k = 1 then .inl (21, [some (.ref 11), some (.int p), some (.int k)], [], (hX I F sd)) else .inl (30, [some (.ref 11), some (.int p), some (.int k)], [], (hX I F sd))) rfl rfl) ?_
          refine pm_rc (fun p5 => ?_) (fun p5 => ?_)
          · show pm_EV (pm_run mt (d + 1)) (some .int) oX4_add (21, [some (.ref 11), some (.int p), some (.int k)], [], (hX I F sd)) = _
            exact pm_EV_at 17 (d := (46, [some (.ref 11), some (.int p), some (.int k)], [.int ((I 4) + 1)], (hX (upd (upd I 4 ((I 4) + 1)) 5 ((I 5) ||| ((1 : Int32) <<< (p &&& 31)))) F sd))) rfl rfl
          · show pm_EV (pm_run mt (d + 1)) (some .int) oX4_add (30, [some (.ref 11), some (.int p), some (.int k)], [], (hX I F sd)) = _
            exact pm_EV_at 16 (d := (46, [some (.ref 11), some (.int p), some (.int k)], [.int ((I 4) + 1)], (hX (upd (upd I 4 ((I 4) + 1)) 6 ((I 6) ||| ((1 : Int32) <<< (p &&& 31)))) F sd))) rfl rfl
        · show pm_EV (pm_run mt (d + 1)) (some .int) oX4_add (16, [some (.ref 11), some (.int p), some (.int k)], [], (hX I F sd)) = _
          exact pm_EV_at 1 (d := (17, [some (.ref 11), some (.int p), some (.int k)], [.int (-4)], (hX I F sd))) rfl rfl
      · show pm_EV (pm_run mt (d + 1)) (some .int) oX4_add (10, [some (.ref 11), some (.int p), some (.int k)], [], (hX I F sd)) = _
        exact pm_EV_at 1 (d := (11, [some (.ref 11), some (.int p), some (.int k)], [.int (-2)], (hX I F sd))) rfl rfl
set_option maxRecDepth 100000 in
set_option maxHeartbeats 4000000 in
theorem en_X4_add_11 (d : Nat) (I : Nat → Int32) (F : Nat → Nat → Int32) (sd : Int64) (p : Int32) (k : Int32) : pm_run mt (d + 2) 53 [.ref 11, .int p, .int k] (hX I F sd) = pm_EV (pm_run mt (d + 1)) (some .int) oX4_add (0, [some (.ref 11), some (.int p), some (.int k)], [], (hX I F sd)) := rfl
set_option maxRecDepth 100000 in
set_option maxHeartbeats 4000000 in
theorem sp_X4_add_11 (d : Nat) (I : Nat → Int32) (F : Nat → Nat → Int32) (sd : Int64) (p : Int32) (k : Int32) : pm_run mt (d + 2) 53 [.ref 11, .int p, .int k] (hX I F sd) = some (some (.int (sdA p k (I 4))), (hX (upd (upd (upd I 4 (sdS p k (I 4))) 5 (sdY p k (I 4) (I 5))) 6 (sdN p k (I 4) (I 6))) F sd)) := by
  rw [en_X4_add_11, tr_X4_add_11_0]
  simp only [bI_0]
  by_cases hg : sdG p k (I 4)
  · obtain ⟨g1, g2, g3⟩ := id hg
    have eS : sdS p k (I 4) = I 4 + 1 := if_pos hg
    have eA : sdA p k (I 4) = I 4 + 1 := by rw [sdA, g1, if_neg (by decide), if_neg (fun h => h g2), if_pos g3]
    rw [eS, eA, g1]
    rcases g2 with rfl | rfl
    · have eY : sdY p 0 (I 4) (I 5) = I 5 := if_neg (fun h => absurd h.2 (by decide))
      have eN : sdN p 0 (I 4) (I 6) = I 6 ||| (1 <<< (p &&& 31)) := if_pos ⟨hg, rfl⟩
      rw [eY, eN, if_neg (by decide), if_pos rfl, if_pos g3, if_neg (by decide)]
      rw [show upd (upd I 4 (I 4 + 1)) 5 (I 5) = upd I 4 (I 4 + 1) by rw [upd_sw _ (by decide), upd_self]]
    · have eY : sdY p 1 (I 4) (I 5) = I 5 ||| (1 <<< (p &&& 31)) := if_pos ⟨hg, rfl⟩
      have eN : sdN p 1 (I 4) (I 6) = I 6 := if_neg (fun h => absurd h.2 (by decide))
      rw [eY, eN, if_neg (by decide), if_neg (by decide), if_pos rfl, if_pos g3, if_pos rfl]
      rw [show upd (upd (upd I 4 (I 4 + 1)) 5 (I 5 ||| 1 <<< (p &&& 31))) 6 (I 6) = upd (upd I 4 (I 4 + 1)) 5 (I 5 ||| 1 <<< (p &&& 31)) by rw [upd_sw _ (by decide), upd_sw I (by decide), upd_self]]
  · have eS : sdS p k (I 4) = I 4 := if_neg hg
    have eY : sdY p k (I 4) (I 5) = I 5 := if_neg (fun h => hg h.1)
    have eN : sdN p k (I 4) (I 6) = I 6 := if_neg (fun h => hg h.1)
    rw [eS, eY, eN, upd_id3]
    unfold sdA
    cases g1 : inr p 10
    · simp only [if_true]
    · simp only [Bool.true_eq_false, if_false]
      by_cases g0 : k = 0
      · have g3 : ¬ I 4 < 6 := fun h => hg ⟨g1, Or.inl g0, h⟩
        simp only [g0, g3, if_true, if_false, true_or, not_true_eq_false]
      · by_cases g2 : k = 1
        · have g3 : ¬ I 4 < 6 := fun h => hg ⟨g1, Or.inr g2, h⟩
          simp only [g2, g3, if_true, if_false, or_true, not_true_eq_false, show ¬ ((1 : Int32) = 0) by decide]
        · simp only [g0, g2, if_false, or_false, not_false_eq_true, if_true]
set_option maxRecDepth 100000 in
set_option maxHeartbeats 4000000 in
theorem tr_X4_forget_11_0 (d : Nat) (I : Nat → Int32) (F : Nat → Nat → Int32) (sd : Int64) : pm_EV (pm_run mt (d + 0)) (some .int) oX4_forget (0, [some (.ref 11), none], [], (hX I F sd)) = some (some (.int (I 4)), (hX (upd (upd (upd I 4 0) 5 0) 6 0) F sd)) := by
  exact pm_EV_at 13 (d := (13, [some (.ref 11), some (.int (I 4))], [.int (I 4)], (hX (upd (upd (upd I 4 0) 5 0) 6 0) F sd))) rfl rfl
set_option maxRecDepth 100000 in
set_option maxHeartbeats 4000000 in
theorem en_X4_forget_11 (d : Nat) (I : Nat → Int32) (F : Nat → Nat → Int32) (sd : Int64) : pm_run mt (d + 1) 54 [.ref 11] (hX I F sd) = pm_EV (pm_run mt (d + 0)) (some .int) oX4_forget (0, [some (.ref 11), none], [], (hX I F sd)) := rfl
set_option maxRecDepth 100000 in
set_option maxHeartbeats 4000000 in
theorem sp_X4_forget_11 (d : Nat) (I : Nat → Int32) (F : Nat → Nat → Int32) (sd : Int64) : pm_run mt (d + 1) 54 [.ref 11] (hX I F sd) = some (some (.int (I 4)), (hX (upd (upd (upd I 4 0) 5 0) 6 0) F sd)) := by
  rw [en_X4_forget_11, tr_X4_forget_11_0]
def xso (y n l w : Int32) : Bool := decide (xreach (l / 10) (l - l / 10 * 10) w &&& y = y) && decide (xreach (l / 10) (l - l / 10 * 10) w &&& n = 0)
theorem div10 {l : Int32} (h : inr l 100 = true) : inr (l / 10) 10 = true := by
  obtain ⟨k, hk, rfl⟩ := inr_nI (n := 100) (by decide) h
  rw [show (10 : Int32) = nI 10 from rfl, pk_div (by omega) (by decide) (by decide)]
  unfold inr
  simp only [Bool.and_eq_true, Bool.not_eq_true', decide_eq_false_iff_not, decide_eq_true_eq]
  exact ⟨nI_pos (by omega), (nI_ltI (by omega) (by decide)).mpr (by omega)⟩
theorem inr_mk {k n : Nat} (hn : n < 2 ^ 31) (h : k < n) : inr (nI k) (nI n) = true := by
  unfold inr
  simp only [Bool.and_eq_true, Bool.not_eq_true', decide_eq_false_iff_not, decide_eq_true_eq]
  exact ⟨nI_pos (by omega), (nI_ltI (by omega) hn).mpr h⟩
def xlnC (y n w : Int32) : Nat → Int32
  | 0 => 0
  | k + 1 => if xso y n (nI k) w = true then xlnC y n w k + 1 else xlnC y n w k
def xlnF (y n w : Int32) : Nat → Nat → Int32
  | 0, _ => -9
  | m + 1, k => if xso y n (nI k) w = true then nI k else xlnF y n w m (k + 1)
set_option maxRecDepth 100000 in
set_option maxHeartbeats 4000000 in
theorem tr_X4_isSo_11_0 (d : Nat) (I : Nat → Int32) (F : Nat → Nat → Int32) (sd : Int64) (l : Int32) (w : Int32) (g1 : inr (l / 10) 10 = true) : pm_EV (pm_run mt (d + 3)) (some .boolean) oX4_isSo (0, [some (.ref 11), some (.int l), some (.int w), none], [], (hX I F sd)) = (if ((xreach (l / 10) (l - l / 10 * 10) w) &&& (I 5)) = (I 5) then (if ((xreach (l / 10) (l - l / 10 * 10) w) &&& (I 6)) = 0 then some (some (.int 1), (hX I F sd)) else some (some (.int 0), (hX I F sd))) else some (some (.int 0), (hX I F sd))) := by
  refine Eq.trans (b := pm_EV (pm_run mt (d + 3)) (some .boolean) oX4_isSo (8, [some (.ref 11), some (.int l), some (.int w), none], [.int (xreach (l / 10) (l - l / 10 * 10) w)], (hX I F sd))) (pm_EV_cl 7 (call := pm_run mt (d + 3)) (d := (7, [some (.ref 11), some (.int l), some (.int w), none], [.int w, .int (l - l / 10 * 10), .int (l / 10)], (hX I F sd))) (a := 27) (as := [.int (l / 10), .int (l - l / 10 * 10), .int w]) (hp := (hX I F sd)) (hp2 := (hX I F sd)) (i2 := 8) (ls := [some (.ref 11), some (.int l), some (.int w), none]) (rest := []) (r := some (.int (xreach (l / 10) (l - l / 10 * 10) w))) rfl rfl (sp_X0_reachOf (d + 0) I F sd (l / 10) (l - l / 10 * 10) w g1)) ?_
  refine Eq.trans (pm_EV_at 7 (d := (15, [some (.ref 11), some (.int l), some (.int w), some (.int (xreach (l / 10) (l - l / 10 * 10) w))], [.int (I 5), .int ((xreach (l / 10) (l - l / 10 * 10) w) &&& (I 5))], (hX I F sd))) (x := if ((xreach (l / 10) (l - l / 10 * 10) w) &&& (I 5)) = (I 5) then .inl (16, [some (.ref 11), some (.int l), some (.int w), some (.int (xreach (l / 10) (l - l / 10 * 10) w))], [], (hX I F sd)) else .inl (23, [some (.ref 11), some (.int l), some (.int w), some (.int (xreach (l / 10) (l - l / 10 * 10) w))], [], (hX I F sd))) rfl rfl) ?_
  refine pm_rc (fun p1 => ?_) (fun p1 => ?_)
  · show pm_EV (pm_run mt (d + 3)) (some .boolean) oX4_isSo (16, [some (.ref 11), some (.int l), some (.int w), some (.int (xreach (l / 10) (l - l / 10 * 10) w))], [], (hX I F sd)) = _
    refine Eq.trans (pm_EV_at 4 (d := (20, [some (.ref 11), some (.int l), some (.int w), some (.int (xreach (l / 10) (l - l / 10 * 10) w))], [.int ((xreach (l / 10) (l - l / 10 * 10) w) &&& (I 6))], (hX I F sd))) (x := if ((xreach (l / 10) (l - l / 10 * 10) w) &&& (I 6)) = 0 then .inl (21, [some (.ref 11), some (.int l), some (.int w), some (.int (xreach (l / 10) (l - l / 10 * 10) w))], [], (hX I F sd)) else .inl (23, [some (.ref 11), some (.int l), some (.int w), some (.int (xreach (l / 10) (l - l / 10 * 10) w))], [], (hX I F sd))) rfl rfl) ?_
    refine pm_rc (fun p2 => ?_) (fun p2 => ?_)
    · show pm_EV (pm_run mt (d + 3)) (some .boolean) oX4_isSo (21, [some (.ref 11), some (.int l), some (.int w), some (.int (xreach (l / 10) (l - l / 10 * 10) w))], [], (hX I F sd)) = _
      exact pm_EV_at 2 (d := (24, [some (.ref 11), some (.int l), some (.int w), some (.int (xreach (l / 10) (l - l / 10 * 10) w))], [.int 1], (hX I F sd))) rfl rfl
    · show pm_EV (pm_run mt (d + 3)) (some .boolean) oX4_isSo (23, [some (.ref 11), some (.int l), some (.int w), some (.int (xreach (l / 10) (l - l / 10 * 10) w))], [], (hX I F sd)) = _
      exact pm_EV_at 1 (d := (24, [some (.ref 11), some (.int l), some (.int w), some (.int (xreach (l / 10) (l - l / 10 * 10) w))], [.int 0], (hX I F sd))) rfl rfl
  · show pm_EV (pm_run mt (d + 3)) (some .boolean) oX4_isSo (23, [some (.ref 11), some (.int l), some (.int w), some (.int (xreach (l / 10) (l - l / 10 * 10) w))], [], (hX I F sd)) = _
    exact pm_EV_at 1 (d := (24, [some (.ref 11), some (.int l), some (.int w), some (.int (xreach (l / 10) (l - l / 10 * 10) w))], [.int 0], (hX I F sd))) rfl rfl
set_option maxRecDepth 100000 in
set_option maxHeartbeats 4000000 in
theorem en_X4_isSo_11 (d : Nat) (I : Nat → Int32) (F : Nat → Nat → Int32) (sd : Int64) (l : Int32) (w : Int32) : pm_run mt (d + 4) 55 [.ref 11, .int l, .int w] (hX I F sd) = pm_EV (pm_run mt (d + 3)) (some .boolean) oX4_isSo (0, [some (.ref 11), some (.int l), some (.int w), none], [], (hX I F sd)) := rfl
set_option maxRecDepth 100000 in
set_option maxHeartbeats 4000000 in
theorem sp_X4_isSo_11 (d : Nat) (I : Nat → Int32) (F : Nat → Nat → Int32) (sd : Int64) (l : Int32) (w : Int32) (h1 : inr l 100 = true) : pm_run mt (d + 4) 55 [.ref 11, .int l, .int w] (hX I F sd) = some (some (.int (bI (xso (I 5) (I 6) l w))), (hX I F sd)) := by
  rw [en_X4_isSo_11, tr_X4_isSo_11_0 _ _ _ _ _ _ (div10 h1)]
  unfold xso bI
  by_cases e1 : xreach (l / 10) (l - l / 10 * 10) w &&& I 5 = I 5
  · by_cases e2 : xreach (l / 10) (l - l / 10 * 10) w &&& I 6 = 0 <;> simp [e1, e2]
  · simp [e1]
set_option maxRecDepth 100000 in
set_option maxHeartbeats 4000000 in
theorem tr_X4_howManyLines_11_0 (d : Nat) (I : Nat → Int32) (F : Nat → Nat → Int32) (sd : Int64) (w : Int32) : pm_EV (pm_run mt (d + 4)) (some .int) oX4_howManyLines (0, [some (.ref 11), some (.int w), none, none], [], (hX I F sd)) = pm_EV (pm_run mt (d + 4)) (some .int) oX4_howManyLines (4, [some (.ref 11), some (.int w), some (.int 0), some (.int 0)], [], (hX I F sd)) := by
  exact pm_EV_go 4 (d := (4, [some (.ref 11), some (.int w), some (.int 0), some (.int 0)], [], (hX I F sd))) rfl
set_option maxRecDepth 100000 in
set_option maxHeartbeats 4000000 in
theorem tr_X4_howManyLines_11_4 (d : Nat) (I : Nat → Int32) (F : Nat → Nat → Int32) (sd : Int64) (w : Int32) (x2 : Int32) (x3 : Int32) (g1 : (x3 < 100) → inr x3 100 = true) : pm_EV (pm_run mt (d + 4)) (some .int) oX4_howManyLines (4, [some (.ref 11), some (.int w), some (.int x2), some (.int x3)], [], (hX I F sd)) = (if x3 < 100 then (if (bI (xso ((I 5)) ((I 6)) x3 w)) = 0 then pm_EV (pm_run mt (d + 4)) (some .int) oX4_howManyLines (4, [some (.ref 11), some (.int w), some (.int x2), some (.int (x3 + 1))], [], (hX I F sd)) else pm_EV (pm_run mt (d + 4)) (some .int) oX4_howManyLines (4, [some (.ref 11), some (.int w), some (.int (x2 + 1)), some (.int (x3 + 1))], [], (hX I F sd))) else some (some (.int x2), (hX I F sd))) := by
  refine Eq.trans (pm_EV_at 2 (d := (6, [some (.ref 11), some (.int w), some (.int x2), some (.int x3)], [.int 100, .int x3], (hX I F sd))) (x := if x3 < 100 then .inl (7, [some (.ref 11), some (.int w), some (.int x2), some (.int x3)], [], (hX I F sd)) else .inl (15, [some (.ref 11), some (.int w), some (.int x2), some (.int x3)], [], (hX I F sd))) rfl rfl) ?_
  refine pm_rc (fun p1 => ?_) (fun p1 => ?_)
  · show pm_EV (pm_run mt (d + 4)) (some .int) oX4_howManyLines (7, [some (.ref 11), some (.int w), some (.int x2), some (.int x3)], [], (hX I F sd)) = _
    refine Eq.trans (b := pm_EV (pm_run mt (d + 4)) (some .int) oX4_howManyLines (11, [some (.ref 11), some (.int w), some (.int x2), some (.int x3)], [.int (bI (xso ((I 5)) ((I 6)) x3 w))], (hX I F sd))) (pm_EV_cl 3 (call := pm_run mt (d + 4)) (d := (10, [some (.ref 11), some (.int w), some (.int x2), some (.int x3)], [.int w, .int x3, .ref 11], (hX I F sd))) (a := 55) (as := [.ref 11, .int x3, .int w]) (hp := (hX I F sd)) (hp2 := (hX I F sd)) (i2 := 11) (ls := [some (.ref 11), some (.int w), some (.int x2), some (.int x3)]) (rest := []) (r := some (.int (bI (xso ((I 5)) ((I 6)) x3 w)))) rfl rfl (sp_X4_isSo_11 (d + 0) I F sd x3 w (g1 p1))) ?_
    refine Eq.trans (pm_EV_at 0 (d := (11, [some (.ref 11), some (.int w), some (.int x2), some (.int x3)], [.int (bI (xso ((I 5)) ((I 6)) x3 w))], (hX I F sd))) (x := if (bI (xso ((I 5)) ((I 6)) x3 w)) = 0 then .inl (13, [some (.ref 11), some (.int w), some (.int x2), some (.int x3)], [], (hX I F sd)) else .inl (12, [some (.ref 11), some (.int w), some (.int x2), some (.int x3)], [], (hX I F sd))) rfl rfl) ?_
    refine pm_rc (fun p2 => ?_) (fun p2 => ?_)
    · show pm_EV (pm_run mt (d + 4)) (some .int) oX4_howManyLines (13, [some (.ref 11), some (.int w), some (.int x2), some (.int x3)], [], (hX I F sd)) = _
      exact pm_EV_go 2 (d := (4, [some (.ref 11), some (.int w), some (.int x2), some (.int (x3 + 1))], [], (hX I F sd))) rfl
    · show pm_EV (pm_run mt (d + 4)) (some .int) oX4_howManyLines (12, [some (.ref 11), some (.int w), some (.int x2), some (.int x3)], [], (hX I F sd)) = _
      exact pm_EV_go 3 (d := (4, [some (.ref 11), some (.int w), some (.int (x2 + 1)), some (.int (x3 + 1))], [], (hX I F sd))) rfl
  · show pm_EV (pm_run mt (d + 4)) (some .int) oX4_howManyLines (15, [some (.ref 11), some (.int w), some (.int x2), some (.int x3)], [], (hX I F sd)) = _
    exact pm_EV_at 1 (d := (16, [some (.ref 11), some (.int w), some (.int x2), some (.int x3)], [.int x2], (hX I F sd))) rfl rfl
set_option maxRecDepth 100000 in
set_option maxHeartbeats 4000000 in
theorem en_X4_howManyLines_11 (d : Nat) (I : Nat → Int32) (F : Nat → Nat → Int32) (sd : Int64) (w : Int32) : pm_run mt (d + 5) 56 [.ref 11, .int w] (hX I F sd) = pm_EV (pm_run mt (d + 4)) (some .int) oX4_howManyLines (0, [some (.ref 11), some (.int w), none, none], [], (hX I F sd)) := rfl
set_option maxRecDepth 100000 in
set_option maxHeartbeats 4000000 in
theorem sp_X4_howManyLines_11 (d : Nat) (I : Nat → Int32) (F : Nat → Nat → Int32) (sd : Int64) (w : Int32) : pm_run mt (d + 5) 56 [.ref 11, .int w] (hX I F sd) = some (some (.int (xlnC (I 5) (I 6) w 100)), (hX I F sd)) := by
  rw [en_X4_howManyLines_11, tr_X4_howManyLines_11_0]
  have key : ∀ (m k : Nat), k + m = 100 → pm_EV (pm_run mt (d + 4)) (some .int) oX4_howManyLines (4, [some (.ref 11), some (.int w), some (.int (xlnC (I 5) (I 6) w k)), some (.int (nI k))], [], hX I F sd) = some (some (.int (xlnC (I 5) (I 6) w 100)), hX I F sd) := by
    intro m
    induction m with
    | zero =>
      intro k hk
      obtain rfl : k = 100 := by omega
      rw [tr_X4_howManyLines_11_4 _ _ _ _ _ _ _ (fun h => absurd h (by decide)), if_neg (by decide)]
    | succ m ih =>
      intro k hk
      have hi := ih (k + 1) (by omega)
      rw [tr_X4_howManyLines_11_4 _ _ _ _ _ _ _ (fun _ => inr_mk (n := 100) (by decide) (by omega)), if_pos (by rw [show (100 : Int32) = nI 100 from rfl, nI_ltI (by omega) (by decide)]; omega), nI_p1]
      simp only [bI_0]
      rw [xlnC] at hi
      cases c2 : xso (I 5) (I 6) (nI k) w
      · rw [if_pos rfl]; rw [c2, if_neg (by decide)] at hi; exact hi
      · rw [if_neg (by decide)]; rw [c2, if_pos rfl] at hi; exact hi
  exact key 100 0 rfl
set_option maxRecDepth 100000 in
set_option maxHeartbeats 4000000 in
theorem tr_X4_firstLine_11_0 (d : Nat) (I : Nat → Int32) (F : Nat → Nat → Int32) (sd : Int64) (w : Int32) : pm_EV (pm_run mt (d + 4)) (some .int) oX4_firstLine (0, [some (.ref 11), some (.int w), none], [], (hX I F sd)) = pm_EV (pm_run mt (d + 4)) (some .int) oX4_firstLine (2, [some (.ref 11), some (.int w), some (.int 0)], [], (hX I F sd)) := by
  exact pm_EV_go 2 (d := (2, [some (.ref 11), some (.int w), some (.int 0)], [], (hX I F sd))) rfl
set_option maxRecDepth 100000 in
set_option maxHeartbeats 4000000 in
theorem tr_X4_firstLine_11_2 (d : Nat) (I : Nat → Int32) (F : Nat → Nat → Int32) (sd : Int64) (w : Int32) (x2 : Int32) (g1 : (x2 < 100) → inr x2 100 = true) : pm_EV (pm_run mt (d + 4)) (some .int) oX4_firstLine (2, [some (.ref 11), some (.int w), some (.int x2)], [], (hX I F sd)) = (if x2 < 100 then (if (bI (xso ((I 5)) ((I 6)) x2 w)) = 0 then pm_EV (pm_run mt (d + 4)) (some .int) oX4_firstLine (2, [some (.ref 11), some (.int w), some (.int (x2 + 1))], [], (hX I F sd)) else some (some (.int x2), (hX I F sd))) else some (some (.int (-9)), (hX I F sd))) := by
  refine Eq.trans (pm_EV_at 2 (d := (4, [some (.ref 11), some (.int w), some (.int x2)], [.int 100, .int x2], (hX I F sd))) (x := if x2 < 100 then .inl (5, [some (.ref 11), some (.int w), some (.int x2)], [], (hX I F sd)) else .inl (14, [some (.ref 11), some (.int w), some (.int x2)], [], (hX I F sd))) rfl rfl) ?_
  refine pm_rc (fun p1 => ?_) (fun p1 => ?_)
  · show pm_EV (pm_run mt (d + 4)) (some .int) oX4_firstLine (5, [some (.ref 11), some (.int w), some (.int x2)], [], (hX I F sd)) = _
    refine Eq.trans (b := pm_EV (pm_run mt (d + 4)) (some .int) oX4_firstLine (9, [some (.ref 11), some (.int w), some (.int x2)], [.int (bI (xso ((I 5)) ((I 6)) x2 w))], (hX I F sd))) (pm_EV_cl 3 (call := pm_run mt (d + 4)) (d := (8, [some (.ref 11), some (.int w), some (.int x2)], [.int w, .int x2, .ref 11], (hX I F sd))) (a := 55) (as := [.ref 11, .int x2, .int w]) (hp := (hX I F sd)) (hp2 := (hX I F sd)) (i2 := 9) (ls := [some (.ref 11), some (.int w), some (.int x2)]) (rest := []) (r := some (.int (bI (xso ((I 5)) ((I 6)) x2 w)))) rfl rfl (sp_X4_isSo_11 (d + 0) I F sd x2 w (g1 p1))) ?_
    refine Eq.trans (pm_EV_at 0 (d := (9, [some (.ref 11), some (.int w), some (.int x2)], [.int (bI (xso ((I 5)) ((I 6)) x2 w))], (hX I F sd))) (x := if (bI (xso ((I 5)) ((I 6)) x2 w)) = 0 then .inl (12, [some (.ref 11), some (.int w), some (.int x2)], [], (hX I F sd)) else .inl (10, [some (.ref 11), some (.int w), some (.int x2)], [], (hX I F sd))) rfl rfl) ?_
    refine pm_rc (fun p2 => ?_) (fun p2 => ?_)
    · show pm_EV (pm_run mt (d + 4)) (some .int) oX4_firstLine (12, [some (.ref 11), some (.int w), some (.int x2)], [], (hX I F sd)) = _
      exact pm_EV_go 2 (d := (2, [some (.ref 11), some (.int w), some (.int (x2 + 1))], [], (hX I F sd))) rfl
    · show pm_EV (pm_run mt (d + 4)) (some .int) oX4_firstLine (10, [some (.ref 11), some (.int w), some (.int x2)], [], (hX I F sd)) = _
      exact pm_EV_at 1 (d := (11, [some (.ref 11), some (.int w), some (.int x2)], [.int x2], (hX I F sd))) rfl rfl
  · show pm_EV (pm_run mt (d + 4)) (some .int) oX4_firstLine (14, [some (.ref 11), some (.int w), some (.int x2)], [], (hX I F sd)) = _
    exact pm_EV_at 1 (d := (15, [some (.ref 11), some (.int w), some (.int x2)], [.int (-9)], (hX I F sd))) rfl rfl
set_option maxRecDepth 100000 in
set_option maxHeartbeats 4000000 in
theorem en_X4_firstLine_11 (d : Nat) (I : Nat → Int32) (F : Nat → Nat → Int32) (sd : Int64) (w : Int32) : pm_run mt (d + 5) 57 [.ref 11, .int w] (hX I F sd) = pm_EV (pm_run mt (d + 4)) (some .int) oX4_firstLine (0, [some (.ref 11), some (.int w), none], [], (hX I F sd)) := rfl
set_option maxRecDepth 100000 in
set_option maxHeartbeats 4000000 in
theorem sp_X4_firstLine_11 (d : Nat) (I : Nat → Int32) (F : Nat → Nat → Int32) (sd : Int64) (w : Int32) : pm_run mt (d + 5) 57 [.ref 11, .int w] (hX I F sd) = some (some (.int (xlnF (I 5) (I 6) w 100 0)), (hX I F sd)) := by
  rw [en_X4_firstLine_11, tr_X4_firstLine_11_0]
  have key : ∀ (m k : Nat), k + m = 100 → pm_EV (pm_run mt (d + 4)) (some .int) oX4_firstLine (2, [some (.ref 11), some (.int w), some (.int (nI k))], [], hX I F sd) = some (some (.int (xlnF (I 5) (I 6) w m k)), hX I F sd) := by
    intro m
    induction m with
    | zero =>
      intro k hk
      obtain rfl : k = 100 := by omega
      rw [tr_X4_firstLine_11_2 _ _ _ _ _ _ (fun h => absurd h (by decide)), if_neg (by decide), xlnF]
    | succ m ih =>
      intro k hk
      rw [tr_X4_firstLine_11_2 _ _ _ _ _ _ (fun _ => inr_mk (n := 100) (by decide) (by omega)), if_pos (by rw [show (100 : Int32) = nI 100 from rfl, nI_ltI (by omega) (by decide)]; omega), nI_p1, xlnF]
      simp only [bI_0]
      cases c2 : xso (I 5) (I 6) (nI k) w
      · rw [if_pos rfl, if_neg (by decide)]; exact ih _ (by omega)
      · rw [if_neg (by decide), if_pos rfl]
  exact key 100 0 rfl
def xbit (a b : Int32) : Int32 := 1 <<< ((3 * a + b) &&& 31)
def xgain (k p c : Int32) : Int32 := if k &&& p = 0 then 0 - c else 5 - c
def xbad (k a b c : Int32) : Bool := decide (xgain k (xbit a b) a < xgain k (xbit c b) c) || decide (xgain k (xbit a b) b < xgain k (xbit a c) c)
def xrest (k a b : Int32) : Bool := !xbad k a b (nI 0) && (!xbad k a b (nI 1) && !xbad k a b (nI 2))
def xrmB (k a : Int32) : Nat → Nat → Int32 → Int32
  | 0, _, n => n
  | m + 1, b, n => xrmB k a m (b + 1) (if xrest k a (nI b) = true then n + 1 else n)
def xrmA (k : Int32) : Nat → Nat → Int32 → Int32
  | 0, _, n => n
  | m + 1, a, n => xrmA k m (a + 1) (xrmB k (nI a) 3 0 n)
def xrfB (k a : Int32) (e : Int32) : Nat → Nat → Int32
  | 0, _ => e
  | m + 1, b => if xrest k a (nI b) = true then 10 * a + nI b else xrfB k a e m (b + 1)
def xrfA (k : Int32) : Nat → Nat → Int32
  | 0, _ => -9
  | m + 1, a => xrfB k (nI a) (xrfA k m (a + 1)) 3 0
set_option maxRecDepth 100000 in
set_option maxHeartbeats 4000000 in
theorem tr_X3_bit_0 (d : Nat) (I : Nat → Int32) (F : Nat → Nat → Int32) (sd : Int64) (a : Int32) (b : Int32) : pm_EV (pm_run mt (d + 0)) (some .int) oX3_bit (0, [some (.int a), some (.int b)], [], (hX I F sd)) = some (some (.int ((1 : Int32) <<< (((3 * a) + b) &&& 31))), (hX I F sd)) := by
  exact pm_EV_at 7 (d := (7, [some (.int a), some (.int b)], [.int ((1 : Int32) <<< (((3 * a) + b) &&& 31))], (hX I F sd))) rfl rfl
set_option maxRecDepth 100000 in
set_option maxHeartbeats 4000000 in
theorem en_X3_bit (d : Nat) (I : Nat → Int32) (F : Nat → Nat → Int32) (sd : Int64) (a : Int32) (b : Int32) : pm_run mt (d + 1) 47 [.int a, .int b] (hX I F sd) = pm_EV (pm_run mt (d + 0)) (some .int) oX3_bit (0, [some (.int a), some (.int b)], [], (hX I F sd)) := rfl
set_option maxRecDepth 100000 in
set_option maxHeartbeats 4000000 in
theorem sp_X3_bit (d : Nat) (I : Nat → Int32) (F : Nat → Nat → Int32) (sd : Int64) (a : Int32) (b : Int32) : pm_run mt (d + 1) 47 [.int a, .int b] (hX I F sd) = some (some (.int (xbit a b)), (hX I F sd)) := by
  rw [en_X3_bit, tr_X3_bit_0]
  rfl
set_option maxRecDepth 100000 in
set_option maxHeartbeats 4000000 in
theorem tr_X3_gain_0 (d : Nat) (I : Nat → Int32) (F : Nat → Nat → Int32) (sd : Int64) (k : Int32) (p : Int32) (c : Int32) : pm_EV (pm_run mt (d + 0)) (some .int) oX3_gain (0, [some (.int k), some (.int p), some (.int c)], [], (hX I F sd)) = (if (k &&& p) = 0 then some (some (.int (0 - c)), (hX I F sd)) else some (some (.int (5 - c)), (hX I F sd))) := by
  refine Eq.trans (pm_EV_at 3 (d := (3, [some (.int k), some (.int p), some (.int c)], [.int (k &&& p)], (hX I F sd))) (x := if (k &&& p) = 0 then .inl (6, [some (.int k), some (.int p), some (.int c)], [], (hX I F sd)) else .inl (4, [some (.int k), some (.int p), some (.int c)], [], (hX I F sd))) rfl rfl) ?_
  refine pm_rc (fun p1 => ?_) (fun p1 => ?_)
  · show pm_EV (pm_run mt (d + 0)) (some .int) oX3_gain (6, [some (.int k), some (.int p), some (.int c)], [], (hX I F sd)) = _
    exact pm_EV_at 3 (d := (9, [some (.int k), some (.int p), some (.int c)], [.int (0 - c)], (hX I F sd))) rfl rfl
  · show pm_EV (pm_run mt (d + 0)) (some .int) oX3_gain (4, [some (.int k), some (.int p), some (.int c)], [], (hX I F sd)) = _
    exact pm_EV_at 4 (d := (9, [some (.int k), some (.int p), some (.int c)], [.int (5 - c)], (hX I F sd))) rfl rfl
set_option maxRecDepth 100000 in
set_option maxHeartbeats 4000000 in
theorem en_X3_gain (d : Nat) (I : Nat → Int32) (F : Nat → Nat → Int32) (sd : Int64) (k : Int32) (p : Int32) (c : Int32) : pm_run mt (d + 1) 51 [.int k, .int p, .int c] (hX I F sd) = pm_EV (pm_run mt (d + 0)) (some .int) oX3_gain (0, [some (.int k), some (.int p), some (.int c)], [], (hX I F sd)) := rfl
set_option maxRecDepth 100000 in
set_option maxHeartbeats 4000000 in
theorem sp_X3_gain (d : Nat) (I : Nat → Int32) (F : Nat → Nat → Int32) (sd : Int64) (k : Int32) (p : Int32) (c : Int32) : pm_run mt (d + 1) 51 [.int k, .int p, .int c] (hX I F sd) = some (some (.int (xgain k p c)), (hX I F sd)) := by
  rw [en_X3_gain, tr_X3_gain_0]
  unfold xgain
  simp only [pm_pi]
set_option maxRecDepth 100000 in
set_option maxHeartbeats 4000000 in
theorem tr_X3_isRest_0 (d : Nat) (I : Nat → Int32) (F : Nat → Nat → Int32) (sd : Int64) (k : Int32) (a : Int32) (b : Int32) : pm_EV (pm_run mt (d + 1)) (some .boolean) oX3_isRest (0, [some (.int k), some (.int a), some (.int b), none], [], (hX I F sd)) = pm_EV (pm_run mt (d + 1)) (some .boolean) oX3_isRest (2, [some (.int k), some (.int a), some (.int b), some (.int 0)], [], (hX I F sd)) := by
  exact pm_EV_go 2 (d := (2, [some (.int k), some (.int a), some (.int b), some (.int 0)], [], (hX I F sd))) rfl
set_option maxRecDepth 100000 in
set_option maxHeartbeats 4000000 in
theorem tr_X3_isRest_2 (d : Nat) (I : Nat → Int32) (F : Nat → Nat → Int32) (sd : Int64) (k : Int32) (a : Int32) (b : Int32) (x3 : Int32) : pm_EV (pm_run mt (d + 1)) (some .boolean) oX3_isRest (2, [some (.int k), some (.int a), some (.int b), some (.int x3)], [], (hX I F sd)) = (if x3 < 3 then (if (xgain k (xbit a b) a) < (xgain k (xbit x3 b) x3) then some (some (.int 0), (hX I F sd)) else (if (xgain k (xbit a b) b) < (xgain k (xbit a x3) x3) then some (some (.int 0), (hX I F sd)) else pm_EV (pm_run mt (d + 1)) (some .boolean) oX3_isRest (2, [some (.int k), some (.int a), some (.int b), some (.int (x3 + 1))], [], (hX I F sd)))) else some (some (.int 1), (hX I F sd))) := by
  refine Eq.trans (pm_EV_at 2 (d := (4, [some (.int k), some (.int a), some (.int b), some (.int x3)], [.int 3, .int x3], (hX I F sd))) (x := if x3 < 3 then .inl (5, [some (.int k), some (.int a), some (.int b), some (.int x3)], [], (hX I F sd)) else .inl (35, [some (.int k), some (.int a), some (.int b), some (.int x3)], [], (hX I F sd))) rfl rfl) ?_
  refine pm_rc (fun p1 => ?_) (fun p1 => ?_)
  · show pm_EV (pm_run mt (d + 1)) (some .boolean) oX3_isRest (5, [some (.int k), some (.int a), some (.int b), some (.int x3)], [], (hX I F sd)) = _
    refine Eq.trans (b := pm_EV (pm_run mt (d + 1)) (some .boolean) oX3_isRest (9, [some (.int k), some (.int a), some (.int b), some (.int x3)], [.int (xbit x3 b), .int k], (hX I F sd))) (pm_EV_cl 3 (call := pm_run mt (d + 1)) (d := (8, [some (.int k), some (.int a), some (.int b), some (.int x3)], [.int b, .int x3, .int k], (hX I F sd))) (a := 47) (as := [.int x3, .int b]) (hp := (hX I F sd)) (hp2 := (hX I F sd)) (i2 := 9) (ls := [some (.int k), some (.int a), some (.int b), some (.int x3)]) (rest := [.int k]) (r := some (.int (xbit x3 b))) rfl rfl (sp_X3_bit (d + 0) I F sd x3 b )) ?_
    refine Eq.trans (b := pm_EV (pm_run mt (d + 1)) (some .boolean) oX3_isRest (11, [some (.int k), some (.int a), some (.int b), some (.int x3)], [.int (xgain k (xbit x3 b) x3)], (hX I F sd))) (pm_EV_cl 1 (call := pm_run mt (d + 1)) (d := (10, [some (.int k), some (.int a), some (.int b), some (.int x3)], [.int x3, .int (xbit x3 b), .int k], (hX I F sd))) (a := 51) (as := [.int k, .int (xbit x3 b), .int x3]) (hp := (hX I F sd)) (hp2 := (hX I F sd)) (i2 := 11) (ls := [some (.int k), some (.int a), some (.int b), some (.int x3)]) (rest := []) (r := some (.int (xgain k (xbit x3 b) x3))) rfl rfl (sp_X3_gain (d + 0) I F sd k (xbit x3 b) x3 )) ?_
    refine Eq.trans (b := pm_EV (pm_run mt (d + 1)) (some .boolean) oX3_isRest (15, [some (.int k), some (.int a), some (.int b), some (.int x3)], [.int (xbit a b), .int k, .int (xgain k (xbit x3 b) x3)], (hX I F sd))) (pm_EV_cl 3 (call := pm_run mt (d + 1)) (d := (14, [some (.int k), some (.int a), some (.int b), some (.int x3)], [.int b, .int a, .int k, .int (xgain k (xbit x3 b) x3)], (hX I F sd))) (a := 47) (as := [.int a, .int b]) (hp := (hX I F sd)) (hp2 := (hX I F sd)) (i2 := 15) (ls := [some (.int k), some (.int a), some (.int b), some (.int x3)]) (rest := [.int k, .int (xgain k (xbit x3 b) x3)]) (r := some (.int (xbit a b))) rfl rfl (sp_X3_bit (d + 0) I F sd a b )) ?_
    refine Eq.trans (b := pm_EV (pm_run mt (d + 1)) (some .boolean) oX3_isRest (17, [some (.int k), some (.int a), some (.int b), some (.int x3)], [.int (xgain k (xbit a b) a), .int (xgain k (xbit x3 b) x3)], (hX I F sd))) (pm_EV_cl 1 (call := pm_run mt (d + 1)) (d := (16, [some (.int k), some (.int a), some (.int b), some (.int x3)], [.int a, .int (xbit a b), .int k, .int (xgain k (xbit x3 b) x3)], (hX I F sd))) (a := 51) (as := [.int k, .int (xbit a b), .int a]) (hp := (hX I F sd)) (hp2 := (hX I F sd)) (i2 := 17) (ls := [some (.int k), some (.int a), some (.int b), some (.int x3)]) (rest := [.int (xgain k (xbit x3 b) x3)]) (r := some (.int (xgain k (xbit a b) a))) rfl rfl (sp_X3_gain (d + 0) I F sd k (xbit a b) a )) ?_
    refine Eq.trans (pm_EV_at 0 (d := (17, [some (.int k), some (.int a), some (.int b), some (.int x3)], [.int (xgain k (xbit a b) a), .int (xgain k (xbit x3 b) x3)], (hX I F sd))) (x := if (xgain k (xbit a b) a) < (xgain k (xbit x3 b) x3) then .inl (31, [some (.int k), some (.int a), some (.int b), some (.int x3)], [], (hX I F sd)) else .inl (18, [some (.int k), some (.int a), some (.int b), some (.int x3)], [], (hX I F sd))) rfl rfl) ?_
    refine pm_rc (fun p2 => ?_) (fun p2 => ?_)
    · show pm_EV (pm_run mt (d + 1)) (some .boolean) oX3_isRest (31, [some (.int k), some (.int a), some (.int b), some (.int x3)], [], (hX I F sd)) = _
      exact pm_EV_at 1 (d := (32, [some (.int k), some (.int a), some (.int b), some (.int x3)], [.int 0], (hX I F sd))) rfl rfl
    · show pm_EV (pm_run mt (d + 1)) (some .boolean) oX3_isRest (18, [some (.int k), some (.int a), some (.int b), some (.int x3)], [], (hX I F sd)) = _
      refine Eq.trans (b := pm_EV (pm_run mt (d + 1)) (some .boolean) oX3_isRest (22, [some (.int k), some (.int a), some (.int b), some (.int x3)], [.int (xbit a x3), .int k], (hX I F sd))) (pm_EV_cl 3 (call := pm_run mt (d + 1)) (d := (21, [some (.int k), some (.int a), some (.int b), some (.int x3)], [.int x3, .int a, .int k], (hX I F sd))) (a := 47) (as := [.int a, .int x3]) (hp := (hX I F sd)) (hp2 := (hX I F sd)) (i2 := 22) (ls := [some (.int k), some (.int a), some (.int b), some (.int x3)]) (rest := [.int k]) (r := some (.int (xbit a x3))) rfl rfl (sp_X3_bit (d + 0) I F sd a x3 )) ?_
      refine Eq.trans (b := pm_EV (pm_run mt (d + 1)) (some .boolean) oX3_isRest (24, [some (.int k), some (.int a), some (.int b), some (.int x3)], [.int (xgain k (xbit a x3) x3)], (hX I F sd))) (pm_EV_cl 1 (call := pm_run mt (d + 1)) (d := (23, [some (.int k), some (.int a), some (.int b), some (.int x3)], [.int x3, .int (xbit a x3), .int k], (hX I F sd))) (a := 51) (as := [.int k, .int (xbit a x3), .int x3]) (hp := (hX I F sd)) (hp2 := (hX I F sd)) (i2 := 24) (ls := [some (.int k), some (.int a), some (.int b), some (.int x3)]) (rest := []) (r := some (.int (xgain k (xbit a x3) x3))) rfl rfl (sp_X3_gain (d + 0) I F sd k (xbit a x3) x3 )) ?_
      refine Eq.trans (b := pm_EV (pm_run mt (d + 1)) (some .boolean) oX3_isRest (28, [some (.int k), some (.int a), some (.int b), some (.int x3)], [.int (xbit a b), .int k, .int (xgain k (xbit a x3) x3)], (hX I F sd))) (pm_EV_cl 3 (call := pm_run mt (d + 1)) (d := (27, [some (.int k), some (.int a), some (.int b), some (.int x3)], [.int b, .int a, .int k, .int (xgain k (xbit a x3) x3)], (hX I F sd))) (a := 47) (as := [.int a, .int b]) (hp := (hX I F sd)) (hp2 := (hX I F sd)) (i2 := 28) (ls := [some (.int k), some (.int a), some (.int b), some (.int x3)]) (rest := [.int k, .int (xgain k (xbit a x3) x3)]) (r := some (.int (xbit a b))) rfl rfl (sp_X3_bit (d + 0) I F sd a b )) ?_
      refine Eq.trans (b := pm_EV (pm_run mt (d + 1)) (some .boolean) oX3_isRest (30, [some (.int k), some (.int a), some (.int b), some (.int x3)], [.int (xgain k (xbit a b) b), .int (xgain k (xbit a x3) x3)], (hX I F sd))) (pm_EV_cl 1 (call := pm_run mt (d + 1)) (d := (29, [some (.int k), some (.int a), some (.int b), some (.int x3)], [.int b, .int (xbit a b), .int k, .int (xgain k (xbit a x3) x3)], (hX I F sd))) (a := 51) (as := [.int k, .int (xbit a b), .int b]) (hp := (hX I F sd)) (hp2 := (hX I F sd)) (i2 := 30) (ls := [some (.int k), some (.int a), some (.int b), some (.int x3)]) (rest := [.int (xgain k (xbit a x3) x3)]) (r := some (.int (xgain k (xbit a b) b))) rfl rfl (sp_X3_gain (d + 0) I F sd k (xbit a b) b )) ?_
      refine Eq.trans (pm_EV_at 0 (d := (30, [some (.int k), some (.int a), some (.int b), some (.int x3)], [.int (xgain k (xbit a b) b), .int (xgain k (xbit a x3) x3)], (hX I F sd))) (x := if (xgain k (xbit a b) b) < (xgain k (xbit a x3) x3) then .inl (31, [some (.int k), some (.int a), some (.int b), some (.int x3)], [], (hX I F sd)) else .inl (33, [some (.int k), some (.int a), some (.int b), some (.int x3)], [], (hX I F sd))) rfl rfl) ?_
      refine pm_rc (fun p3 => ?_) (fun p3 => ?_)
      · show pm_EV (pm_run mt (d + 1)) (some .boolean) oX3_isRest (31, [some (.int k), some (.int a), some (.int b), some (.int x3)], [], (hX I F sd)) = _
        exact pm_EV_at 1 (d := (32, [some (.int k), some (.int a), some (.int b), some (.int x3)], [.int 0], (hX I F sd))) rfl rfl
      · show pm_EV (pm_run mt (d + 1)) (some .boolean) oX3_isRest (33, [some (.int k), some (.int a), some (.int b), some (.int x3)], [], (hX I F sd)) = _
        exact pm_EV_go 2 (d := (2, [some (.int k), some (.int a), some (.int b), some (.int (x3 + 1))], [], (hX I F sd))) rfl
  · show pm_EV (pm_run mt (d + 1)) (some .boolean) oX3_isRest (35, [some (.int k), some (.int a), some (.int b), some (.int x3)], [], (hX I F sd)) = _
    exact pm_EV_at 1 (d := (36, [some (.int k), some (.int a), some (.int b), some (.int x3)], [.int 1], (hX I F sd))) rfl rfl
set_option maxRecDepth 100000 in
set_option maxHeartbeats 4000000 in
theorem en_X3_isRest (d : Nat) (I : Nat → Int32) (F : Nat → Nat → Int32) (sd : Int64) (k : Int32) (a : Int32) (b : Int32) : pm_run mt (d + 2) 50 [.int k, .int a, .int b] (hX I F sd) = pm_EV (pm_run mt (d + 1)) (some .boolean) oX3_isRest (0, [some (.int k), some (.int a), some (.int b), none], [], (hX I F sd)) := rfl
set_option maxRecDepth 100000 in
set_option maxHeartbeats 4000000 in
theorem sp_X3_isRest (d : Nat) (I : Nat → Int32) (F : Nat → Nat → Int32) (sd : Int64) (k : Int32) (a : Int32) (b : Int32) : pm_run mt (d + 2) 50 [.int k, .int a, .int b] (hX I F sd) = some (some (.int (bI (xrest k a b))), (hX I F sd)) := by
  rw [en_X3_isRest, tr_X3_isRest_0]
  have st : ∀ j : Nat, j < 3 → pm_EV (pm_run mt (d + 1)) (some .boolean) oX3_isRest (2, [some (.int k), some (.int a), some (.int b), some (.int (nI j))], [], hX I F sd) = if xbad k a b (nI j) = true then some (some (.int 0), hX I F sd) else pm_EV (pm_run mt (d + 1)) (some .boolean) oX3_isRest (2, [some (.int k), some (.int a), some (.int b), some (.int (nI (j + 1)))], [], hX I F sd) := by
    intro j hj
    rw [tr_X3_isRest_2, if_pos (by rw [show (3 : Int32) = nI 3 from rfl, nI_ltI (by omega) (by decide)]; omega), nI_p1]
    unfold xbad
    by_cases c1 : xgain k (xbit a b) a < xgain k (xbit (nI j) b) (nI j)
    · simp only [c1, if_true, decide_true, Bool.true_or]
    · by_cases c2 : xgain k (xbit a b) b < xgain k (xbit a (nI j)) (nI j)
      · simp only [c1, c2, if_true, if_false, decide_true, decide_false, Bool.false_or]
      · simp only [c1, c2, if_false, decide_false, Bool.false_or, Bool.false_eq_true]
  have en : pm_EV (pm_run mt (d + 1)) (some .boolean) oX3_isRest (2, [some (.int k), some (.int a), some (.int b), some (.int (nI 3))], [], hX I F sd) = some (some (.int 1), hX I F sd) := by
    rw [tr_X3_isRest_2, if_neg (by decide)]
  refine (st 0 (by decide)).trans ?_
  unfold xrest bI
  cases c0 : xbad k a b (nI 0)
  · rw [if_neg (by decide), st 1 (by decide)]
    cases c1 : xbad k a b (nI 1)
    · rw [if_neg (by decide), st 2 (by decide)]
      cases c2 : xbad k a b (nI 2)
      · rw [if_neg (by decide), en]; rfl
      · rw [if_pos rfl]; rfl
    · rw [if_pos rfl]; rfl
  · rw [if_pos rfl]; rfl
set_option maxRecDepth 100000 in
set_option maxHeartbeats 4000000 in
theorem tr_X3_howMany_0 (d : Nat) (I : Nat → Int32) (F : Nat → Nat → Int32) (sd : Int64) (k : Int32) : pm_EV (pm_run mt (d + 2)) (some .int) oX3_howMany (0, [some (.int k), none, none, none], [], (hX I F sd)) = pm_EV (pm_run mt (d + 2)) (some .int) oX3_howMany (4, [some (.int k), some (.int 0), some (.int 0), none], [], (hX I F sd)) := by
  exact pm_EV_go 4 (d := (4, [some (.int k), some (.int 0), some (.int 0), none], [], (hX I F sd))) rfl
set_option maxRecDepth 100000 in
set_option maxHeartbeats 4000000 in
theorem tr_X3_howMany_4 (d : Nat) (I : Nat → Int32) (F : Nat → Nat → Int32) (sd : Int64) (k : Int32) (x1 : Int32) (x2 : Int32) (o3 : Option Value) : pm_EV (pm_run mt (d + 2)) (some .int) oX3_howMany (4, [some (.int k), some (.int x1), some (.int x2), o3], [], (hX I F sd)) = (if x2 < 3 then pm_EV (pm_run mt (d + 2)) (some .int) oX3_howMany (9, [some (.int k), some (.int x1), some (.int x2), some (.int 0)], [], (hX I F sd)) else some (some (.int x1), (hX I F sd))) := by
  refine Eq.trans (pm_EV_at 2 (d := (6, [some (.int k), some (.int x1), some (.int x2), o3], [.int 3, .int x2], (hX I F sd))) (x := if x2 < 3 then .inl (7, [some (.int k), some (.int x1), some (.int x2), o3], [], (hX I F sd)) else .inl (22, [some (.int k), some (.int x1), some (.int x2), o3], [], (hX I F sd))) rfl rfl) ?_
  refine pm_rc (fun p1 => ?_) (fun p1 => ?_)
  · show pm_EV (pm_run mt (d + 2)) (some .int) oX3_howMany (7, [some (.int k), some (.int x1), some (.int x2), o3], [], (hX I F sd)) = _
    exact pm_EV_go 2 (d := (9, [some (.int k), some (.int x1), some (.int x2), some (.int 0)], [], (hX I F sd))) rfl
  · show pm_EV (pm_run mt (d + 2)) (some .int) oX3_howMany (22, [some (.int k), some (.int x1), some (.int x2), o3], [], (hX I F sd)) = _
    exact pm_EV_at 1 (d := (23, [some (.int k), some (.int x1), some (.int x2), o3], [.int x1], (hX I F sd))) rfl rfl
set_option maxRecDepth 100000 in
set_option maxHeartbeats 4000000 in
theorem tr_X3_howMany_9 (d : Nat) (I : Nat → Int32) (F : Nat → Nat → Int32) (sd : Int64) (k : Int32) (x1 : Int32) (x2 : Int32) (x3 : Int32) : pm_EV (pm_run mt (d + 2)) (some .int) oX3_howMany (9, [some (.int k), some (.int x1), some (.int x2), some (.int x3)], [], (hX I F sd)) = (if x3 < 3 then (if (bI (xrest k x2 x3)) = 0 then pm_EV (pm_run mt (d + 2)) (some .int) oX3_howMany (9, [some (.int k), some (.int x1), some (.int x2), some (.int (x3 + 1))], [], (hX I F sd)) else pm_EV (pm_run mt (d + 2)) (some .int) oX3_howMany (9, [some (.int k), some (.int (x1 + 1)), some (.int x2), some (.int (x3 + 1))], [], (hX I F sd))) else pm_EV (pm_run mt (d + 2)) (some .int) oX3_howMany (4, [some (.int k), some (.int x1), some (.int (x2 + 1)), some (.int x3)], [], (hX I F sd))) := by
  refine Eq.trans (pm_EV_at 2 (d := (11, [some (.int k), some (.int x1), some (.int x2), some (.int x3)], [.int 3, .int x3], (hX I F sd))) (x := if x3 < 3 then .inl (12, [some (.int k), some (.int x1), some (.int x2), some (.int x3)], [], (hX I F sd)) else .inl (20, [some (.int k), some (.int x1), some (.int x2), some (.int x3)], [], (hX I F sd))) rfl rfl) ?_
  refine pm_rc (fun p1 => ?_) (fun p1 => ?_)
  · show pm_EV (pm_run mt (d + 2)) (some .int) oX3_howMany (12, [some (.int k), some (.int x1), some (.int x2), some (.int x3)], [], (hX I F sd)) = _
    refine Eq.trans (b := pm_EV (pm_run mt (d + 2)) (some .int) oX3_howMany (16, [some (.int k), some (.int x1), some (.int x2), some (.int x3)], [.int (bI (xrest k x2 x3))], (hX I F sd))) (pm_EV_cl 3 (call := pm_run mt (d + 2)) (d := (15, [some (.int k), some (.int x1), some (.int x2), some (.int x3)], [.int x3, .int x2, .int k], (hX I F sd))) (a := 50) (as := [.int k, .int x2, .int x3]) (hp := (hX I F sd)) (hp2 := (hX I F sd)) (i2 := 16) (ls := [some (.int k), some (.int x1), some (.int x2), some (.int x3)]) (rest := []) (r := some (.int (bI (xrest k x2 x3)))) rfl rfl (sp_X3_isRest (d + 0) I F sd k x2 x3 )) ?_
    refine Eq.trans (pm_EV_at 0 (d := (16, [some (.int k), some (.int x1), some (.int x2), some (.int x3)], [.int (bI (xrest k x2 x3))], (hX I F sd))) (x := if (bI (xrest k x2 x3)) = 0 then .inl (18, [some (.int k), some (.int x1), some (.int x2), some (.int x3)], [], (hX I F sd)) else .inl (17, [some (.int k), some (.int x1), some (.int x2), some (.int x3)], [], (hX I F sd))) rfl rfl) ?_
    refine pm_rc (fun p2 => ?_) (fun p2 => ?_)
    · show pm_EV (pm_run mt (d + 2)) (some .int) oX3_howMany (18, [some (.int k), some (.int x1), some (.int x2), some (.int x3)], [], (hX I F sd)) = _
      exact pm_EV_go 2 (d := (9, [some (.int k), some (.int x1), some (.int x2), some (.int (x3 + 1))], [], (hX I F sd))) rfl
    · show pm_EV (pm_run mt (d + 2)) (some .int) oX3_howMany (17, [some (.int k), some (.int x1), some (.int x2), some (.int x3)], [], (hX I F sd)) = _
      exact pm_EV_go 3 (d := (9, [some (.int k), some (.int (x1 + 1)), some (.int x2), some (.int (x3 + 1))], [], (hX I F sd))) rfl
  · show pm_EV (pm_run mt (d + 2)) (some .int) oX3_howMany (20, [some (.int k), some (.int x1), some (.int x2), some (.int x3)], [], (hX I F sd)) = _
    exact pm_EV_go 2 (d := (4, [some (.int k), some (.int x1), some (.int (x2 + 1)), some (.int x3)], [], (hX I F sd))) rfl
set_option maxRecDepth 100000 in
set_option maxHeartbeats 4000000 in
theorem en_X3_howMany (d : Nat) (I : Nat → Int32) (F : Nat → Nat → Int32) (sd : Int64) (k : Int32) : pm_run mt (d + 3) 48 [.int k] (hX I F sd) = pm_EV (pm_run mt (d + 2)) (some .int) oX3_howMany (0, [some (.int k), none, none, none], [], (hX I F sd)) := rfl
set_option maxRecDepth 100000 in
set_option maxHeartbeats 4000000 in
theorem sp_X3_howMany (d : Nat) (I : Nat → Int32) (F : Nat → Nat → Int32) (sd : Int64) (k : Int32) : pm_run mt (d + 3) 48 [.int k] (hX I F sd) = some (some (.int (xrmA k 3 0 0)), (hX I F sd)) := by
  rw [en_X3_howMany, tr_X3_howMany_0]
  have inner : ∀ (m j : Nat) (a n : Int32), j + m = 3 → ∃ x3, pm_EV (pm_run mt (d + 2)) (some .int) oX3_howMany (9, [some (.int k), some (.int n), some (.int a), some (.int (nI j))], [], hX I F sd) = pm_EV (pm_run mt (d + 2)) (some .int) oX3_howMany (4, [some (.int k), some (.int (xrmB k a m j n)), some (.int (a + 1)), x3], [], hX I F sd) := by
    intro m
    induction m with
    | zero =>
      intro j a n hj
      obtain rfl : j = 3 := by omega
      exact ⟨_, by rw [tr_X3_howMany_9, if_neg (by decide)]; rfl⟩
    | succ m ih =>
      intro j a n hj
      obtain ⟨x3, hx⟩ := ih (j + 1) a (if xrest k a (nI j) = true then n + 1 else n) (by omega)
      refine ⟨x3, ?_⟩
      rw [tr_X3_howMany_9, if_pos (by rw [show (3 : Int32) = nI 3 from rfl, nI_ltI (by omega) (by decide)]; omega), nI_p1, xrmB, ← hx]
      simp only [bI_0]
      cases c : xrest k a (nI j)
      · rw [if_pos rfl, if_neg (by decide)]
      · rw [if_neg (by decide), if_pos rfl]
  have outer : ∀ (m j : Nat) (n : Int32) (o3 : Option Value), j + m = 3 → pm_EV (pm_run mt (d + 2)) (some .int) oX3_howMany (4, [some (.int k), some (.int n), some (.int (nI j)), o3], [], hX I F sd) = some (some (.int (xrmA k m j n)), hX I F sd) := by
    intro m
    induction m with
    | zero =>
      intro j n o3 hj
      obtain rfl : j = 3 := by omega
      rw [tr_X3_howMany_4, if_neg (by decide), xrmA]
    | succ m ih =>
      intro j n o3 hj
      rw [tr_X3_howMany_4, if_pos (by rw [show (3 : Int32) = nI 3 from rfl, nI_ltI (by omega) (by decide)]; omega)]
      obtain ⟨x3, hx⟩ := inner 3 0 (nI j) n rfl
      refine hx.trans ?_
      rw [nI_p1, xrmA]
      exact ih _ _ _ (by omega)
  exact outer 3 0 0 none rfl
set_option maxRecDepth 100000 in
set_option maxHeartbeats 4000000 in
theorem tr_X3_first_0 (d : Nat) (I : Nat → Int32) (F : Nat → Nat → Int32) (sd : Int64) (k : Int32) : pm_EV (pm_run mt (d + 2)) (some .int) oX3_first (0, [some (.int k), none, none], [], (hX I F sd)) = pm_EV (pm_run mt (d + 2)) (some .int) oX3_first (2, [some (.int k), some (.int 0), none], [], (hX I F sd)) := by
  exact pm_EV_go 2 (d := (2, [some (.int k), some (.int 0), none], [], (hX I F sd))) rfl
set_option maxRecDepth 100000 in
set_option maxHeartbeats 4000000 in
theorem tr_X3_first_2 (d : Nat) (I : Nat → Int32) (F : Nat → Nat → Int32) (sd : Int64) (k : Int32) (x1 : Int32) (o2 : Option Value) : pm_EV (pm_run mt (d + 2)) (some .int) oX3_first (2, [some (.int k), some (.int x1), o2], [], (hX I F sd)) = (if x1 < 3 then pm_EV (pm_run mt (d + 2)) (some .int) oX3_first (7, [some (.int k), some (.int x1), some (.int 0)], [], (hX I F sd)) else some (some (.int (-9)), (hX I F sd))) := by
  refine Eq.trans (pm_EV_at 2 (d := (4, [some (.int k), some (.int x1), o2], [.int 3, .int x1], (hX I F sd))) (x := if x1 < 3 then .inl (5, [some (.int k), some (.int x1), o2], [], (hX I F sd)) else .inl (25, [some (.int k), some (.int x1), o2], [], (hX I F sd))) rfl rfl) ?_
  refine pm_rc (fun p1 => ?_) (fun p1 => ?_)
  · show pm_EV (pm_run mt (d + 2)) (some .int) oX3_first (5, [some (.int k), some (.int x1), o2], [], (hX I F sd)) = _
    exact pm_EV_go 2 (d := (7, [some (.int k), some (.int x1), some (.int 0)], [], (hX I F sd))) rfl
  · show pm_EV (pm_run mt (d + 2)) (some .int) oX3_first (25, [some (.int k), some (.int x1), o2], [], (hX I F sd)) = _
    exact pm_EV_at 1 (d := (26, [some (.int k), some (.int x1), o2], [.int (-9)], (hX I F sd))) rfl rfl
set_option maxRecDepth 100000 in
set_option maxHeartbeats 4000000 in
theorem tr_X3_first_7 (d : Nat) (I : Nat → Int32) (F : Nat → Nat → Int32) (sd : Int64) (k : Int32) (x1 : Int32) (x2 : Int32) : pm_EV (pm_run mt (d + 2)) (some .int) oX3_first (7, [some (.int k), some (.int x1), some (.int x2)], [], (hX I F sd)) = (if x2 < 3 then (if (bI (xrest k x1 x2)) = 0 then pm_EV (pm_run mt (d + 2)) (some .int) oX3_first (7, [some (.int k), some (.int x1), some (.int (x2 + 1))], [], (hX I F sd)) else some (some (.int ((10 * x1) + x2)), (hX I F sd))) else pm_EV (pm_run mt (d + 2)) (some .int) oX3_first (2, [some (.int k), some (.int (x1 + 1)), some (.int x2)], [], (hX I F sd))) := by
  refine Eq.trans (pm_EV_at 2 (d := (9, [some (.int k), some (.int x1), some (.int x2)], [.int 3, .int x2], (hX I F sd))) (x := if x2 < 3 then .inl (10, [some (.int k), some (.int x1), some (.int x2)], [], (hX I F sd)) else .inl (23, [some (.int k), some (.int x1), some (.int x2)], [], (hX I F sd))) rfl rfl) ?_
  refine pm_rc (fun p1 => ?_) (fun p1 => ?_)
  · show pm_EV (pm_run mt (d + 2)) (some .int) oX3_first (10, [some (.int k), some (.int x1), some (.int x2)], [], (hX I F sd)) = _
    refine Eq.trans (b := pm_EV (pm_run mt (d + 2)) (some .int) oX3_first (14, [some (.int k), some (.int x1), some (.int x2)], [.int (bI (xrest k x1 x2))], (hX I F sd))) (pm_EV_cl 3 (call := pm_run mt (d + 2)) (d := (13, [some (.int k), some (.int x1), some (.int x2)], [.int x2, .int x1, .int k], (hX I F sd))) (a := 50) (as := [.int k, .int x1, .int x2]) (hp := (hX I F sd)) (hp2 := (hX I F sd)) (i2 := 14) (ls := [some (.int k), some (.int x1), some (.int x2)]) (rest := []) (r := some (.int (bI (xrest k x1 x2)))) rfl rfl (sp_X3_isRest (d + 0) I F sd k x1 x2 )) ?_
    refine Eq.trans (pm_EV_at 0 (d := (14, [some (.int k), some (.int x1), some (.int x2)], [.int (bI (xrest k x1 x2))], (hX I F sd))) (x := if (bI (xrest k x1 x2)) = 0 then .inl (21, [some (.int k), some (.int x1), some (.int x2)], [], (hX I F sd)) else .inl (15, [some (.int k), some (.int x1), some (.int x2)], [], (hX I F sd))) rfl rfl) ?_
    refine pm_rc (fun p2 => ?_) (fun p2 => ?_)
    · show pm_EV (pm_run mt (d + 2)) (some .int) oX3_first (21, [some (.int k), some (.int x1), some (.int x2)], [], (hX I F sd)) = _
      exact pm_EV_go 2 (d := (7, [some (.int k), some (.int x1), some (.int (x2 + 1))], [], (hX I F sd))) rfl
    · show pm_EV (pm_run mt (d + 2)) (some .int) oX3_first (15, [some (.int k), some (.int x1), some (.int x2)], [], (hX I F sd)) = _
      exact pm_EV_at 5 (d := (20, [some (.int k), some (.int x1), some (.int x2)], [.int ((10 * x1) + x2)], (hX I F sd))) rfl rfl
  · show pm_EV (pm_run mt (d + 2)) (some .int) oX3_first (23, [some (.int k), some (.int x1), some (.int x2)], [], (hX I F sd)) = _
    exact pm_EV_go 2 (d := (2, [some (.int k), some (.int (x1 + 1)), some (.int x2)], [], (hX I F sd))) rfl
set_option maxRecDepth 100000 in
set_option maxHeartbeats 4000000 in
theorem en_X3_first (d : Nat) (I : Nat → Int32) (F : Nat → Nat → Int32) (sd : Int64) (k : Int32) : pm_run mt (d + 3) 49 [.int k] (hX I F sd) = pm_EV (pm_run mt (d + 2)) (some .int) oX3_first (0, [some (.int k), none, none], [], (hX I F sd)) := rfl
set_option maxRecDepth 100000 in
set_option maxHeartbeats 4000000 in
theorem sp_X3_first (d : Nat) (I : Nat → Int32) (F : Nat → Nat → Int32) (sd : Int64) (k : Int32) : pm_run mt (d + 3) 49 [.int k] (hX I F sd) = some (some (.int (xrfA k 3 0)), (hX I F sd)) := by
  rw [en_X3_first, tr_X3_first_0]
  have outer : ∀ (m j : Nat) (o3 : Option Value), j + m = 3 → pm_EV (pm_run mt (d + 2)) (some .int) oX3_first (2, [some (.int k), some (.int (nI j)), o3], [], hX I F sd) = some (some (.int (xrfA k m j)), hX I F sd) := by
    intro m
    induction m with
    | zero =>
      intro j o3 hj
      obtain rfl : j = 3 := by omega
      rw [tr_X3_first_2, if_neg (by decide), xrfA]
    | succ m ih =>
      intro j o3 hj
      rw [tr_X3_first_2, if_pos (by rw [show (3 : Int32) = nI 3 from rfl, nI_ltI (by omega) (by decide)]; omega), xrfA]
      have inner : ∀ (m2 b : Nat), b + m2 = 3 → pm_EV (pm_run mt (d + 2)) (some .int) oX3_first (7, [some (.int k), some (.int (nI j)), some (.int (nI b))], [], hX I F sd) = some (some (.int (xrfB k (nI j) (xrfA k m (j + 1)) m2 b)), hX I F sd) := by
        intro m2
        induction m2 with
        | zero =>
          intro b hb
          obtain rfl : b = 3 := by omega
          rw [tr_X3_first_7, if_neg (by decide), nI_p1, xrfB]
          exact ih _ _ (by omega)
        | succ m2 ih2 =>
          intro b hb
          rw [tr_X3_first_7, if_pos (by rw [show (3 : Int32) = nI 3 from rfl, nI_ltI (by omega) (by decide)]; omega), nI_p1, xrfB]
          simp only [bI_0]
          cases c : xrest k (nI j) (nI b)
          · rw [if_pos rfl, if_neg (by decide)]; exact ih2 _ (by omega)
          · rw [if_neg (by decide), if_pos rfl]
      exact inner 3 0 rfl
  exact outer 3 0 none rfl
def xfac (n : Int32) : Int32 := if n = 4 then 24 else if n = 3 then 6 else if n = 2 then 2 else 1
set_option maxRecDepth 100000 in
set_option maxHeartbeats 4000000 in
theorem tr_X7_factorial_0 (d : Nat) (I : Nat → Int32) (F : Nat → Nat → Int32) (sd : Int64) (n : Int32) : pm_EV (pm_run mt (d + 0)) (some .int) oX7_factorial (0, [some (.int n), none, none], [], (hX I F sd)) = pm_EV (pm_run mt (d + 0)) (some .int) oX7_factorial (4, [some (.int n), some (.int 1), some (.int 2)], [], (hX I F sd)) := by
  exact pm_EV_go 4 (d := (4, [some (.int n), some (.int 1), some (.int 2)], [], (hX I F sd))) rfl
set_option maxRecDepth 100000 in
set_option maxHeartbeats 4000000 in
theorem tr_X7_factorial_4 (d : Nat) (I : Nat → Int32) (F : Nat → Nat → Int32) (sd : Int64) (n : Int32) (x1 : Int32) (x2 : Int32) : pm_EV (pm_run mt (d + 0)) (some .int) oX7_factorial (4, [some (.int n), some (.int x1), some (.int x2)], [], (hX I F sd)) = (if n < x2 then some (some (.int x1), (hX I F sd)) else pm_EV (pm_run mt (d + 0)) (some .int) oX7_factorial (4, [some (.int n), some (.int (x1 * x2)), some (.int (x2 + 1))], [], (hX I F sd))) := by
  refine Eq.trans (pm_EV_at 2 (d := (6, [some (.int n), some (.int x1), some (.int x2)], [.int n, .int x2], (hX I F sd))) (x := if n < x2 then .inl (13, [some (.int n), some (.int x1), some (.int x2)], [], (hX I F sd)) else .inl (7, [some (.int n), some (.int x1), some (.int x2)], [], (hX I F sd))) rfl rfl) ?_
  refine pm_rc (fun p1 => ?_) (fun p1 => ?_)
  · show pm_EV (pm_run mt (d + 0)) (some .int) oX7_factorial (13, [some (.int n), some (.int x1), some (.int x2)], [], (hX I F sd)) = _
    exact pm_EV_at 1 (d := (14, [some (.int n), some (.int x1), some (.int x2)], [.int x1], (hX I F sd))) rfl rfl
  · show pm_EV (pm_run mt (d + 0)) (some .int) oX7_factorial (7, [some (.int n), some (.int x1), some (.int x2)], [], (hX I F sd)) = _
    exact pm_EV_go 6 (d := (4, [some (.int n), some (.int (x1 * x2)), some (.int (x2 + 1))], [], (hX I F sd))) rfl
set_option maxRecDepth 100000 in
set_option maxHeartbeats 4000000 in
theorem en_X7_factorial (d : Nat) (I : Nat → Int32) (F : Nat → Nat → Int32) (sd : Int64) (n : Int32) : pm_run mt (d + 1) 104 [.int n] (hX I F sd) = pm_EV (pm_run mt (d + 0)) (some .int) oX7_factorial (0, [some (.int n), none, none], [], (hX I F sd)) := rfl
set_option maxRecDepth 100000 in
set_option maxHeartbeats 4000000 in
theorem sp_X7_factorial (d : Nat) (I : Nat → Int32) (F : Nat → Nat → Int32) (sd : Int64) (n : Int32) (h1 : inr n 5 = true) : pm_run mt (d + 1) 104 [.int n] (hX I F sd) = some (some (.int (xfac n)), (hX I F sd)) := by
  rw [en_X7_factorial, tr_X7_factorial_0]
  obtain ⟨k, hk, rfl⟩ := inr_nI (n := 5) (by decide) h1
  rcases (show k = 0 ∨ k = 1 ∨ k = 2 ∨ k = 3 ∨ k = 4 by omega) with rfl | rfl | rfl | rfl | rfl
  · rw [tr_X7_factorial_4, if_pos (by decide)]; rfl
  · rw [tr_X7_factorial_4, if_pos (by decide)]; rfl
  · rw [tr_X7_factorial_4, if_neg (by decide), tr_X7_factorial_4, if_pos (by decide)]; rfl
  · rw [tr_X7_factorial_4, if_neg (by decide), tr_X7_factorial_4, if_neg (by decide), tr_X7_factorial_4, if_pos (by decide)]; rfl
  · rw [tr_X7_factorial_4, if_neg (by decide), tr_X7_factorial_4, if_neg (by decide), tr_X7_factorial_4, if_neg (by decide), tr_X7_factorial_4, if_pos (by decide)]; rfl
