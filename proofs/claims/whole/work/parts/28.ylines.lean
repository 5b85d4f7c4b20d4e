/-! the reference: lines -/
def liB (r : Int32) (a b : Nat → Int32) : Nat → Bool
  | 0 => true
  | k + 1 => liB r a b k && decide (yhas r (a k) = decide (b k = 1))
def liI (w : Int32) (a b : Nat → Int32) (n k : Nat) : Bool := liB (xreach (nI k / 10) (nI k - nI k / 10 * 10) w) a b n
def liL (w : Int32) (a b : Nat → Int32) (n : Nat) : Nat → Int32 × Int32
  | 0 => (0, -9)
  | k + 1 => if liI w a b n k = true then ((liL w a b n k).1 + 1, if (liL w a b n k).1 = 0 then nI k else (liL w a b n k).2) else liL w a b n k
def liA (w v : Int32) (a b : Nat → Int32) (n : Int32) : Int32 := if inr v 2 = false then -2 else if v = 0 then (liL w a b n.toNatClampNeg 100).1 else (liL w a b n.toNatClampNeg 100).2
def li26 (w v : Int32) (a b : Nat → Int32) (n z : Int32) : Int32 := if inr v 2 = false then z else (liL w a b n.toNatClampNeg 100).1
def li27 (w v : Int32) (a b : Nat → Int32) (n z : Int32) : Int32 := if inr v 2 = false then z else (liL w a b n.toNatClampNeg 100).2
theorem rem10 {l : Int32} (h : inr l 100 = true) : inr (l - l / 10 * 10) 10 = true := by
  obtain ⟨k, hk, rfl⟩ := inr_nI (n := 100) (by decide) h
  rw [show (10 : Int32) = nI 10 from rfl, pk_rem (by omega) (by decide) (by decide)]
  exact inr_mk (by decide) (by omega)
theorem upd_22 (I : Nat → Int32) {a b : Nat} (h : a ≠ b) (x y z w : Int32) : upd (upd (upd (upd I a x) b y) a z) b w = upd (upd I a z) b w := by
  funext k
  unfold upd
  by_cases h1 : k = b
  · simp only [h1, if_true]
  · by_cases h2 : k = a
    · simp only [h1, h2, if_true, if_false]
    · simp only [h1, h2, if_false]
theorem bI_1 (b : Bool) : (bI b = 1) = (b = true) := by cases b <;> decide +kernel
set_option maxRecDepth 100000 in
set_option maxHeartbeats 4000000 in
theorem tr_X8_lines_0_0 (d : Nat) (I : Nat → Int32) (F : Nat → Nat → Int32) (sd : Int64) (w : Int32) : pm_EV (pm_run mt (d + 2)) (some .int) oX8_lines (0, [some (.ref 0), some (.int w), none, none, none, none], [], (hY I F sd)) = (if (bI (lin ((w : Int32).toInt64) 0 1)) = 0 then some (some (.int (-2)), (hY (upd I 0 0) F sd)) else pm_EV (pm_run mt (d + 2)) (some .int) oX8_lines (19, [some (.ref 0), some (.int w), some (.int 0), none, none, none], [], (hY (upd (upd (upd I 0 0) 26 0) 27 (-9)) F sd))) := by
  refine Eq.trans (b := pm_EV (pm_run mt (d + 2)) (some .int) oX8_lines (8, [some (.ref 0), some (.int w), none, none, none, none], [.int (bI (lin ((w : Int32).toInt64) 0 1))], (hY (upd I 0 0) F sd))) (pm_EV_cl 7 (call := pm_run mt (d + 2)) (d := (7, [some (.ref 0), some (.int w), none, none, none, none], [.long 1, .long 0, .long ((w : Int32).toInt64)], (hY (upd I 0 0) F sd))) (a := 106) (as := [.long ((w : Int32).toInt64), .long 0, .long 1]) (hp := (hY (upd I 0 0) F sd)) (hp2 := (hY (upd I 0 0) F sd)) (i2 := 8) (ls := [some (.ref 0), some (.int w), none, none, none, none]) (rest := []) (r := some (.int (bI (lin ((w : Int32).toInt64) 0 1)))) rfl rfl (sp_X8_in (d + 1) (upd I 0 0) F sd ((w : Int32).toInt64) 0 1 )) ?_
  refine Eq.trans (pm_EV_at 0 (d := (8, [some (.ref 0), some (.int w), none, none, none, none], [.int (bI (lin ((w : Int32).toInt64) 0 1))], (hY (upd I 0 0) F sd))) (x := if (bI (lin ((w : Int32).toInt64) 0 1)) = 0 then .inl (9, [some (.ref 0), some (.int w), none, none, none, none], [], (hY (upd I 0 0) F sd)) else .inl (11, [some (.ref 0), some (.int w), none, none, none, none], [], (hY (upd I 0 0) F sd))) rfl rfl) ?_
  refine pm_rc (fun p1 => ?_) (fun p1 => ?_)
  · show pm_EV (pm_run mt (d + 2)) (some .int) oX8_lines (9, [some (.ref 0), some (.int w), none, none, none, none], [], (hY (upd I 0 0) F sd)) = _
    exact pm_EV_at 1 (d := (10, [some (.ref 0), some (.int w), none, none, none, none], [.int (-2)], (hY (upd I 0 0) F sd))) rfl rfl
  · show pm_EV (pm_run mt (d + 2)) (some .int) oX8_lines (11, [some (.ref 0), some (.int w), none, none, none, none], [], (hY (upd I 0 0) F sd)) = _
    exact pm_EV_go 8 (d := (19, [some (.ref 0), some (.int w), some (.int 0), none, none, none], [], (hY (upd (upd (upd I 0 0) 26 0) 27 (-9)) F sd))) rfl
set_option maxRecDepth 100000 in
set_option maxHeartbeats 4000000 in
theorem tr_X8_lines_0_19 (d : Nat) (I : Nat → Int32) (F : Nat → Nat → Int32) (sd : Int64) (w : Int32) (x2 : Int32) (o3 : Option Value) (o4 : Option Value) (o5 : Option Value) (g1 : (x2 < 100) → inr (x2 / 10) 10 = true) (g2 : (x2 < 100) → inr (x2 - x2 / 10 * 10) 10 = true) : pm_EV (pm_run mt (d + 2)) (some .int) oX8_lines (19, [some (.ref 0), some (.int w), some (.int x2), o3, o4, o5], [], (hY I F sd)) = (if x2 < 100 then pm_EV (pm_run mt (d + 2)) (some .int) oX8_lines (38, [some (.ref 0), some (.int w), some (.int x2), some (.int (xreach (x2 / 10) (x2 - x2 / 10 * 10) ((F 5) 17))), some (.int 1), some (.int 0)], [], (hY I F sd)) else (if w = 0 then some (some (.int (I 26)), (hY I F sd)) else some (some (.int (I 27)), (hY I F sd)))) := by
  refine Eq.trans (pm_EV_at 2 (d := (21, [some (.ref 0), some (.int w), some (.int x2), o3, o4, o5], [.int 100, .int x2], (hY I F sd))) (x := if x2 < 100 then .inl (22, [some (.ref 0), some (.int w), some (.int x2), o3, o4, o5], [], (hY I F sd)) else .inl (89, [some (.ref 0), some (.int w), some (.int x2), o3, o4, o5], [], (hY I F sd))) rfl rfl) ?_
  refine pm_rc (fun p1 => ?_) (fun p1 => ?_)
  · show pm_EV (pm_run mt (d + 2)) (some .int) oX8_lines (22, [some (.ref 0), some (.int w), some (.int x2), o3, o4, o5], [], (hY I F sd)) = _
    refine Eq.trans (b := pm_EV (pm_run mt (d + 2)) (some .int) oX8_lines (33, [some (.ref 0), some (.int w), some (.int x2), o3, o4, o5], [.int (xreach (x2 / 10) (x2 - x2 / 10 * 10) ((F 5) 17))], (hY I F sd))) (pm_EV_cl 10 (call := pm_run mt (d + 2)) (d := (32, [some (.ref 0), some (.int w), some (.int x2), o3, o4, o5], [.int ((F 5) 17), .int (x2 - x2 / 10 * 10), .int (x2 / 10)], (hY I F sd))) (a := 127) (as := [.int (x2 / 10), .int (x2 - x2 / 10 * 10), .int ((F 5) 17)]) (hp := (hY I F sd)) (hp2 := (hY I F sd)) (i2 := 33) (ls := [some (.ref 0), some (.int w), some (.int x2), o3, o4, o5]) (rest := []) (r := some (.int (xreach (x2 / 10) (x2 - x2 / 10 * 10) ((F 5) 17)))) rfl rfl (sp_X8_reach (d + 0) I F sd (x2 / 10) (x2 - x2 / 10 * 10) ((F 5) 17) (g1 p1) (g2 p1))) ?_
    exact pm_EV_go 5 (d := (38, [some (.ref 0), some (.int w), some (.int x2), some (.int (xreach (x2 / 10) (x2 - x2 / 10 * 10) ((F 5) 17))), some (.int 1), some (.int 0)], [], (hY I F sd))) rfl
  · show pm_EV (pm_run mt (d + 2)) (some .int) oX8_lines (89, [some (.ref 0), some (.int w), some (.int x2), o3, o4, o5], [], (hY I F sd)) = _
    refine Eq.trans (pm_EV_at 1 (d := (90, [some (.ref 0), some (.int w), some (.int x2), o3, o4, o5], [.int w], (hY I F sd))) (x := if w = 0 then .inl (91, [some (.ref 0), some (.int w), some (.int x2), o3, o4, o5], [], (hY I F sd)) else .inl (94, [some (.ref 0), some (.int w), some (.int x2), o3, o4, o5], [], (hY I F sd))) rfl rfl) ?_
    refine pm_rc (fun p2 => ?_) (fun p2 => ?_)
    · show pm_EV (pm_run mt (d + 2)) (some .int) oX8_lines (91, [some (.ref 0), some (.int w), some (.int x2), o3, o4, o5], [], (hY I F sd)) = _
      exact pm_EV_at 3 (d := (96, [some (.ref 0), some (.int w), some (.int x2), o3, o4, o5], [.int (I 26)], (hY I F sd))) rfl rfl
    · show pm_EV (pm_run mt (d + 2)) (some .int) oX8_lines (94, [some (.ref 0), some (.int w), some (.int x2), o3, o4, o5], [], (hY I F sd)) = _
      exact pm_EV_at 2 (d := (96, [some (.ref 0), some (.int w), some (.int x2), o3, o4, o5], [.int (I 27)], (hY I F sd))) rfl rfl
set_option maxRecDepth 100000 in
set_option maxHeartbeats 4000000 in
theorem tr_X8_lines_0_38 (d : Nat) (I : Nat → Int32) (F : Nat → Nat → Int32) (sd : Int64) (w : Int32) (x2 : Int32) (x3 : Int32) (x4 : Int32) (x5 : Int32) (g1 : (x5 < (I 20)) → (¬ (x4 = 0)) → pm_in x5 6 = true) : pm_EV (pm_run mt (d + 2)) (some .int) oX8_lines (38, [some (.ref 0), some (.int w), some (.int x2), some (.int x3), some (.int x4), some (.int x5)], [], (hY I F sd)) = (if x5 < (I 20) then (if x4 = 0 then pm_EV (pm_run mt (d + 2)) (some .int) oX8_lines (38, [some (.ref 0), some (.int w), some (.int x2), some (.int x3), some (.int 0), some (.int (x5 + 1))], [], (hY I F sd)) else (if ((F 11) x5.toNatClampNeg) = 1 then (if (bI (yhas x3 ((F 10) x5.toNatClampNeg))) = 1 then pm_EV (pm_run mt (d + 2)) (some .int) oX8_lines (38, [some (.ref 0), some (.int w), some (.int x2), some (.int x3), some (.int 1), some (.int (x5 + 1))], [], (hY I F sd)) else pm_EV (pm_run mt (d + 2)) (some .int) oX8_lines (38, [some (.ref 0), some (.int w), some (.int x2), some (.int x3), some (.int 0), some (.int (x5 + 1))], [], (hY I F sd))) else (if (bI (yhas x3 ((F 10) x5.toNatClampNeg))) = 0 then pm_EV (pm_run mt (d + 2)) (some .int) oX8_lines (38, [some (.ref 0), some (.int w), some (.int x2), some (.int x3), some (.int 1), some (.int (x5 + 1))], [], (hY I F sd)) else pm_EV (pm_run mt (d + 2)) (some .int) oX8_lines (38, [some (.ref 0), some (.int w), some (.int x2), some (.int x3), some (.int 0), some (.int (x5 + 1))], [], (hY I F sd))))) else (if x4 = 0 then (if x4 = 0 then pm_EV (pm_run mt (d + 2)) (some .int) oX8_lines (19, [some (.ref 0), some (.int w), some (.int (x2 + 1)), some (.int x3), some (.int x4), some (.int x5)], [], (hY (upd (upd I 26 ((I 26) + 0)) 27 (I 27)) F sd)) else pm_EV (pm_run mt (d + 2)) (some .int) oX8_lines (19, [some (.ref 0), some (.int w), some (.int (x2 + 1)), some (.int x3), some (.int x4), some (.int x5)], [], (hY (upd (upd I 26 ((I 26) + 1)) 27 (I 27)) F sd))) else (if (I 26) = 0 then (if x4 = 0 then pm_EV (pm_run mt (d + 2)) (some .int) oX8_lines (19, [some (.ref 0), some (.int w), some (.int (x2 + 1)), some (.int x3), some (.int x4), some (.int x5)], [], (hY (upd (upd I 26 ((I 26) + 0)) 27 x2) F sd)) else pm_EV (pm_run mt (d + 2)) (some .int) oX8_lines (19, [some (.ref 0), some (.int w), some (.int (x2 + 1)), some (.int x3), some (.int x4), some (.int x5)], [], (hY (upd (upd I 26 ((I 26) + 1)) 27 x2) F sd))) else (if x4 = 0 then pm_EV (pm_run mt (d + 2)) (some .int) oX8_lines (19, [some (.ref 0), some (.int w), some (.int (x2 + 1)), some (.int x3), some (.int x4), some (.int x5)], [], (hY (upd (upd I 26 ((I 26) + 0)) 27 (I 27)) F sd)) else pm_EV (pm_run mt (d + 2)) (some .int) oX8_lines (19, [some (.ref 0), some (.int w), some (.int (x2 + 1)), some (.int x3), some (.int x4), some (.int x5)], [], (hY (upd (upd I 26 ((I 26) + 1)) 27 (I 27)) F sd)))))) := by
  refine Eq.trans (pm_EV_at 3 (d := (41, [some (.ref 0), some (.int w), some (.int x2), some (.int x3), some (.int x4), some (.int x5)], [.int (I 20), .int x5], (hY I F sd))) (x := if x5 < (I 20) then .inl (42, [some (.ref 0), some (.int w), some (.int x2), some (.int x3), some (.int x4), some (.int x5)], [], (hY I F sd)) else .inl (66, [some (.ref 0), some (.int w), some (.int x2), some (.int x3), some (.int x4), some (.int x5)], [], (hY I F sd))) rfl rfl) ?_
  refine pm_rc (fun p1 => ?_) (fun p1 => ?_)
  · show pm_EV (pm_run mt (d + 2)) (some .int) oX8_lines (42, [some (.ref 0), some (.int w), some (.int x2), some (.int x3), some (.int x4), some (.int x5)], [], (hY I F sd)) = _
    refine Eq.trans (pm_EV_at 1 (d := (43, [some (.ref 0), some (.int w), some (.int x2), some (.int x3), some (.int x4), some (.int x5)], [.int x4], (hY I F sd))) (x := if x4 = 0 then .inl (62, [some (.ref 0), some (.int w), some (.int x2), some (.int x3), some (.int x4), some (.int x5)], [], (hY I F sd)) else .inl (44, [some (.ref 0), some (.int w), some (.int x2), some (.int x3), some (.int x4), some (.int x5)], [], (hY I F sd))) rfl rfl) ?_
    refine pm_rc (fun p2 => ?_) (fun p2 => ?_)
    · show pm_EV (pm_run mt (d + 2)) (some .int) oX8_lines (62, [some (.ref 0), some (.int w), some (.int x2), some (.int x3), some (.int x4), some (.int x5)], [], (hY I F sd)) = _
      exact pm_EV_go 4 (d := (38, [some (.ref 0), some (.int w), some (.int x2), some (.int x3), some (.int 0), some (.int (x5 + 1))], [], (hY I F sd))) rfl
    · show pm_EV (pm_run mt (d + 2)) (some .int) oX8_lines (44, [some (.ref 0), some (.int w), some (.int x2), some (.int x3), some (.int x4), some (.int x5)], [], (hY I F sd)) = _
      refine Eq.trans (b := pm_EV (pm_run mt (d + 2)) (some .int) oX8_lines (49, [some (.ref 0), some (.int w), some (.int x2), some (.int x3), some (.int x4), some (.int x5)], [.int ((F 10) x5.toNatClampNeg), .int x3], (hY I F sd))) (pm_EV_gd 4 (d := (48, [some (.ref 0), some (.int w), some (.int x2), some (.int x3), some (.int x4), some (.int x5)], [.int x5, .ref 10, .int x3], (hY I F sd))) (c1 := (49, [some (.ref 0), some (.int w), some (.int x2), some (.int x3), some (.int x4), some (.int x5)], [.int ((F 10) x5.toNatClampNeg), .int x3], (hY I F sd))) rfl rfl (⟨rfl, g1 p1 p2⟩)) ?_
      refine Eq.trans (b := pm_EV (pm_run mt (d + 2)) (some .int) oX8_lines (50, [some (.ref 0), some (.int w), some (.int x2), some (.int x3), some (.int x4), some (.int x5)], [.int (bI (yhas x3 ((F 10) x5.toNatClampNeg)))], (hY I F sd))) (pm_EV_cl 0 (call := pm_run mt (d + 2)) (d := (49, [some (.ref 0), some (.int w), some (.int x2), some (.int x3), some (.int x4), some (.int x5)], [.int ((F 10) x5.toNatClampNeg), .int x3], (hY I F sd))) (a := 107) (as := [.int x3, .int ((F 10) x5.toNatClampNeg)]) (hp := (hY I F sd)) (hp2 := (hY I F sd)) (i2 := 50) (ls := [some (.ref 0), some (.int w), some (.int x2), some (.int x3), some (.int x4), some (.int x5)]) (rest := []) (r := some (.int (bI (yhas x3 ((F 10) x5.toNatClampNeg))))) rfl rfl (sp_X8_has (d + 1) I F sd x3 ((F 10) x5.toNatClampNeg) )) ?_
      refine Eq.trans (b := pm_EV (pm_run mt (d + 2)) (some .int) oX8_lines (54, [some (.ref 0), some (.int w), some (.int x2), some (.int x3), some (.int x4), some (.int x5)], [.int ((F 11) x5.toNatClampNeg), .int (bI (yhas x3 ((F 10) x5.toNatClampNeg)))], (hY I F sd))) (pm_EV_gd 3 (d := (53, [some (.ref 0), some (.int w), some (.int x2), some (.int x3), some (.int x4), some (.int x5)], [.int x5, .ref 11, .int (bI (yhas x3 ((F 10) x5.toNatClampNeg)))], (hY I F sd))) (c1 := (54, [some (.ref 0), some (.int w), some (.int x2), some (.int x3), some (.int x4), some (.int x5)], [.int ((F 11) x5.toNatClampNeg), .int (bI (yhas x3 ((F 10) x5.toNatClampNeg)))], (hY I F sd))) rfl rfl (⟨rfl, g1 p1 p2⟩)) ?_
      refine Eq.trans (pm_EV_at 1 (d := (55, [some (.ref 0), some (.int w), some (.int x2), some (.int x3), some (.int x4), some (.int x5)], [.int 1, .int ((F 11) x5.toNatClampNeg), .int (bI (yhas x3 ((F 10) x5.toNatClampNeg)))], (hY I F sd))) (x := if ((F 11) x5.toNatClampNeg) = 1 then .inl (56, [some (.ref 0), some (.int w), some (.int x2), some (.int x3), some (.int x4), some (.int x5)], [.int (bI (yhas x3 ((F 10) x5.toNatClampNeg)))], (hY I F sd)) else .inl (58, [some (.ref 0), some (.int w), some (.int x2), some (.int x3), some (.int x4), some (.int x5)], [.int (bI (yhas x3 ((F 10) x5.toNatClampNeg)))], (hY I F sd))) rfl rfl) ?_
      refine pm_rc (fun p3 => ?_) (fun p3 => ?_)
      · show pm_EV (pm_run mt (d + 2)) (some .int) oX8_lines (56, [some (.ref 0), some (.int w), some (.int x2), some (.int x3), some (.int x4), some (.int x5)], [.int (bI (yhas x3 ((F 10) x5.toNatClampNeg)))], (hY I F sd)) = _
        refine Eq.trans (pm_EV_at 2 (d := (59, [some (.ref 0), some (.int w), some (.int x2), some (.int x3), some (.int x4), some (.int x5)], [.int 1, .int (bI (yhas x3 ((F 10) x5.toNatClampNeg)))], (hY I F sd))) (x := if (bI (yhas x3 ((F 10) x5.toNatClampNeg))) = 1 then .inl (60, [some (.ref 0), some (.int w), some (.int x2), some (.int x3), some (.int x4), some (.int x5)], [], (hY I F sd)) else .inl (62, [some (.ref 0), some (.int w), some (.int x2), some (.int x3), some (.int x4), some (.int x5)], [], (hY I F sd))) rfl rfl) ?_
        refine pm_rc (fun p4 => ?_) (fun p4 => ?_)
        · show pm_EV (pm_run mt (d + 2)) (some .int) oX8_lines (60, [some (.ref 0), some (.int w), some (.int x2), some (.int x3), some (.int x4), some (.int x5)], [], (hY I F sd)) = _
          exact pm_EV_go 5 (d := (38, [some (.ref 0), some (.int w), some (.int x2), some (.int x3), some (.int 1), some (.int (x5 + 1))], [], (hY I F sd))) rfl
        · show pm_EV (pm_run mt (d + 2)) (some .int) oX8_lines (62, [some (.ref 0), some (.int w), some (.int x2), some (.int x3), some (.int x4), some (.int x5)], [], (hY I F sd)) = _
          exact pm_EV_go 4 (d := (38, [some (.ref 0), some (.int w), some (.int x2), some (.int x3), some (.int 0), some (.int (x5 + 1))], [], (hY I F sd))) rfl
      · show pm_EV (pm_run mt (d + 2)) (some .int) oX8_lines (58, [some (.ref 0), some (.int w), some (.int x2), some (.int x3), some (.int x4), some (.int x5)], [.int (bI (yhas x3 ((F 10) x5.toNatClampNeg)))], (hY I F sd)) = _
        refine Eq.trans (pm_EV_at 1 (d := (59, [some (.ref 0), some (.int w), some (.int x2), some (.int x3), some (.int x4), some (.int x5)], [.int 0, .int (bI (yhas x3 ((F 10) x5.toNatClampNeg)))], (hY I F sd))) (x := if (bI (yhas x3 ((F 10) x5.toNatClampNeg))) = 0 then .inl (60, [some (.ref 0), some (.int w), some (.int x2), some (.int x3), some (.int x4), some (.int x5)], [], (hY I F sd)) else .inl (62, [some (.ref 0), some (.int w), some (.int x2), some (.int x3), some (.int x4), some (.int x5)], [], (hY I F sd))) rfl rfl) ?_
        refine pm_rc (fun p4 => ?_) (fun p4 => ?_)
        · show pm_EV (pm_run mt (d + 2)) (some .int) oX8_lines (60, [some (.ref 0), some (.int w), some (.int x2), some (.int x3), some (.int x4), some (.int x5)], [], (hY I F sd)) = _
          exact pm_EV_go 5 (d := (38, [some (.ref 0), some (.int w), some (.int x2), some (.int x3), some (.int 1), some (.int (x5 + 1))], [], (hY I F sd))) rfl
        · show pm_EV (pm_run mt (d + 2)) (some .int) oX8_lines (62, [some (.ref 0), some (.int w), some (.int x2), some (.int x3), some (.int x4), some (.int x5)], [], (hY I F sd)) = _
          exact pm_EV_go 4 (d := (38, [some (.ref 0), some (.int w), some (.int x2), some (.int x3), some (.int 0), some (.int (x5 + 1))], [], (hY I F sd))) rfl
  · show pm_EV (pm_run mt (d + 2)) (some .int) oX8_lines (66, [some (.ref 0), some (.int w), some (.int x2), some (.int x3), some (.int x4), some (.int x5)], [], (hY I F sd)) = _
    refine Eq.trans (pm_EV_at 2 (d := (68, [some (.ref 0), some (.int w), some (.int x2), some (.int x3), some (.int x4), some (.int x5)], [.int x4, .ref 0], (hY I F sd))) (x := if x4 = 0 then .inl (74, [some (.ref 0), some (.int w), some (.int x2), some (.int x3), some (.int x4), some (.int x5)], [.ref 0], (hY I F sd)) else .inl (69, [some (.ref 0), some (.int w), some (.int x2), some (.int x3), some (.int x4), some (.int x5)], [.ref 0], (hY I F sd))) rfl rfl) ?_
    refine pm_rc (fun p2 => ?_) (fun p2 => ?_)
    · show pm_EV (pm_run mt (d + 2)) (some .int) oX8_lines (74, [some (.ref 0), some (.int w), some (.int x2), some (.int x3), some (.int x4), some (.int x5)], [.ref 0], (hY I F sd)) = _
      refine Eq.trans (pm_EV_at 7 (d := (81, [some (.ref 0), some (.int w), some (.int x2), some (.int x3), some (.int x4), some (.int x5)], [.int x4, .int (I 26), .ref 0], (hY (upd I 27 (I 27)) F sd))) (x := if x4 = 0 then .inl (84, [some (.ref 0), some (.int w), some (.int x2), some (.int x3), some (.int x4), some (.int x5)], [.int (I 26), .ref 0], (hY (upd I 27 (I 27)) F sd)) else .inl (82, [some (.ref 0), some (.int w), some (.int x2), some (.int x3), some (.int x4), some (.int x5)], [.int (I 26), .ref 0], (hY (upd I 27 (I 27)) F sd))) rfl rfl) ?_
      refine pm_rc (fun p3 => ?_) (fun p3 => ?_)
      · show pm_EV (pm_run mt (d + 2)) (some .int) oX8_lines (84, [some (.ref 0), some (.int w), some (.int x2), some (.int x3), some (.int x4), some (.int x5)], [.int (I 26), .ref 0], (hY (upd I 27 (I 27)) F sd)) = _
        exact pm_EV_go 5 (d := (19, [some (.ref 0), some (.int w), some (.int (x2 + 1)), some (.int x3), some (.int x4), some (.int x5)], [], (hY (upd (upd I 26 ((I 26) + 0)) 27 (I 27)) F sd))) rfl
      · show pm_EV (pm_run mt (d + 2)) (some .int) oX8_lines (82, [some (.ref 0), some (.int w), some (.int x2), some (.int x3), some (.int x4), some (.int x5)], [.int (I 26), .ref 0], (hY (upd I 27 (I 27)) F sd)) = _
        exact pm_EV_go 6 (d := (19, [some (.ref 0), some (.int w), some (.int (x2 + 1)), some (.int x3), some (.int x4), some (.int x5)], [], (hY (upd (upd I 26 ((I 26) + 1)) 27 (I 27)) F sd))) rfl
    · show pm_EV (pm_run mt (d + 2)) (some .int) oX8_lines (69, [some (.ref 0), some (.int w), some (.int x2), some (.int x3), some (.int x4), some (.int x5)], [.ref 0], (hY I F sd)) = _
      refine Eq.trans (pm_EV_at 2 (d := (71, [some (.ref 0), some (.int w), some (.int x2), some (.int x3), some (.int x4), some (.int x5)], [.int (I 26), .ref 0], (hY I F sd))) (x := if (I 26) = 0 then .inl (72, [some (.ref 0), some (.int w), some (.int x2), some (.int x3), some (.int x4), some (.int x5)], [.ref 0], (hY I F sd)) else .inl (74, [some (.ref 0), some (.int w), some (.int x2), some (.int x3), some (.int x4), some (.int x5)], [.ref 0], (hY I F sd))) rfl rfl) ?_
      refine pm_rc (fun p3 => ?_) (fun p3 => ?_)
      · show pm_EV (pm_run mt (d + 2)) (some .int) oX8_lines (72, [some (.ref 0), some (.int w), some (.int x2), some (.int x3), some (.int x4), some (.int x5)], [.ref 0], (hY I F sd)) = _
        refine Eq.trans (pm_EV_at 7 (d := (81, [some (.ref 0), some (.int w), some (.int x2), some (.int x3), some (.int x4), some (.int x5)], [.int x4, .int (I 26), .ref 0], (hY (upd I 27 x2) F sd))) (x := if x4 = 0 then .inl (84, [some (.ref 0), some (.int w), some (.int x2), some (.int x3), some (.int x4), some (.int x5)], [.int (I 26), .ref 0], (hY (upd I 27 x2) F sd)) else .inl (82, [some (.ref 0), some (.int w), some (.int x2), some (.int x3), some (.int x4), some (.int x5)], [.int (I 26), .ref 0], (hY (upd I 27 x2) F sd))) rfl rfl) ?_
        refine pm_rc (fun p4 => ?_) (fun p4 => ?_)
        · show pm_EV (pm_run mt (d + 2)) (some .int) oX8_lines (84, [some (.ref 0), some (.int w), some (.int x2), some (.int x3), some (.int x4), some (.int x5)], [.int (I 26), .ref 0], (hY (upd I 27 x2) F sd)) = _
          exact pm_EV_go 5 (d := (19, [some (.ref 0), some (.int w), some (.int (x2 + 1)), some (.int x3), some (.int x4), some (.int x5)], [], (hY (upd (upd I 26 ((I 26) + 0)) 27 x2) F sd))) rfl
        · show pm_EV (pm_run mt (d + 2)) (some .int) oX8_lines (82, [some (.ref 0), some (.int w), some (.int x2), some (.int x3), some (.int x4), some (.int x5)], [.int (I 26), .ref 0], (hY (upd I 27 x2) F sd)) = _
          exact pm_EV_go 6 (d := (19, [some (.ref 0), some (.int w), some (.int (x2 + 1)), some (.int x3), some (.int x4), some (.int x5)], [], (hY (upd (upd I 26 ((I 26) + 1)) 27 x2) F sd))) rfl
      · show pm_EV (pm_run mt (d + 2)) (some .int) oX8_lines (74, [some (.ref 0), some (.int w), some (.int x2), some (.int x3), some (.int x4), some (.int x5)], [.ref 0], (hY I F sd)) = _
        refine Eq.trans (pm_EV_at 7 (d := (81, [some (.ref 0), some (.int w), some (.int x2), some (.int x3), some (.int x4), some (.int x5)], [.int x4, .int (I 26), .ref 0], (hY (upd I 27 (I 27)) F sd))) (x := if x4 = 0 then .inl (84, [some (.ref 0), some (.int w), some (.int x2), some (.int x3), some (.int x4), some (.int x5)], [.int (I 26), .ref 0], (hY (upd I 27 (I 27)) F sd)) else .inl (82, [some (.ref 0), some (.int w), some (.int x2), some (.int x3), some (.int x4), some (.int x5)], [.int (I 26), .ref 0], (hY (upd I 27 (I 27)) F sd))) rfl rfl) ?_
        refine pm_rc (fun p4 => ?_) (fun p4 => ?_)
        · show pm_EV (pm_run mt (d + 2)) (some .int) oX8_lines (84, [some (.ref 0), some (.int w), some (.int x2), some (.int x3), some (.int x4), some (.int x5)], [.int (I 26), .ref 0], (hY (upd I 27 (I 27)) F sd)) = _
          exact pm_EV_go 5 (d := (19, [some (.ref 0), some (.int w), some (.int (x2 + 1)), some (.int x3), some (.int x4), some (.int x5)], [], (hY (upd (upd I 26 ((I 26) + 0)) 27 (I 27)) F sd))) rfl
        · show pm_EV (pm_run mt (d + 2)) (some .int) oX8_lines (82, [some (.ref 0), some (.int w), some (.int x2), some (.int x3), some (.int x4), some (.int x5)], [.int (I 26), .ref 0], (hY (upd I 27 (I 27)) F sd)) = _
          exact pm_EV_go 6 (d := (19, [some (.ref 0), some (.int w), some (.int (x2 + 1)), some (.int x3), some (.int x4), some (.int x5)], [], (hY (upd (upd I 26 ((I 26) + 1)) 27 (I 27)) F sd))) rfl
set_option maxRecDepth 100000 in
set_option maxHeartbeats 4000000 in
theorem en_X8_lines_0 (d : Nat) (I : Nat → Int32) (F : Nat → Nat → Int32) (sd : Int64) (w : Int32) : pm_run mt (d + 3) 161 [.ref 0, .int w] (hY I F sd) = pm_EV (pm_run mt (d + 2)) (some .int) oX8_lines (0, [some (.ref 0), some (.int w), none, none, none, none], [], (hY I F sd)) := rfl
set_option maxRecDepth 100000 in
set_option maxHeartbeats 4000000 in
theorem sp_X8_lines_0 (d : Nat) (I : Nat → Int32) (F : Nat → Nat → Int32) (sd : Int64) (w : Int32) (h1 : inr (I 20) 7 = true) : pm_run mt (d + 3) 161 [.ref 0, .int w] (hY I F sd) = some (some (.int (liA (F 5 17) w (F 10) (F 11) (I 20))), (hY (upd (upd (upd I 0 0) 26 (li26 (F 5 17) w (F 10) (F 11) (I 20) (I 26))) 27 (li27 (F 5 17) w (F 10) (F 11) (I 20) (I 27))) F sd)) := by
  obtain ⟨n, hn, e⟩ := inr_nI (n := 7) (by decide) h1
  rw [en_X8_lines_0, tr_X8_lines_0_0, lin01]
  simp only [bI_0]
  unfold liA li26 li27
  cases c1 : inr w 2
  · simp only [if_true]
    rw [show upd (upd (upd I 0 0) 26 (I 26)) 27 (I 27) = upd I 0 0 by rw [upd_c0 _ _ (by decide), upd_c0 _ _ (by decide)]]
  · simp only [Bool.true_eq_false, if_false]
    rw [e, nI_clamp (by omega)]
    have inner : ∀ (J : Nat → Int32) (m j : Nat) (x2 x3 : Int32) (b : Bool), J 20 = nI n → j + m = n → pm_EV (pm_run mt (d + 2)) (some .int) oX8_lines (38, [some (.ref 0), some (.int w), some (.int x2), some (.int x3), some (.int (bI (liB x3 (F 10) (F 11) j))), some (.int (nI j))], [], hY J F sd) = pm_EV (pm_run mt (d + 2)) (some .int) oX8_lines (38, [some (.ref 0), some (.int w), some (.int x2), some (.int x3), some (.int (bI (liB x3 (F 10) (F 11) n))), some (.int (nI n))], [], hY J F sd) := by
      intro J m
      induction m with
      | zero =>
        intro j x2 x3 b hJ hj
        obtain rfl : j = n := by omega
        rfl
      | succ m ih =>
        intro j x2 x3 b hJ hj
        rw [← ih (j + 1) x2 x3 b hJ (by omega), tr_X8_lines_0_38 d J F sd w x2 x3 _ _ (fun _ _ => pm_in_nI (by omega) (by decide)), if_pos (by rw [hJ, nI_ltI (by omega) (by omega)]; omega), nI_p1, nI_clamp (by omega)]
        simp only [bI_0, bI_1]
        rw [liB]
        cases liB x3 (F 10) (F 11) j
        · simp only [if_true, Bool.false_and]; rfl
        · simp only [Bool.true_eq_false, if_false, Bool.true_and]
          by_cases c : F 11 j = 1
          · cases c2 : yhas x3 (F 10 j) <;> simp [c, bI]
          · cases c2 : yhas x3 (F 10 j) <;> simp [c, bI]
    have outer : ∀ (m k : Nat) (J : Nat → Int32) (o3 o4 o5 : Option Value), k + m = 100 → J = upd (upd (upd I 0 0) 26 (liL (F 5 17) (F 10) (F 11) n k).1) 27 (liL (F 5 17) (F 10) (F 11) n k).2 → pm_EV (pm_run mt (d + 2)) (some .int) oX8_lines (19, [some (.ref 0), some (.int w), some (.int (nI k)), o3, o4, o5], [], hY J F sd) = some (some (.int (if w = 0 then (liL (F 5 17) (F 10) (F 11) n 100).1 else (liL (F 5 17) (F 10) (F 11) n 100).2)), hY (upd (upd (upd I 0 0) 26 (liL (F 5 17) (F 10) (F 11) n 100).1) 27 (liL (F 5 17) (F 10) (F 11) n 100).2) F sd) := by
      intro m
      induction m with
      | zero =>
        intro k J o3 o4 o5 hk hJ
        obtain rfl : k = 100 := by omega
        rw [tr_X8_lines_0_19 _ _ _ _ _ _ _ _ _ (fun h => absurd h (by decide)) (fun h => absurd h (by decide)), if_neg (by decide), hJ]
        simp only [pm_pi]
        rfl
      | succ m ih =>
        intro k J o3 o4 o5 hk hJ
        have h100 := inr_mk (n := 100) (by decide) (show k < 100 by omega)
        have hJ20 : J 20 = nI n := by rw [hJ, upd_ne _ _ (by decide), upd_ne _ _ (by decide), upd_ne _ _ (by decide), e]
        have hJ26 : J 26 = (liL (F 5 17) (F 10) (F 11) n k).1 := by rw [hJ, upd_ne _ _ (by decide), upd_at]
        have hJ27 : J 27 = (liL (F 5 17) (F 10) (F 11) n k).2 := by rw [hJ, upd_at]
        rw [tr_X8_lines_0_19 _ _ _ _ _ _ _ _ _ (fun h => div10 h100) (fun h => rem10 h100), if_pos (by rw [show (100 : Int32) = nI 100 from rfl, nI_ltI (by omega) (by decide)]; omega)]
        refine (inner J n 0 (nI k) _ true hJ20 (by omega)).trans ?_
        rw [tr_X8_lines_0_38 d J F sd w _ _ _ _ (fun h => by rw [hJ20, nI_ltI (by omega) (by omega)] at h; omega), if_neg (fun h => by rw [hJ20, nI_ltI (by omega) (by omega)] at h; omega), nI_p1, hJ26, hJ27]
        simp only [bI_0]
        have uu : ∀ x y : Int32, upd (upd J 26 x) 27 y = upd (upd (upd I 0 0) 26 x) 27 y := by
          intro x y
          rw [hJ, upd_22 _ (by decide)]
        have hl : liL (F 5 17) (F 10) (F 11) n (k + 1) = if liI (F 5 17) (F 10) (F 11) n k = true then ((liL (F 5 17) (F 10) (F 11) n k).1 + 1, if (liL (F 5 17) (F 10) (F 11) n k).1 = 0 then nI k else (liL (F 5 17) (F 10) (F 11) n k).2) else liL (F 5 17) (F 10) (F 11) n k := rfl
        have hz : liB (xreach (nI k / 10) (nI k - nI k / 10 * 10) (F 5 17)) (F 10) (F 11) n = liI (F 5 17) (F 10) (F 11) n k := rfl
        rw [hz]
        cases c : liI (F 5 17) (F 10) (F 11) n k
        · rw [c, if_neg (by decide)] at hl
          simp only [if_true]
          exact ih (k + 1) _ _ _ _ (by omega) (by rw [hl, uu, add_0'])
        · rw [c, if_pos rfl] at hl
          simp only [Bool.true_eq_false, if_false]
          by_cases c2 : (liL (F 5 17) (F 10) (F 11) n k).1 = 0
          · rw [if_pos c2] at hl
            simp only [c2, if_true] at hl ⊢
            exact ih (k + 1) _ _ _ _ (by omega) (by rw [hl, uu])
          · rw [if_neg c2] at hl
            simp only [c2, if_false]
            exact ih (k + 1) _ _ _ _ (by omega) (by rw [hl, uu])
    exact outer 100 0 _ none none none rfl rfl
/-! the reference: least -/
def lvD (z n j : Nat) : Int32 := nI (z / 10 ^ (n - 1 - j) % 10)
def lvL (K : Nat → Int32) (z n : Nat) : Nat → Nat → (Nat → Int32) → Int32 → Int32 × (Nat → Int32)
  | 0, _, p, s => (s, p)
  | m + 1, j, p, s => if p j < pgr K (nI j) (lvD z n j) then (-9, plF K p (nI j) (lvD z n j)) else lvL K z n m (j + 1) (plF K p (nI j) (lvD z n j)) (s + pgr K (nI j) (lvD z n j))
def lvR (K p q : Nat → Int32) (nf x : Int32) : Int32 × (Nat → Int32) := lvL K x.toNatClampNeg nf.toNatClampNeg nf.toNatClampNeg 0 (va_cpy p q 0 0 21) 0
theorem ypS_N (b : Nat) : ∀ k, ypS (nI b) k = nI (b ^ k)
  | 0 => rfl
  | k + 1 => by rw [ypS, ypS_N b k, pk_mul, Nat.pow_succ]
theorem p10 {k : Nat} (h : k ≤ 5) : 10 ^ k ≤ 100000 := by
  rcases (show k = 0 ∨ k = 1 ∨ k = 2 ∨ k = 3 ∨ k = 4 ∨ k = 5 by omega) with rfl | rfl | rfl | rfl | rfl | rfl <;> decide
set_option maxRecDepth 100000 in
set_option maxHeartbeats 4000000 in
theorem tr_X8_leaves_0_0 (d : Nat) (I : Nat → Int32) (F : Nat → Nat → Int32) (sd : Int64) (x : Int32) : pm_EV (pm_run mt (d + 2)) (some .int) oX8_leaves (0, [some (.ref 0), some (.int x), none, none, none], [], (hY I F sd)) = pm_EV (pm_run mt (d + 2)) (some .int) oX8_leaves (6, [some (.ref 0), some (.int x), some (.int 0), some (.int 0), none], [], (hY I (uF F 6 (va_cpy ((F 5)) ((F 6)) 0 0 21)) sd)) := by
  refine Eq.trans (b := pm_EV (pm_run mt (d + 2)) (some .int) oX8_leaves (2, [some (.ref 0), some (.int x), none, none, none], [], (hY I (uF F 6 (va_cpy ((F 5)) ((F 6)) 0 0 21)) sd))) (pm_EV_cl 1 (call := pm_run mt (d + 2)) (d := (1, [some (.ref 0), some (.int x), none, none, none], [.ref 0], (hY I F sd))) (a := 146) (as := [.ref 0]) (hp := (hY I F sd)) (hp2 := (hY I (uF F 6 (va_cpy ((F 5)) ((F 6)) 0 0 21)) sd)) (i2 := 2) (ls := [some (.ref 0), some (.int x), none, none, none]) (rest := []) (r := none) rfl rfl (sp_X8_begin_0 (d + 1) I F sd  )) ?_
  exact pm_EV_go 4 (d := (6, [some (.ref 0), some (.int x), some (.int 0), some (.int 0), none], [], (hY I (uF F 6 (va_cpy ((F 5)) ((F 6)) 0 0 21)) sd))) rfl
set_option maxRecDepth 100000 in
set_option maxHeartbeats 4000000 in
theorem tr_X8_leaves_0_6 (d : Nat) (I : Nat → Int32) (F : Nat → Nat → Int32) (sd : Int64) (x : Int32) (x2 : Int32) (x3 : Int32) (o4 : Option Value) (g1 : (x3 < (I 5)) → ¬ (ypow 10 (((I 5) - 1) - x3)) = 0) (g2 : (x3 < (I 5)) → inr x3 4 = true) (g3 : (x3 < (I 5)) → (¬ ((bI (!decide ((F 6) x3.toNatClampNeg < pgr ((F 2)) x3 ((x / (ypow 10 (((I 5) - 1) - x3))) - (x / (ypow 10 (((I 5) - 1) - x3))) / 10 * 10)))) = 0)) → inr x3 4 = true) : pm_EV (pm_run mt (d + 2)) (some .int) oX8_leaves (6, [some (.ref 0), some (.int x), some (.int x2), some (.int x3), o4], [], (hY I F sd)) = (if x3 < (I 5) then (if (bI (!decide ((F 6) x3.toNatClampNeg < pgr ((F 2)) x3 ((x / (ypow 10 (((I 5) - 1) - x3))) - (x / (ypow 10 (((I 5) - 1) - x3))) / 10 * 10)))) = 0 then some (some (.int (-9)), (hY I (uF F 6 (plF ((F 2)) ((F 6)) x3 ((x / (ypow 10 (((I 5) - 1) - x3))) - (x / (ypow 10 (((I 5) - 1) - x3))) / 10 * 10))) sd)) else pm_EV (pm_run mt (d + 2)) (some .int) oX8_leaves (6, [some (.ref 0), some (.int x), some (.int (x2 + (pgr ((F 2)) x3 ((x / (ypow 10 (((I 5) - 1) - x3))) - (x / (ypow 10 (((I 5) - 1) - x3))) / 10 * 10)))), some (.int (x3 + 1)), some (.int ((x / (ypow 10 (((I 5) - 1) - x3))) - (x / (ypow 10 (((I 5) - 1) - x3))) / 10 * 10))], [], (hY I (uF F 6 (plF ((F 2)) ((F 6)) x3 ((x / (ypow 10 (((I 5) - 1) - x3))) - (x / (ypow 10 (((I 5) - 1) - x3))) / 10 * 10))) sd))) else some (some (.int x2), (hY I F sd))) := by
  refine Eq.trans (pm_EV_at 3 (d := (9, [some (.ref 0), some (.int x), some (.int x2), some (.int x3), o4], [.int (I 5), .int x3], (hY I F sd))) (x := if x3 < (I 5) then .inl (10, [some (.ref 0), some (.int x), some (.int x2), some (.int x3), o4], [], (hY I F sd)) else .inl (41, [some (.ref 0), some (.int x), some (.int x2), some (.int x3), o4], [], (hY I F sd))) rfl rfl) ?_
  refine pm_rc (fun p1 => ?_) (fun p1 => ?_)
  · show pm_EV (pm_run mt (d + 2)) (some .int) oX8_leaves (10, [some (.ref 0), some (.int x), some (.int x2), some (.int x3), o4], [], (hY I F sd)) = _
    refine Eq.trans (b := pm_EV (pm_run mt (d + 2)) (some .int) oX8_leaves (19, [some (.ref 0), some (.int x), some (.int x2), some (.int x3), o4], [.int (ypow 10 (((I 5) - 1) - x3)), .int x], (hY I F sd))) (pm_EV_cl 8 (call := pm_run mt (d + 2)) (d := (18, [some (.ref 0), some (.int x), some (.int x2), some (.int x3), o4], [.int (((I 5) - 1) - x3), .int 10, .int x], (hY I F sd))) (a := 109) (as := [.int 10, .int (((I 5) - 1) - x3)]) (hp := (hY I F sd)) (hp2 := (hY I F sd)) (i2 := 19) (ls := [some (.ref 0), some (.int x), some (.int x2), some (.int x3), o4]) (rest := [.int x]) (r := some (.int (ypow 10 (((I 5) - 1) - x3)))) rfl rfl (sp_X8_power (d + 1) I F sd 10 (((I 5) - 1) - x3) )) ?_
    refine Eq.trans (b := pm_EV (pm_run mt (d + 2)) (some .int) oX8_leaves (20, [some (.ref 0), some (.int x), some (.int x2), some (.int x3), o4], [.int (x / (ypow 10 (((I 5) - 1) - x3)))], (hY I F sd))) (pm_EV_nz 0 (d := (19, [some (.ref 0), some (.int x), some (.int x2), some (.int x3), o4], [.int (ypow 10 (((I 5) - 1) - x3)), .int x], (hY I F sd))) (c1 := (20, [some (.ref 0), some (.int x), some (.int x2), some (.int x3), o4], [.int (x / (ypow 10 (((I 5) - 1) - x3)))], (hY I F sd))) rfl rfl (g1 p1)) ?_
    refine Eq.trans (b := pm_EV (pm_run mt (d + 2)) (some .int) oX8_leaves (29, [some (.ref 0), some (.int x), some (.int x2), some (.int x3), some (.int ((x / (ypow 10 (((I 5) - 1) - x3))) - (x / (ypow 10 (((I 5) - 1) - x3))) / 10 * 10))], [.int (bI (!decide ((F 6) x3.toNatClampNeg < pgr ((F 2)) x3 ((x / (ypow 10 (((I 5) - 1) - x3))) - (x / (ypow 10 (((I 5) - 1) - x3))) / 10 * 10))))], (hY I (uF F 6 (plF ((F 2)) ((F 6)) x3 ((x / (ypow 10 (((I 5) - 1) - x3))) - (x / (ypow 10 (((I 5) - 1) - x3))) / 10 * 10))) sd))) (pm_EV_cl 8 (call := pm_run mt (d + 2)) (d := (28, [some (.ref 0), some (.int x), some (.int x2), some (.int x3), some (.int ((x / (ypow 10 (((I 5) - 1) - x3))) - (x / (ypow 10 (((I 5) - 1) - x3))) / 10 * 10))], [.int ((x / (ypow 10 (((I 5) - 1) - x3))) - (x / (ypow 10 (((I 5) - 1) - x3))) / 10 * 10), .int x3, .ref 6, .ref 0], (hY I F sd))) (a := 139) (as := [.ref 0, .ref 6, .int x3, .int ((x / (ypow 10 (((I 5) - 1) - x3))) - (x / (ypow 10 (((I 5) - 1) - x3))) / 10 * 10)]) (hp := (hY I F sd)) (hp2 := (hY I (uF F 6 (plF ((F 2)) ((F 6)) x3 ((x / (ypow 10 (((I 5) - 1) - x3))) - (x / (ypow 10 (((I 5) - 1) - x3))) / 10 * 10))) sd)) (i2 := 29) (ls := [some (.ref 0), some (.int x), some (.int x2), some (.int x3), some (.int ((x / (ypow 10 (((I 5) - 1) - x3))) - (x / (ypow 10 (((I 5) - 1) - x3))) / 10 * 10))]) (rest := []) (r := some (.int (bI (!decide ((F 6) x3.toNatClampNeg < pgr ((F 2)) x3 ((x / (ypow 10 (((I 5) - 1) - x3))) - (x / (ypow 10 (((I 5) - 1) - x3))) / 10 * 10)))))) rfl rfl (sp_X8_goLeave_0_6 (d + 0) I F sd x3 ((x / (ypow 10 (((I 5) - 1) - x3))) - (x / (ypow 10 (((I 5) - 1) - x3))) / 10 * 10) (g2 p1))) ?_
    refine Eq.trans (pm_EV_at 0 (d := (29, [some (.ref 0), some (.int x), some (.int x2), some (.int x3), some (.int ((x / (ypow 10 (((I 5) - 1) - x3))) - (x / (ypow 10 (((I 5) - 1) - x3))) / 10 * 10))], [.int (bI (!decide ((F 6) x3.toNatClampNeg < pgr ((F 2)) x3 ((x / (ypow 10 (((I 5) - 1) - x3))) - (x / (ypow 10 (((I 5) - 1) - x3))) / 10 * 10))))], (hY I (uF F 6 (plF ((F 2)) ((F 6)) x3 ((x / (ypow 10 (((I 5) - 1) - x3))) - (x / (ypow 10 (((I 5) - 1) - x3))) / 10 * 10))) sd))) (x := if (bI (!decide ((F 6) x3.toNatClampNeg < pgr ((F 2)) x3 ((x / (ypow 10 (((I 5) - 1) - x3))) - (x / (ypow 10 (((I 5) - 1) - x3))) / 10 * 10)))) = 0 then .inl (30, [some (.ref 0), some (.int x), some (.int x2), some (.int x3), some (.int ((x / (ypow 10 (((I 5) - 1) - x3))) - (x / (ypow 10 (((I 5) - 1) - x3))) / 10 * 10))], [], (hY I (uF F 6 (plF ((F 2)) ((F 6)) x3 ((x / (ypow 10 (((I 5) - 1) - x3))) - (x / (ypow 10 (((I 5) - 1) - x3))) / 10 * 10))) sd)) else .inl (32, [some (.ref 0), some (.int x), some (.int x2), some (.int x3), some (.int ((x / (ypow 10 (((I 5) - 1) - x3))) - (x / (ypow 10 (((I 5) - 1) - x3))) / 10 * 10))], [], (hY I (uF F 6 (plF ((F 2)) ((F 6)) x3 ((x / (ypow 10 (((I 5) - 1) - x3))) - (x / (ypow 10 (((I 5) - 1) - x3))) / 10 * 10))) sd))) rfl rfl) ?_
    refine pm_rc (fun p2 => ?_) (fun p2 => ?_)
    · show pm_EV (pm_run mt (d + 2)) (some .int) oX8_leaves (30, [some (.ref 0), some (.int x), some (.int x2), some (.int x3), some (.int ((x / (ypow 10 (((I 5) - 1) - x3))) - (x / (ypow 10 (((I 5) - 1) - x3))) / 10 * 10))], [], (hY I (uF F 6 (plF ((F 2)) ((F 6)) x3 ((x / (ypow 10 (((I 5) - 1) - x3))) - (x / (ypow 10 (((I 5) - 1) - x3))) / 10 * 10))) sd)) = _
      exact pm_EV_at 1 (d := (31, [some (.ref 0), some (.int x), some (.int x2), some (.int x3), some (.int ((x / (ypow 10 (((I 5) - 1) - x3))) - (x / (ypow 10 (((I 5) - 1) - x3))) / 10 * 10))], [.int (-9)], (hY I (uF F 6 (plF ((F 2)) ((F 6)) x3 ((x / (ypow 10 (((I 5) - 1) - x3))) - (x / (ypow 10 (((I 5) - 1) - x3))) / 10 * 10))) sd))) rfl rfl
    · show pm_EV (pm_run mt (d + 2)) (some .int) oX8_leaves (32, [some (.ref 0), some (.int x), some (.int x2), some (.int x3), some (.int ((x / (ypow 10 (((I 5) - 1) - x3))) - (x / (ypow 10 (((I 5) - 1) - x3))) / 10 * 10))], [], (hY I (uF F 6 (plF ((F 2)) ((F 6)) x3 ((x / (ypow 10 (((I 5) - 1) - x3))) - (x / (ypow 10 (((I 5) - 1) - x3))) / 10 * 10))) sd)) = _
      refine Eq.trans (b := pm_EV (pm_run mt (d + 2)) (some .int) oX8_leaves (37, [some (.ref 0), some (.int x), some (.int x2), some (.int x3), some (.int ((x / (ypow 10 (((I 5) - 1) - x3))) - (x / (ypow 10 (((I 5) - 1) - x3))) / 10 * 10))], [.int (pgr ((F 2)) x3 ((x / (ypow 10 (((I 5) - 1) - x3))) - (x / (ypow 10 (((I 5) - 1) - x3))) / 10 * 10)), .int x2], (hY I (uF F 6 (plF ((F 2)) ((F 6)) x3 ((x / (ypow 10 (((I 5) - 1) - x3))) - (x / (ypow 10 (((I 5) - 1) - x3))) / 10 * 10))) sd))) (pm_EV_cl 4 (call := pm_run mt (d + 2)) (d := (36, [some (.ref 0), some (.int x), some (.int x2), some (.int x3), some (.int ((x / (ypow 10 (((I 5) - 1) - x3))) - (x / (ypow 10 (((I 5) - 1) - x3))) / 10 * 10))], [.int ((x / (ypow 10 (((I 5) - 1) - x3))) - (x / (ypow 10 (((I 5) - 1) - x3))) / 10 * 10), .int x3, .ref 0, .int x2], (hY I (uF F 6 (plF ((F 2)) ((F 6)) x3 ((x / (ypow 10 (((I 5) - 1) - x3))) - (x / (ypow 10 (((I 5) - 1) - x3))) / 10 * 10))) sd))) (a := 138) (as := [.ref 0, .int x3, .int ((x / (ypow 10 (((I 5) - 1) - x3))) - (x / (ypow 10 (((I 5) - 1) - x3))) / 10 * 10)]) (hp := (hY I (uF F 6 (plF ((F 2)) ((F 6)) x3 ((x / (ypow 10 (((I 5) - 1) - x3))) - (x / (ypow 10 (((I 5) - 1) - x3))) / 10 * 10))) sd)) (hp2 := (hY I (uF F 6 (plF ((F 2)) ((F 6)) x3 ((x / (ypow 10 (((I 5) - 1) - x3))) - (x / (ypow 10 (((I 5) - 1) - x3))) / 10 * 10))) sd)) (i2 := 37) (ls := [some (.ref 0), some (.int x), some (.int x2), some (.int x3), some (.int ((x / (ypow 10 (((I 5) - 1) - x3))) - (x / (ypow 10 (((I 5) - 1) - x3))) / 10 * 10))]) (rest := [.int x2]) (r := some (.int (pgr ((F 2)) x3 ((x / (ypow 10 (((I 5) - 1) - x3))) - (x / (ypow 10 (((I 5) - 1) - x3))) / 10 * 10)))) rfl rfl (sp_X8_grains_0 (d + 1) I (uF F 6 (plF ((F 2)) ((F 6)) x3 ((x / (ypow 10 (((I 5) - 1) - x3))) - (x / (ypow 10 (((I 5) - 1) - x3))) / 10 * 10))) sd x3 ((x / (ypow 10 (((I 5) - 1) - x3))) - (x / (ypow 10 (((I 5) - 1) - x3))) / 10 * 10) (g3 p1 p2))) ?_
      exact pm_EV_go 4 (d := (6, [some (.ref 0), some (.int x), some (.int (x2 + (pgr ((F 2)) x3 ((x / (ypow 10 (((I 5) - 1) - x3))) - (x / (ypow 10 (((I 5) - 1) - x3))) / 10 * 10)))), some (.int (x3 + 1)), some (.int ((x / (ypow 10 (((I 5) - 1) - x3))) - (x / (ypow 10 (((I 5) - 1) - x3))) / 10 * 10))], [], (hY I (uF F 6 (plF ((F 2)) ((F 6)) x3 ((x / (ypow 10 (((I 5) - 1) - x3))) - (x / (ypow 10 (((I 5) - 1) - x3))) / 10 * 10))) sd))) rfl
  · show pm_EV (pm_run mt (d + 2)) (some .int) oX8_leaves (41, [some (.ref 0), some (.int x), some (.int x2), some (.int x3), o4], [], (hY I F sd)) = _
    exact pm_EV_at 1 (d := (42, [some (.ref 0), some (.int x), some (.int x2), some (.int x3), o4], [.int x2], (hY I F sd))) rfl rfl
set_option maxRecDepth 100000 in
set_option maxHeartbeats 4000000 in
theorem en_X8_leaves_0 (d : Nat) (I : Nat → Int32) (F : Nat → Nat → Int32) (sd : Int64) (x : Int32) : pm_run mt (d + 3) 148 [.ref 0, .int x] (hY I F sd) = pm_EV (pm_run mt (d + 2)) (some .int) oX8_leaves (0, [some (.ref 0), some (.int x), none, none, none], [], (hY I F sd)) := rfl
set_option maxRecDepth 100000 in
set_option maxHeartbeats 4000000 in
theorem sp_X8_leaves_0 (d : Nat) (I : Nat → Int32) (F : Nat → Nat → Int32) (sd : Int64) (x : Int32) (h1 : inr (I 5) 5 = true) (h2 : inr x 100000 = true) : pm_run mt (d + 3) 148 [.ref 0, .int x] (hY I F sd) = some (some (.int ((lvR (F 2) (F 5) (F 6) (I 5) x).1)), (hY I (uF F 6 ((lvR (F 2) (F 5) (F 6) (I 5) x).2)) sd)) := by
  obtain ⟨n, hn, e⟩ := inr_nI (n := 5) (by decide) h1
  obtain ⟨z, hz, rfl⟩ := inr_nI (n := 100000) (by decide) h2
  rw [en_X8_leaves_0, tr_X8_leaves_0_0]
  unfold lvR
  rw [e, nI_clamp (by omega), nI_clamp (by omega)]
  have key : ∀ (m j : Nat) (p : Nat → Int32) (s : Int32) (o4 : Option Value), j + m = n → pm_EV (pm_run mt (d + 2)) (some .int) oX8_leaves (6, [some (.ref 0), some (.int (nI z)), some (.int s), some (.int (nI j)), o4], [], hY I (uF F 6 p) sd) = some (some (.int (lvL (F 2) z n m j p s).1), hY I (uF F 6 (lvL (F 2) z n m j p s).2) sd) := by
    intro m
    induction m with
    | zero =>
      intro j p s o4 hj
      have no : ¬ nI j < I 5 := fun h => by rw [e, nI_ltI (by omega) (by omega)] at h; omega
      rw [tr_X8_leaves_0_6 _ _ _ _ _ _ _ _ (fun h => absurd h no) (fun h => absurd h no) (fun h => absurd h no), if_neg no, lvL]
    | succ m ih =>
      intro j p s o4 hj
      have hp := p10 (show n - 1 - j ≤ 5 by omega)
      have hp0 : 0 < 10 ^ (n - 1 - j) := Nat.pow_pos (by decide)
      have ep : ypow 10 (I 5 - 1 - nI j) = nI (10 ^ (n - 1 - j)) := by
        rw [e, show (1 : Int32) = nI 1 from rfl, pk_sub (by omega), pk_sub (by omega)]
        unfold ypow
        rw [nI_clamp (by omega)]
        exact ypS_N 10 _
      have ed : nI z / ypow 10 (I 5 - 1 - nI j) - nI z / ypow 10 (I 5 - 1 - nI j) / 10 * 10 = lvD z n j := by
        have hd : z / 10 ^ (n - 1 - j) ≤ z := Nat.div_le_self _ _
        rw [ep, pk_div (by omega) hp0 (by omega), show (10 : Int32) = nI 10 from rfl, pk_rem (by omega) (by decide) (by decide)]
        rfl
      have h4 := inr_mk (n := 4) (by decide) (show j < 4 by omega)
      rw [tr_X8_leaves_0_6 _ _ _ _ _ _ _ _ (fun _ => by rw [ep]; exact nI_ne0 hp0 (by omega)) (fun _ => h4) (fun _ _ => h4), if_pos (by rw [e, nI_ltI (by omega) (by omega)]; omega), ed, uF_uF, uF_at, uF_ne _ _ (by decide), nI_clamp (by omega), nI_p1, lvL]
      simp only [bI_n, decide_eq_true_eq]
      by_cases c : p j < pgr (F 2) (nI j) (lvD z n j)
      · simp only [c, if_true, decide_true, Bool.not_true, bI_0]
      · simp only [c, if_false, decide_false, Bool.not_false, bI_0, Bool.true_eq_false]
        exact ih _ _ _ _ (by omega)
  exact key n 0 _ 0 none (Nat.zero_add _)
