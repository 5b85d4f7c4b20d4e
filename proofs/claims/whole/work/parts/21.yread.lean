/-! the reference: its text read -/
def figOk (p n : Int32) : Prop := ∃ k z : Nat, k ≤ z ∧ z ≤ 48 ∧ p = nI k ∧ n = nI z
def figB (m p : Int32) (f : Nat → Int32) : Bool := lin (f p.toNatClampNeg - 48).toInt64 0 m.toInt64
def figA (m p n : Int32) (f : Nat → Int32) : Int32 := if p = n then -9 else if figB m p f = false then -9 else f p.toNatClampNeg - 48
def figP (m p n : Int32) (f : Nat → Int32) : Int32 := if p = n then p else if figB m p f = false then p else p + 1
theorem figOk_in {p n : Int32} (h : figOk p n) (h2 : ¬ p = n) : pm_in p 48 = true := by
  obtain ⟨k, z, h1, h3, rfl, rfl⟩ := h
  exact pm_in_nI (by have : k ≠ z := fun e => h2 (by rw [e]); omega) (by decide)
theorem figOk_P {m p n : Int32} {f : Nat → Int32} (h : figOk p n) : figOk (figP m p n f) n := by
  obtain ⟨k, z, h1, h3, rfl, rfl⟩ := h
  unfold figP
  by_cases e1 : nI k = nI z
  · rw [if_pos e1]; exact ⟨k, z, h1, h3, rfl, rfl⟩
  · rw [if_neg e1]
    by_cases e2 : figB m (nI k) f = false
    · rw [if_pos e2]; exact ⟨k, z, h1, h3, rfl, rfl⟩
    · rw [if_neg e2, nI_p1]
      exact ⟨k + 1, z, by have : k ≠ z := fun e => e1 (by rw [e]); omega, h3, rfl, rfl⟩
set_option maxRecDepth 100000 in
set_option maxHeartbeats 4000000 in
theorem tr_X8_figure_0_0 (d : Nat) (I : Nat → Int32) (F : Nat → Nat → Int32) (sd : Int64) (m : Int32) (g1 : (¬ ((I 3) = (I 2))) → pm_in (I 3) 48 = true) (g2 : (¬ ((I 3) = (I 2))) → (¬ ((bI (lin ((((F 1) (I 3).toNatClampNeg) - 48 : Int32).toInt64) 0 ((m : Int32).toInt64))) = 0)) → pm_in (((I 3) + 1) - 1) 48 = true) : pm_EV (pm_run mt (d + 1)) (some .int) oX8_figure (0, [some (.ref 0), some (.int m)], [], (hY I F sd)) = (if (I 3) = (I 2) then some (some (.int (-9)), (hY I F sd)) else (if (bI (lin ((((F 1) (I 3).toNatClampNeg) - 48 : Int32).toInt64) 0 ((m : Int32).toInt64))) = 0 then some (some (.int (-9)), (hY I F sd)) else some (some (.int (((F 1) (((I 3) + 1) - 1).toNatClampNeg) - 48)), (hY (upd I 3 ((I 3) + 1)) F sd)))) := by
  refine Eq.trans (pm_EV_at 4 (d := (4, [some (.ref 0), some (.int m)], [.int (I 2), .int (I 3)], (hY I F sd))) (x := if (I 3) = (I 2) then .inl (18, [some (.ref 0), some (.int m)], [], (hY I F sd)) else .inl (5, [some (.ref 0), some (.int m)], [], (hY I F sd))) rfl rfl) ?_
  refine pm_rc (fun p1 => ?_) (fun p1 => ?_)
  · show pm_EV (pm_run mt (d + 1)) (some .int) oX8_figure (18, [some (.ref 0), some (.int m)], [], (hY I F sd)) = _
    exact pm_EV_at 1 (d := (19, [some (.ref 0), some (.int m)], [.int (-9)], (hY I F sd))) rfl rfl
  · show pm_EV (pm_run mt (d + 1)) (some .int) oX8_figure (5, [some (.ref 0), some (.int m)], [], (hY I F sd)) = _
    refine Eq.trans (b := pm_EV (pm_run mt (d + 1)) (some .int) oX8_figure (10, [some (.ref 0), some (.int m)], [.int ((F 1) (I 3).toNatClampNeg)], (hY I F sd))) (pm_EV_gd 4 (d := (9, [some (.ref 0), some (.int m)], [.int (I 3), .ref 1], (hY I F sd))) (c1 := (10, [some (.ref 0), some (.int m)], [.int ((F 1) (I 3).toNatClampNeg)], (hY I F sd))) rfl rfl (⟨rfl, g1 p1⟩)) ?_
    refine Eq.trans (b := pm_EV (pm_run mt (d + 1)) (some .int) oX8_figure (17, [some (.ref 0), some (.int m)], [.int (bI (lin ((((F 1) (I 3).toNatClampNeg) - 48 : Int32).toInt64) 0 ((m : Int32).toInt64)))], (hY I F sd))) (pm_EV_cl 6 (call := pm_run mt (d + 1)) (d := (16, [some (.ref 0), some (.int m)], [.long ((m : Int32).toInt64), .long 0, .long ((((F 1) (I 3).toNatClampNeg) - 48 : Int32).toInt64)], (hY I F sd))) (a := 106) (as := [.long ((((F 1) (I 3).toNatClampNeg) - 48 : Int32).toInt64), .long 0, .long ((m : Int32).toInt64)]) (hp := (hY I F sd)) (hp2 := (hY I F sd)) (i2 := 17) (ls := [some (.ref 0), some (.int m)]) (rest := []) (r := some (.int (bI (lin ((((F 1) (I 3).toNatClampNeg) - 48 : Int32).toInt64) 0 ((m : Int32).toInt64))))) rfl rfl (sp_X8_in (d + 0) I F sd ((((F 1) (I 3).toNatClampNeg) - 48 : Int32).toInt64) 0 ((m : Int32).toInt64) )) ?_
    refine Eq.trans (pm_EV_at 0 (d := (17, [some (.ref 0), some (.int m)], [.int (bI (lin ((((F 1) (I 3).toNatClampNeg) - 48 : Int32).toInt64) 0 ((m : Int32).toInt64)))], (hY I F sd))) (x := if (bI (lin ((((F 1) (I 3).toNatClampNeg) - 48 : Int32).toInt64) 0 ((m : Int32).toInt64))) = 0 then .inl (18, [some (.ref 0), some (.int m)], [], (hY I F sd)) else .inl (20, [some (.ref 0), some (.int m)], [], (hY I F sd))) rfl rfl) ?_
    refine pm_rc (fun p2 => ?_) (fun p2 => ?_)
    · show pm_EV (pm_run mt (d + 1)) (some .int) oX8_figure (18, [some (.ref 0), some (.int m)], [], (hY I F sd)) = _
      exact pm_EV_at 1 (d := (19, [some (.ref 0), some (.int m)], [.int (-9)], (hY I F sd))) rfl rfl
    · show pm_EV (pm_run mt (d + 1)) (some .int) oX8_figure (20, [some (.ref 0), some (.int m)], [], (hY I F sd)) = _
      refine Eq.trans (b := pm_EV (pm_run mt (d + 1)) (some .int) oX8_figure (33, [some (.ref 0), some (.int m)], [.int ((F 1) (((I 3) + 1) - 1).toNatClampNeg)], (hY (upd I 3 ((I 3) + 1)) F sd))) (pm_EV_gd 12 (d := (32, [some (.ref 0), some (.int m)], [.int (((I 3) + 1) - 1), .ref 1], (hY (upd I 3 ((I 3) + 1)) F sd))) (c1 := (33, [some (.ref 0), some (.int m)], [.int ((F 1) (((I 3) + 1) - 1).toNatClampNeg)], (hY (upd I 3 ((I 3) + 1)) F sd))) rfl rfl (⟨rfl, g2 p1 p2⟩)) ?_
      exact pm_EV_at 2 (d := (35, [some (.ref 0), some (.int m)], [.int (((F 1) (((I 3) + 1) - 1).toNatClampNeg) - 48)], (hY (upd I 3 ((I 3) + 1)) F sd))) rfl rfl
set_option maxRecDepth 100000 in
set_option maxHeartbeats 4000000 in
theorem en_X8_figure_0 (d : Nat) (I : Nat → Int32) (F : Nat → Nat → Int32) (sd : Int64) (m : Int32) : pm_run mt (d + 2) 116 [.ref 0, .int m] (hY I F sd) = pm_EV (pm_run mt (d + 1)) (some .int) oX8_figure (0, [some (.ref 0), some (.int m)], [], (hY I F sd)) := rfl
set_option maxRecDepth 100000 in
set_option maxHeartbeats 4000000 in
theorem sp_X8_figure_0 (d : Nat) (I : Nat → Int32) (F : Nat → Nat → Int32) (sd : Int64) (m : Int32) (h1 : figOk (I 3) (I 2)) : pm_run mt (d + 2) 116 [.ref 0, .int m] (hY I F sd) = some (some (.int (figA m (I 3) (I 2) (F 1))), (hY (upd I 3 (figP m (I 3) (I 2) (F 1))) F sd)) := by
  have e9 : I 3 + 1 - 1 = I 3 := Int32.add_sub_cancel _ _
  rw [en_X8_figure_0, tr_X8_figure_0_0 _ _ _ _ _ (fun h => figOk_in h1 h) (fun h _ => by rw [e9]; exact figOk_in h1 h), e9]
  simp only [bI_0]
  unfold figA figP figB
  by_cases c1 : I 3 = I 2
  · simp only [c1, if_true]
    rw [← c1, upd_self]
  · by_cases c2 : lin (F 1 (I 3).toNatClampNeg - 48).toInt64 0 m.toInt64 = false
    · simp only [c1, c2, if_true, if_false, upd_self]
    · simp only [c1, c2, if_false]
      rfl
theorem uF_keep (F : Nat → Nat → Int32) {k j : Nat} (f : Nat → Int32) (h : j ≠ k) : uF (uF F k f) j (F j) = uF F k f := by
  funext z
  unfold uF
  by_cases h1 : z = j
  · subst h1; rw [if_pos rfl, if_neg h]
  · rw [if_neg h1]
def r1a (I f : Nat → Int32) : Int32 := figA 9 (I 3) (I 2) f
def r1p (I f : Nat → Int32) : Int32 := figP 9 (I 3) (I 2) f
def r1b (I f : Nat → Int32) : Int32 := figA 3 (r1p I f) (I 2) f
def r1q (I f : Nat → Int32) : Int32 := figP 3 (r1p I f) (I 2) f
def r1A (I f : Nat → Int32) : Bool := !decide (r1a I f = -9) && !decide (r1b I f = -9)
def r1I (I f : Nat → Int32) : Nat → Int32 := if r1a I f = -9 then upd I 3 (r1p I f) else if r1b I f = -9 then upd I 3 (r1q I f) else upd (upd I 3 (r1q I f)) 10 (I 10 + 1)
def r1F (I f g : Nat → Int32) : Nat → Int32 := if r1a I f = -9 then g else if r1b I f = -9 then g else upd (upd g (2 * I 10).toNatClampNeg (10 * r1a I f)) (2 * I 10 + 1).toNatClampNeg (r1b I f)
def r2A (I f : Nat → Int32) : Bool := !decide (r1a I f = -9)
def r2I (I f : Nat → Int32) : Nat → Int32 := if r1a I f = -9 then upd I 3 (r1p I f) else upd (upd I 3 (r1p I f)) 12 (I 12 + 1)
def r2F (I f g : Nat → Int32) : Nat → Int32 := if r1a I f = -9 then g else upd g (I 12).toNatClampNeg (r1a I f)
theorem in_2x {x : Int32} (h : inr x 4 = true) : pm_in (2 * x) 8 = true ∧ pm_in (2 * x + 1) 8 = true := by
  obtain ⟨k, hk, rfl⟩ := inr_nI (n := 4) (by decide) h
  rw [show (2 : Int32) = nI 2 from rfl, pk_mul, nI_p1]
  exact ⟨pm_in_nI (by omega) (by decide), pm_in_nI (by omega) (by decide)⟩
theorem in_nn {x : Int32} {n : Nat} (hn : n < 2 ^ 31) (h : inr x (nI n) = true) : pm_in x n = true := by
  obtain ⟨k, hk, rfl⟩ := inr_nI hn h
  exact pm_in_nI hk hn
set_option maxRecDepth 100000 in
set_option maxHeartbeats 4000000 in
theorem tr_X8_readOneFood_0_0 (d : Nat) (I : Nat → Int32) (F : Nat → Nat → Int32) (sd : Int64) (g1 : figOk ((I 3)) ((I 2))) (g2 : (¬ ((figA 9 ((I 3)) ((I 2)) ((F 1))) = (-9))) → figOk ((figP 9 ((I 3)) ((I 2)) ((F 1)))) ((I 2))) : pm_EV (pm_run mt (d + 2)) (some .boolean) oX8_readOneFood (0, [some (.ref 0), none, none], [], (hY I F sd)) = (if (figA 9 ((I 3)) ((I 2)) ((F 1))) = (-9) then some (some (.int 0), (hY (upd I 3 (figP 9 ((I 3)) ((I 2)) ((F 1)))) F sd)) else (if (figA 3 ((figP 9 ((I 3)) ((I 2)) ((F 1)))) ((I 2)) ((F 1))) = (-9) then some (some (.int 0), (hY (upd I 3 (figP 3 ((figP 9 ((I 3)) ((I 2)) ((F 1)))) ((I 2)) ((F 1)))) F sd)) else pm_EV (pm_run mt (d + 2)) (some .boolean) oX8_readOneFood (18, [some (.ref 0), some (.int (figA 9 ((I 3)) ((I 2)) ((F 1)))), some (.int (figA 3 ((figP 9 ((I 3)) ((I 2)) ((F 1)))) ((I 2)) ((F 1))))], [], (hY (upd I 3 (figP 3 ((figP 9 ((I 3)) ((I 2)) ((F 1)))) ((I 2)) ((F 1)))) F sd)))) := by
  refine Eq.trans (b := pm_EV (pm_run mt (d + 2)) (some .boolean) oX8_readOneFood (3, [some (.ref 0), none, none], [.int (figA 9 ((I 3)) ((I 2)) ((F 1)))], (hY (upd I 3 (figP 9 ((I 3)) ((I 2)) ((F 1)))) F sd))) (pm_EV_cl 2 (call := pm_run mt (d + 2)) (d := (2, [some (.ref 0), none, none], [.int 9, .ref 0], (hY I F sd))) (a := 116) (as := [.ref 0, .int 9]) (hp := (hY I F sd)) (hp2 := (hY (upd I 3 (figP 9 ((I 3)) ((I 2)) ((F 1)))) F sd)) (i2 := 3) (ls := [some (.ref 0), none, none]) (rest := []) (r := some (.int (figA 9 ((I 3)) ((I 2)) ((F 1))))) rfl rfl (sp_X8_figure_0 (d + 0) I F sd 9 g1)) ?_
  refine Eq.trans (pm_EV_at 3 (d := (6, [some (.ref 0), some (.int (figA 9 ((I 3)) ((I 2)) ((F 1)))), none], [.int (-9), .int (figA 9 ((I 3)) ((I 2)) ((F 1)))], (hY (upd I 3 (figP 9 ((I 3)) ((I 2)) ((F 1)))) F sd))) (x := if (figA 9 ((I 3)) ((I 2)) ((F 1))) = (-9) then .inl (7, [some (.ref 0), some (.int (figA 9 ((I 3)) ((I 2)) ((F 1)))), none], [], (hY (upd I 3 (figP 9 ((I 3)) ((I 2)) ((F 1)))) F sd)) else .inl (9, [some (.ref 0), some (.int (figA 9 ((I 3)) ((I 2)) ((F 1)))), none], [], (hY (upd I 3 (figP 9 ((I 3)) ((I 2)) ((F 1)))) F sd))) rfl rfl) ?_
  refine pm_rc (fun p1 => ?_) (fun p1 => ?_)
  · show pm_EV (pm_run mt (d + 2)) (some .boolean) oX8_readOneFood (7, [some (.ref 0), some (.int (figA 9 ((I 3)) ((I 2)) ((F 1)))), none], [], (hY (upd I 3 (figP 9 ((I 3)) ((I 2)) ((F 1)))) F sd)) = _
    exact pm_EV_at 7 (d := (17, [some (.ref 0), some (.int (figA 9 ((I 3)) ((I 2)) ((F 1)))), some (.int (-9))], [.int 0], (hY (upd I 3 (figP 9 ((I 3)) ((I 2)) ((F 1)))) F sd))) rfl rfl
  · show pm_EV (pm_run mt (d + 2)) (some .boolean) oX8_readOneFood (9, [some (.ref 0), some (.int (figA 9 ((I 3)) ((I 2)) ((F 1)))), none], [], (hY (upd I 3 (figP 9 ((I 3)) ((I 2)) ((F 1)))) F sd)) = _
    refine Eq.trans (b := pm_EV (pm_run mt (d + 2)) (some .boolean) oX8_readOneFood (12, [some (.ref 0), some (.int (figA 9 ((I 3)) ((I 2)) ((F 1)))), none], [.int (figA 3 ((figP 9 ((I 3)) ((I 2)) ((F 1)))) ((I 2)) ((F 1)))], (hY (upd I 3 (figP 3 ((figP 9 ((I 3)) ((I 2)) ((F 1)))) ((I 2)) ((F 1)))) F sd))) (pm_EV_cl 2 (call := pm_run mt (d + 2)) (d := (11, [some (.ref 0), some (.int (figA 9 ((I 3)) ((I 2)) ((F 1)))), none], [.int 3, .ref 0], (hY (upd I 3 (figP 9 ((I 3)) ((I 2)) ((F 1)))) F sd))) (a := 116) (as := [.ref 0, .int 3]) (hp := (hY (upd I 3 (figP 9 ((I 3)) ((I 2)) ((F 1)))) F sd)) (hp2 := (hY (upd I 3 (figP 3 ((figP 9 ((I 3)) ((I 2)) ((F 1)))) ((I 2)) ((F 1)))) F sd)) (i2 := 12) (ls := [some (.ref 0), some (.int (figA 9 ((I 3)) ((I 2)) ((F 1)))), none]) (rest := []) (r := some (.int (figA 3 ((figP 9 ((I 3)) ((I 2)) ((F 1)))) ((I 2)) ((F 1))))) rfl rfl (sp_X8_figure_0 (d + 0) (upd I 3 (figP 9 ((I 3)) ((I 2)) ((F 1)))) F sd 3 (g2 p1))) ?_
    refine Eq.trans (pm_EV_at 3 (d := (15, [some (.ref 0), some (.int (figA 9 ((I 3)) ((I 2)) ((F 1)))), some (.int (figA 3 ((figP 9 ((I 3)) ((I 2)) ((F 1)))) ((I 2)) ((F 1))))], [.int (-9), .int (figA 3 ((figP 9 ((I 3)) ((I 2)) ((F 1)))) ((I 2)) ((F 1)))], (hY (upd I 3 (figP 3 ((figP 9 ((I 3)) ((I 2)) ((F 1)))) ((I 2)) ((F 1)))) F sd))) (x := if (figA 3 ((figP 9 ((I 3)) ((I 2)) ((F 1)))) ((I 2)) ((F 1))) = (-9) then .inl (16, [some (.ref 0), some (.int (figA 9 ((I 3)) ((I 2)) ((F 1)))), some (.int (figA 3 ((figP 9 ((I 3)) ((I 2)) ((F 1)))) ((I 2)) ((F 1))))], [], (hY (upd I 3 (figP 3 ((figP 9 ((I 3)) ((I 2)) ((F 1)))) ((I 2)) ((F 1)))) F sd)) else .inl (18, [some (.ref 0), some (.int (figA 9 ((I 3)) ((I 2)) ((F 1)))), some (.int (figA 3 ((figP 9 ((I 3)) ((I 2)) ((F 1)))) ((I 2)) ((F 1))))], [], (hY (upd I 3 (figP 3 ((figP 9 ((I 3)) ((I 2)) ((F 1)))) ((I 2)) ((F 1)))) F sd))) rfl rfl) ?_
    refine pm_rc (fun p2 => ?_) (fun p2 => ?_)
    · show pm_EV (pm_run mt (d + 2)) (some .boolean) oX8_readOneFood (16, [some (.ref 0), some (.int (figA 9 ((I 3)) ((I 2)) ((F 1)))), some (.int (figA 3 ((figP 9 ((I 3)) ((I 2)) ((F 1)))) ((I 2)) ((F 1))))], [], (hY (upd I 3 (figP 3 ((figP 9 ((I 3)) ((I 2)) ((F 1)))) ((I 2)) ((F 1)))) F sd)) = _
      exact pm_EV_at 1 (d := (17, [some (.ref 0), some (.int (figA 9 ((I 3)) ((I 2)) ((F 1)))), some (.int (figA 3 ((figP 9 ((I 3)) ((I 2)) ((F 1)))) ((I 2)) ((F 1))))], [.int 0], (hY (upd I 3 (figP 3 ((figP 9 ((I 3)) ((I 2)) ((F 1)))) ((I 2)) ((F 1)))) F sd))) rfl rfl
    · show pm_EV (pm_run mt (d + 2)) (some .boolean) oX8_readOneFood (18, [some (.ref 0), some (.int (figA 9 ((I 3)) ((I 2)) ((F 1)))), some (.int (figA 3 ((figP 9 ((I 3)) ((I 2)) ((F 1)))) ((I 2)) ((F 1))))], [], (hY (upd I 3 (figP 3 ((figP 9 ((I 3)) ((I 2)) ((F 1)))) ((I 2)) ((F 1)))) F sd)) = _
      rfl
set_option maxRecDepth 100000 in
set_option maxHeartbeats 4000000 in
theorem tr_X8_readOneFood_0_18 (d : Nat) (I : Nat → Int32) (F : Nat → Nat → Int32) (sd : Int64) (x1 : Int32) (x2 : Int32) (g1 : pm_in (2 * (I 10)) 8 = true) : pm_EV (pm_run mt (d + 2)) (some .boolean) oX8_readOneFood (18, [some (.ref 0), some (.int x1), some (.int x2)], [], (hY I F sd)) = pm_EV (pm_run mt (d + 2)) (some .boolean) oX8_readOneFood (28, [some (.ref 0), some (.int x1), some (.int x2)], [], (hY I (uF F 3 (upd (F 3) (2 * (I 10)).toNatClampNeg (10 * x1))) sd)) := by
  refine Eq.trans (b := pm_EV (pm_run mt (d + 2)) (some .boolean) oX8_readOneFood (28, [some (.ref 0), some (.int x1), some (.int x2)], [], ((hY I F sd)).set 3 (.inl (0, 8, .inl (upd (F 3) (2 * (I 10)).toNatClampNeg (10 * x1)))))) (pm_EV_gd 9 (d := (27, [some (.ref 0), some (.int x1), some (.int x2)], [.int (10 * x1), .int (2 * (I 10)), .ref 3], (hY I F sd))) (c1 := (28, [some (.ref 0), some (.int x1), some (.int x2)], [], ((hY I F sd)).set 3 (.inl (0, 8, .inl (upd (F 3) (2 * (I 10)).toNatClampNeg (10 * x1)))))) rfl rfl ⟨rfl, g1⟩) ?_
  refine Eq.trans (b := pm_EV (pm_run mt (d + 2)) (some .boolean) oX8_readOneFood (28, [some (.ref 0), some (.int x1), some (.int x2)], [], (hY I (uF F 3 (upd (F 3) (2 * (I 10)).toNatClampNeg (10 * x1))) sd))) (congrArg (fun hz => pm_EV (pm_run mt (d + 2)) (some .boolean) oX8_readOneFood (28, [some (.ref 0), some (.int x1), some (.int x2)], [], hz)) (hY_s3 I F sd (upd (F 3) (2 * (I 10)).toNatClampNeg (10 * x1)))) ?_
  rfl
set_option maxRecDepth 100000 in
set_option maxHeartbeats 4000000 in
theorem tr_X8_readOneFood_0_28 (d : Nat) (I : Nat → Int32) (F : Nat → Nat → Int32) (sd : Int64) (x1 : Int32) (x2 : Int32) (g1 : pm_in ((2 * (I 10)) + 1) 8 = true) : pm_EV (pm_run mt (d + 2)) (some .boolean) oX8_readOneFood (28, [some (.ref 0), some (.int x1), some (.int x2)], [], (hY I F sd)) = some (some (.int 1), (hY (upd I 10 ((I 10) + 1)) (uF F 3 (upd (F 3) ((2 * (I 10)) + 1).toNatClampNeg x2)) sd)) := by
  refine Eq.trans (b := pm_EV (pm_run mt (d + 2)) (some .boolean) oX8_readOneFood (38, [some (.ref 0), some (.int x1), some (.int x2)], [], ((hY I F sd)).set 3 (.inl (0, 8, .inl (upd (F 3) ((2 * (I 10)) + 1).toNatClampNeg x2))))) (pm_EV_gd 9 (d := (37, [some (.ref 0), some (.int x1), some (.int x2)], [.int x2, .int ((2 * (I 10)) + 1), .ref 3], (hY I F sd))) (c1 := (38, [some (.ref 0), some (.int x1), some (.int x2)], [], ((hY I F sd)).set 3 (.inl (0, 8, .inl (upd (F 3) ((2 * (I 10)) + 1).toNatClampNeg x2))))) rfl rfl ⟨rfl, g1⟩) ?_
  refine Eq.trans (b := pm_EV (pm_run mt (d + 2)) (some .boolean) oX8_readOneFood (38, [some (.ref 0), some (.int x1), some (.int x2)], [], (hY I (uF F 3 (upd (F 3) ((2 * (I 10)) + 1).toNatClampNeg x2)) sd))) (congrArg (fun hz => pm_EV (pm_run mt (d + 2)) (some .boolean) oX8_readOneFood (38, [some (.ref 0), some (.int x1), some (.int x2)], [], hz)) (hY_s3 I F sd (upd (F 3) ((2 * (I 10)) + 1).toNatClampNeg x2))) ?_
  exact pm_EV_at 7 (d := (45, [some (.ref 0), some (.int x1), some (.int x2)], [.int 1], (hY (upd I 10 ((I 10) + 1)) (uF F 3 (upd (F 3) ((2 * (I 10)) + 1).toNatClampNeg x2)) sd))) rfl rfl
set_option maxRecDepth 100000 in
set_option maxHeartbeats 4000000 in
theorem en_X8_readOneFood_0 (d : Nat) (I : Nat → Int32) (F : Nat → Nat → Int32) (sd : Int64) : pm_run mt (d + 3) 117 [.ref 0] (hY I F sd) = pm_EV (pm_run mt (d + 2)) (some .boolean) oX8_readOneFood (0, [some (.ref 0), none, none], [], (hY I F sd)) := rfl
set_option maxRecDepth 100000 in
set_option maxHeartbeats 4000000 in
theorem sp_X8_readOneFood_0 (d : Nat) (I : Nat → Int32) (F : Nat → Nat → Int32) (sd : Int64) (h1 : figOk (I 3) (I 2)) (h2 : inr (I 10) 4 = true) : pm_run mt (d + 3) 117 [.ref 0] (hY I F sd) = some (some (.int (bI (r1A I (F 1)))), (hY (r1I I (F 1)) (uF F 3 (r1F I (F 1) (F 3))) sd)) := by
  rw [en_X8_readOneFood_0, tr_X8_readOneFood_0_0 _ _ _ _ h1 (fun _ => figOk_P h1)]
  rw [show figA 9 (I 3) (I 2) (F 1) = r1a I (F 1) from rfl, show figP 9 (I 3) (I 2) (F 1) = r1p I (F 1) from rfl, show figA 3 (r1p I (F 1)) (I 2) (F 1) = r1b I (F 1) from rfl, show figP 3 (r1p I (F 1)) (I 2) (F 1) = r1q I (F 1) from rfl]
  unfold r1A r1I r1F bI
  by_cases c1 : r1a I (F 1) = -9
  · simp [c1, uF_self]
  · by_cases c2 : r1b I (F 1) = -9
    · simp [c1, c2, uF_self]
    · rw [if_neg c1, if_neg c2, if_neg c1, if_neg c1, if_neg c2, if_neg c2, tr_X8_readOneFood_0_18 _ _ _ _ _ _ (by rw [upd_ne _ _ (by decide)]; exact (in_2x h2).1), tr_X8_readOneFood_0_28 _ _ _ _ _ _ (by rw [upd_ne _ _ (by decide)]; exact (in_2x h2).2), uF_uF, uF_at]
      simp [c1, c2, upd_ne]
set_option maxRecDepth 100000 in
set_option maxHeartbeats 4000000 in
theorem tr_X8_readOneThing_0_0 (d : Nat) (I : Nat → Int32) (F : Nat → Nat → Int32) (sd : Int64) (g1 : figOk ((I 3)) ((I 2))) (g2 : (¬ ((figA 9 ((I 3)) ((I 2)) ((F 1))) = (-9))) → pm_in (I 12) 5 = true) : pm_EV (pm_run mt (d + 2)) (some .boolean) oX8_readOneThing (0, [some (.ref 0), none], [], (hY I F sd)) = (if (figA 9 ((I 3)) ((I 2)) ((F 1))) = (-9) then some (some (.int 0), (hY (upd I 3 (figP 9 ((I 3)) ((I 2)) ((F 1)))) F sd)) else some (some (.int 1), (hY (upd (upd I 3 (figP 9 ((I 3)) ((I 2)) ((F 1)))) 12 ((I 12) + 1)) (uF F 4 (upd (F 4) (I 12).toNatClampNeg (figA 9 ((I 3)) ((I 2)) ((F 1))))) sd))) := by
  refine Eq.trans (b := pm_EV (pm_run mt (d + 2)) (some .boolean) oX8_readOneThing (3, [some (.ref 0), none], [.int (figA 9 ((I 3)) ((I 2)) ((F 1)))], (hY (upd I 3 (figP 9 ((I 3)) ((I 2)) ((F 1)))) F sd))) (pm_EV_cl 2 (call := pm_run mt (d + 2)) (d := (2, [some (.ref 0), none], [.int 9, .ref 0], (hY I F sd))) (a := 116) (as := [.ref 0, .int 9]) (hp := (hY I F sd)) (hp2 := (hY (upd I 3 (figP 9 ((I 3)) ((I 2)) ((F 1)))) F sd)) (i2 := 3) (ls := [some (.ref 0), none]) (rest := []) (r := some (.int (figA 9 ((I 3)) ((I 2)) ((F 1))))) rfl rfl (sp_X8_figure_0 (d + 0) I F sd 9 g1)) ?_
  refine Eq.trans (pm_EV_at 3 (d := (6, [some (.ref 0), some (.int (figA 9 ((I 3)) ((I 2)) ((F 1))))], [.int (-9), .int (figA 9 ((I 3)) ((I 2)) ((F 1)))], (hY (upd I 3 (figP 9 ((I 3)) ((I 2)) ((F 1)))) F sd))) (x := if (figA 9 ((I 3)) ((I 2)) ((F 1))) = (-9) then .inl (7, [some (.ref 0), some (.int (figA 9 ((I 3)) ((I 2)) ((F 1))))], [], (hY (upd I 3 (figP 9 ((I 3)) ((I 2)) ((F 1)))) F sd)) else .inl (9, [some (.ref 0), some (.int (figA 9 ((I 3)) ((I 2)) ((F 1))))], [], (hY (upd I 3 (figP 9 ((I 3)) ((I 2)) ((F 1)))) F sd))) rfl rfl) ?_
  refine pm_rc (fun p1 => ?_) (fun p1 => ?_)
  · show pm_EV (pm_run mt (d + 2)) (some .boolean) oX8_readOneThing (7, [some (.ref 0), some (.int (figA 9 ((I 3)) ((I 2)) ((F 1))))], [], (hY (upd I 3 (figP 9 ((I 3)) ((I 2)) ((F 1)))) F sd)) = _
    exact pm_EV_at 1 (d := (8, [some (.ref 0), some (.int (figA 9 ((I 3)) ((I 2)) ((F 1))))], [.int 0], (hY (upd I 3 (figP 9 ((I 3)) ((I 2)) ((F 1)))) F sd))) rfl rfl
  · show pm_EV (pm_run mt (d + 2)) (some .boolean) oX8_readOneThing (9, [some (.ref 0), some (.int (figA 9 ((I 3)) ((I 2)) ((F 1))))], [], (hY (upd I 3 (figP 9 ((I 3)) ((I 2)) ((F 1)))) F sd)) = _
    refine Eq.trans (b := pm_EV (pm_run mt (d + 2)) (some .boolean) oX8_readOneThing (15, [some (.ref 0), some (.int (figA 9 ((I 3)) ((I 2)) ((F 1))))], [], ((hY (upd I 3 (figP 9 ((I 3)) ((I 2)) ((F 1)))) F sd)).set 4 (.inl (0, 5, .inl (upd (F 4) (I 12).toNatClampNeg (figA 9 ((I 3)) ((I 2)) ((F 1)))))))) (pm_EV_gd 5 (d := (14, [some (.ref 0), some (.int (figA 9 ((I 3)) ((I 2)) ((F 1))))], [.int (figA 9 ((I 3)) ((I 2)) ((F 1))), .int (I 12), .ref 4], (hY (upd I 3 (figP 9 ((I 3)) ((I 2)) ((F 1)))) F sd))) (c1 := (15, [some (.ref 0), some (.int (figA 9 ((I 3)) ((I 2)) ((F 1))))], [], ((hY (upd I 3 (figP 9 ((I 3)) ((I 2)) ((F 1)))) F sd)).set 4 (.inl (0, 5, .inl (upd (F 4) (I 12).toNatClampNeg (figA 9 ((I 3)) ((I 2)) ((F 1)))))))) rfl rfl ⟨rfl, g2 p1⟩) ?_
    refine Eq.trans (b := pm_EV (pm_run mt (d + 2)) (some .boolean) oX8_readOneThing (15, [some (.ref 0), some (.int (figA 9 ((I 3)) ((I 2)) ((F 1))))], [], (hY (upd I 3 (figP 9 ((I 3)) ((I 2)) ((F 1)))) (uF F 4 (upd (F 4) (I 12).toNatClampNeg (figA 9 ((I 3)) ((I 2)) ((F 1))))) sd))) (congrArg (fun hz => pm_EV (pm_run mt (d + 2)) (some .boolean) oX8_readOneThing (15, [some (.ref 0), some (.int (figA 9 ((I 3)) ((I 2)) ((F 1))))], [], hz)) (hY_s4 (upd I 3 (figP 9 ((I 3)) ((I 2)) ((F 1)))) F sd (upd (F 4) (I 12).toNatClampNeg (figA 9 ((I 3)) ((I 2)) ((F 1)))))) ?_
    exact pm_EV_at 7 (d := (22, [some (.ref 0), some (.int (figA 9 ((I 3)) ((I 2)) ((F 1))))], [.int 1], (hY (upd (upd I 3 (figP 9 ((I 3)) ((I 2)) ((F 1)))) 12 ((I 12) + 1)) (uF F 4 (upd (F 4) (I 12).toNatClampNeg (figA 9 ((I 3)) ((I 2)) ((F 1))))) sd))) rfl rfl
set_option maxRecDepth 100000 in
set_option maxHeartbeats 4000000 in
theorem en_X8_readOneThing_0 (d : Nat) (I : Nat → Int32) (F : Nat → Nat → Int32) (sd : Int64) : pm_run mt (d + 3) 118 [.ref 0] (hY I F sd) = pm_EV (pm_run mt (d + 2)) (some .boolean) oX8_readOneThing (0, [some (.ref 0), none], [], (hY I F sd)) := rfl
set_option maxRecDepth 100000 in
set_option maxHeartbeats 4000000 in
theorem sp_X8_readOneThing_0 (d : Nat) (I : Nat → Int32) (F : Nat → Nat → Int32) (sd : Int64) (h1 : figOk (I 3) (I 2)) (h2 : inr (I 12) 5 = true) : pm_run mt (d + 3) 118 [.ref 0] (hY I F sd) = some (some (.int (bI (r2A I (F 1)))), (hY (r2I I (F 1)) (uF F 4 (r2F I (F 1) (F 4))) sd)) := by
  rw [en_X8_readOneThing_0, tr_X8_readOneThing_0_0 _ _ _ _ h1 (fun _ => in_nn (n := 5) (by decide) h2)]
  rw [show figA 9 (I 3) (I 2) (F 1) = r1a I (F 1) from rfl, show figP 9 (I 3) (I 2) (F 1) = r1p I (F 1) from rfl]
  unfold r2A r2I r2F bI
  by_cases c1 : r1a I (F 1) = -9
  · simp [c1, uF_self]
  · simp [c1]
def r3C (I f : Nat → Int32) : Nat := if f (I 3).toNatClampNeg = 70 ∧ I 10 < 4 then 1 else if f (I 3).toNatClampNeg = 84 ∧ I 12 < 5 then 2 else 0
def r3u (I : Nat → Int32) : Nat → Int32 := upd I 3 (I 3 + 1)
def r3A (I f : Nat → Int32) : Bool := if r3C I f = 1 then r1A (r3u I) f else if r3C I f = 2 then r2A (r3u I) f else false
def r3I (I f : Nat → Int32) : Nat → Int32 := if r3C I f = 1 then r1I (r3u I) f else if r3C I f = 2 then r2I (r3u I) f else I
def r3F (I f g : Nat → Int32) : Nat → Int32 := if r3C I f = 1 then r1F (r3u I) f g else g
def r3G (I f g : Nat → Int32) : Nat → Int32 := if r3C I f = 2 then r2F (r3u I) f g else g
def r3ok (p n a b : Int32) : Prop := ∃ k z x y : Nat, k < z ∧ z ≤ 48 ∧ x ≤ 4 ∧ y ≤ 5 ∧ p = nI k ∧ n = nI z ∧ a = nI x ∧ b = nI y
set_option maxRecDepth 100000 in
set_option maxHeartbeats 4000000 in
theorem tr_X8_readPart_0_0 (d : Nat) (I : Nat → Int32) (F : Nat → Nat → Int32) (sd : Int64) (g1 : pm_in (I 3) 48 = true) (g2 : (((F 1) (I 3).toNatClampNeg) = 70) → ((I 10) < 4) → figOk (((I 3) + 1)) ((I 2))) (g3 : (((F 1) (I 3).toNatClampNeg) = 70) → ((I 10) < 4) → inr ((I 10)) 4 = true) (g4 : (((F 1) (I 3).toNatClampNeg) = 70) → (¬ ((I 10) < 4)) → (((F 1) (I 3).toNatClampNeg) = 84) → ((I 12) < 5) → figOk (((I 3) + 1)) ((I 2))) (g5 : (((F 1) (I 3).toNatClampNeg) = 70) → (¬ ((I 10) < 4)) → (((F 1) (I 3).toNatClampNeg) = 84) → ((I 12) < 5) → inr ((I 12)) 5 = true) (g6 : (¬ (((F 1) (I 3).toNatClampNeg) = 70)) → (((F 1) (I 3).toNatClampNeg) = 84) → ((I 12) < 5) → figOk (((I 3) + 1)) ((I 2))) (g7 : (¬ (((F 1) (I 3).toNatClampNeg) = 70)) → (((F 1) (I 3).toNatClampNeg) = 84) → ((I 12) < 5) → inr ((I 12)) 5 = true) : pm_EV (pm_run mt (d + 3)) (some .boolean) oX8_readPart (0, [some (.ref 0), none], [], (hY I F sd)) = (if ((F 1) (I 3).toNatClampNeg) = 70 then (if (I 10) < 4 then some (some (.int (bI (r1A (upd I 3 ((I 3) + 1)) ((F 1))))), (hY (r1I (upd I 3 ((I 3) + 1)) ((F 1))) (uF F 3 (r1F (upd I 3 ((I 3) + 1)) ((F 1)) ((F 3)))) sd)) else (if ((F 1) (I 3).toNatClampNeg) = 84 then (if (I 12) < 5 then some (some (.int (bI (r2A (upd I 3 ((I 3) + 1)) ((F 1))))), (hY (r2I (upd I 3 ((I 3) + 1)) ((F 1))) (uF F 4 (r2F (upd I 3 ((I 3) + 1)) ((F 1)) ((F 4)))) sd)) else some (some (.int 0), (hY (upd I 3 (((I 3) + 1) - 1)) F sd))) else some (some (.int 0), (hY (upd I 3 (((I 3) + 1) - 1)) F sd)))) else (if ((F 1) (I 3).toNatClampNeg) = 84 then (if (I 12) < 5 then some (some (.int (bI (r2A (upd I 3 ((I 3) + 1)) ((F 1))))), (hY (r2I (upd I 3 ((I 3) + 1)) ((F 1))) (uF F 4 (r2F (upd I 3 ((I 3) + 1)) ((F 1)) ((F 4)))) sd)) else some (some (.int 0), (hY (upd I 3 (((I 3) + 1) - 1)) F sd))) else some (some (.int 0), (hY (upd I 3 (((I 3) + 1) - 1)) F sd)))) := by
  refine Eq.trans (b := pm_EV (pm_run mt (d + 3)) (some .boolean) oX8_readPart (5, [some (.ref 0), none], [.int ((F 1) (I 3).toNatClampNeg)], (hY I F sd))) (pm_EV_gd 4 (d := (4, [some (.ref 0), none], [.int (I 3), .ref 1], (hY I F sd))) (c1 := (5, [some (.ref 0), none], [.int ((F 1) (I 3).toNatClampNeg)], (hY I F sd))) rfl rfl (⟨rfl, g1⟩)) ?_
  refine Eq.trans (pm_EV_at 9 (d := (14, [some (.ref 0), some (.int ((F 1) (I 3).toNatClampNeg))], [.int 70, .int ((F 1) (I 3).toNatClampNeg)], (hY (upd I 3 ((I 3) + 1)) F sd))) (x := if ((F 1) (I 3).toNatClampNeg) = 70 then .inl (15, [some (.ref 0), some (.int ((F 1) (I 3).toNatClampNeg))], [], (hY (upd I 3 ((I 3) + 1)) F sd)) else .inl (22, [some (.ref 0), some (.int ((F 1) (I 3).toNatClampNeg))], [], (hY (upd I 3 ((I 3) + 1)) F sd))) rfl rfl) ?_
  refine pm_rc (fun p1 => ?_) (fun p1 => ?_)
  · show pm_EV (pm_run mt (d + 3)) (some .boolean) oX8_readPart (15, [some (.ref 0), some (.int ((F 1) (I 3).toNatClampNeg))], [], (hY (upd I 3 ((I 3) + 1)) F sd)) = _
    refine Eq.trans (pm_EV_at 3 (d := (18, [some (.ref 0), some (.int ((F 1) (I 3).toNatClampNeg))], [.int 4, .int (I 10)], (hY (upd I 3 ((I 3) + 1)) F sd))) (x := if (I 10) < 4 then .inl (19, [some (.ref 0), some (.int ((F 1) (I 3).toNatClampNeg))], [], (hY (upd I 3 ((I 3) + 1)) F sd)) else .inl (22, [some (.ref 0), some (.int ((F 1) (I 3).toNatClampNeg))], [], (hY (upd I 3 ((I 3) + 1)) F sd))) rfl rfl) ?_
    refine pm_rc (fun p2 => ?_) (fun p2 => ?_)
    · show pm_EV (pm_run mt (d + 3)) (some .boolean) oX8_readPart (19, [some (.ref 0), some (.int ((F 1) (I 3).toNatClampNeg))], [], (hY (upd I 3 ((I 3) + 1)) F sd)) = _
      refine Eq.trans (b := pm_EV (pm_run mt (d + 3)) (some .boolean) oX8_readPart (21, [some (.ref 0), some (.int ((F 1) (I 3).toNatClampNeg))], [.int (bI (r1A (upd I 3 ((I 3) + 1)) ((F 1))))], (hY (r1I (upd I 3 ((I 3) + 1)) ((F 1))) (uF F 3 (r1F (upd I 3 ((I 3) + 1)) ((F 1)) ((F 3)))) sd))) (pm_EV_cl 1 (call := pm_run mt (d + 3)) (d := (20, [some (.ref 0), some (.int ((F 1) (I 3).toNatClampNeg))], [.ref 0], (hY (upd I 3 ((I 3) + 1)) F sd))) (a := 117) (as := [.ref 0]) (hp := (hY (upd I 3 ((I 3) + 1)) F sd)) (hp2 := (hY (r1I (upd I 3 ((I 3) + 1)) ((F 1))) (uF F 3 (r1F (upd I 3 ((I 3) + 1)) ((F 1)) ((F 3)))) sd)) (i2 := 21) (ls := [some (.ref 0), some (.int ((F 1) (I 3).toNatClampNeg))]) (rest := []) (r := some (.int (bI (r1A (upd I 3 ((I 3) + 1)) ((F 1)))))) rfl rfl (sp_X8_readOneFood_0 (d + 0) (upd I 3 ((I 3) + 1)) F sd  (g2 p1 p2) (g3 p1 p2))) ?_
      exact (pm_EV_rb 0 (d := (21, [some (.ref 0), some (.int ((F 1) (I 3).toNatClampNeg))], [.int (bI (r1A (upd I 3 ((I 3) + 1)) ((F 1))))], (hY (r1I (upd I 3 ((I 3) + 1)) ((F 1))) (uF F 3 (r1F (upd I 3 ((I 3) + 1)) ((F 1)) ((F 3)))) sd))) (x := bI (r1A (upd I 3 ((I 3) + 1)) ((F 1)))) (hp := (hY (r1I (upd I 3 ((I 3) + 1)) ((F 1))) (uF F 3 (r1F (upd I 3 ((I 3) + 1)) ((F 1)) ((F 3)))) sd)) rfl rfl (pm_rz_b _))
    · show pm_EV (pm_run mt (d + 3)) (some .boolean) oX8_readPart (22, [some (.ref 0), some (.int ((F 1) (I 3).toNatClampNeg))], [], (hY (upd I 3 ((I 3) + 1)) F sd)) = _
      refine Eq.trans (pm_EV_at 2 (d := (24, [some (.ref 0), some (.int ((F 1) (I 3).toNatClampNeg))], [.int 84, .int ((F 1) (I 3).toNatClampNeg)], (hY (upd I 3 ((I 3) + 1)) F sd))) (x := if ((F 1) (I 3).toNatClampNeg) = 84 then .inl (25, [some (.ref 0), some (.int ((F 1) (I 3).toNatClampNeg))], [], (hY (upd I 3 ((I 3) + 1)) F sd)) else .inl (32, [some (.ref 0), some (.int ((F 1) (I 3).toNatClampNeg))], [], (hY (upd I 3 ((I 3) + 1)) F sd))) rfl rfl) ?_
      refine pm_rc (fun p3 => ?_) (fun p3 => ?_)
      · show pm_EV (pm_run mt (d + 3)) (some .boolean) oX8_readPart (25, [some (.ref 0), some (.int ((F 1) (I 3).toNatClampNeg))], [], (hY (upd I 3 ((I 3) + 1)) F sd)) = _
        refine Eq.trans (pm_EV_at 3 (d := (28, [some (.ref 0), some (.int ((F 1) (I 3).toNatClampNeg))], [.int 5, .int (I 12)], (hY (upd I 3 ((I 3) + 1)) F sd))) (x := if (I 12) < 5 then .inl (29, [some (.ref 0), some (.int ((F 1) (I 3).toNatClampNeg))], [], (hY (upd I 3 ((I 3) + 1)) F sd)) else .inl (32, [some (.ref 0), some (.int ((F 1) (I 3).toNatClampNeg))], [], (hY (upd I 3 ((I 3) + 1)) F sd))) rfl rfl) ?_
        refine pm_rc (fun p4 => ?_) (fun p4 => ?_)
        · show pm_EV (pm_run mt (d + 3)) (some .boolean) oX8_readPart (29, [some (.ref 0), some (.int ((F 1) (I 3).toNatClampNeg))], [], (hY (upd I 3 ((I 3) + 1)) F sd)) = _
          refine Eq.trans (b := pm_EV (pm_run mt (d + 3)) (some .boolean) oX8_readPart (31, [some (.ref 0), some (.int ((F 1) (I 3).toNatClampNeg))], [.int (bI (r2A (upd I 3 ((I 3) + 1)) ((F 1))))], (hY (r2I (upd I 3 ((I 3) + 1)) ((F 1))) (uF F 4 (r2F (upd I 3 ((I 3) + 1)) ((F 1)) ((F 4)))) sd))) (pm_EV_cl 1 (call := pm_run mt (d + 3)) (d := (30, [some (.ref 0), some (.int ((F 1) (I 3).toNatClampNeg))], [.ref 0], (hY (upd I 3 ((I 3) + 1)) F sd))) (a := 118) (as := [.ref 0]) (hp := (hY (upd I 3 ((I 3) + 1)) F sd)) (hp2 := (hY (r2I (upd I 3 ((I 3) + 1)) ((F 1))) (uF F 4 (r2F (upd I 3 ((I 3) + 1)) ((F 1)) ((F 4)))) sd)) (i2 := 31) (ls := [some (.ref 0), some (.int ((F 1) (I 3).toNatClampNeg))]) (rest := []) (r := some (.int (bI (r2A (upd I 3 ((I 3) + 1)) ((F 1)))))) rfl rfl (sp_X8_readOneThing_0 (d + 0) (upd I 3 ((I 3) + 1)) F sd  (g4 p1 p2 p3 p4) (g5 p1 p2 p3 p4))) ?_
          exact (pm_EV_rb 0 (d := (31, [some (.ref 0), some (.int ((F 1) (I 3).toNatClampNeg))], [.int (bI (r2A (upd I 3 ((I 3) + 1)) ((F 1))))], (hY (r2I (upd I 3 ((I 3) + 1)) ((F 1))) (uF F 4 (r2F (upd I 3 ((I 3) + 1)) ((F 1)) ((F 4)))) sd))) (x := bI (r2A (upd I 3 ((I 3) + 1)) ((F 1)))) (hp := (hY (r2I (upd I 3 ((I 3) + 1)) ((F 1))) (uF F 4 (r2F (upd I 3 ((I 3) + 1)) ((F 1)) ((F 4)))) sd)) rfl rfl (pm_rz_b _))
        · show pm_EV (pm_run mt (d + 3)) (some .boolean) oX8_readPart (32, [some (.ref 0), some (.int ((F 1) (I 3).toNatClampNeg))], [], (hY (upd I 3 ((I 3) + 1)) F sd)) = _
          exact pm_EV_at 7 (d := (39, [some (.ref 0), some (.int ((F 1) (I 3).toNatClampNeg))], [.int 0], (hY (upd I 3 (((I 3) + 1) - 1)) F sd))) rfl rfl
      · show pm_EV (pm_run mt (d + 3)) (some .boolean) oX8_readPart (32, [some (.ref 0), some (.int ((F 1) (I 3).toNatClampNeg))], [], (hY (upd I 3 ((I 3) + 1)) F sd)) = _
        exact pm_EV_at 7 (d := (39, [some (.ref 0), some (.int ((F 1) (I 3).toNatClampNeg))], [.int 0], (hY (upd I 3 (((I 3) + 1) - 1)) F sd))) rfl rfl
  · show pm_EV (pm_run mt (d + 3)) (some .boolean) oX8_readPart (22, [some (.ref 0), some (.int ((F 1) (I 3).toNatClampNeg))], [], (hY (upd I 3 ((I 3) + 1)) F sd)) = _
    refine Eq.trans (pm_EV_at 2 (d := (24, [some (.ref 0), some (.int ((F 1) (I 3).toNatClampNeg))], [.int 84, .int ((F 1) (I 3).toNatClampNeg)], (hY (upd I 3 ((I 3) + 1)) F sd))) (x := if ((F 1) (I 3).toNatClampNeg) = 84 then .inl (25, [some (.ref 0), some (.int ((F 1) (I 3).toNatClampNeg))], [], (hY (upd I 3 ((I 3) + 1)) F sd)) else .inl (32, [some (.ref 0), some (.int ((F 1) (I 3).toNatClampNeg))], [], (hY (upd I 3 ((I 3) + 1)) F sd))) rfl rfl) ?_
    refine pm_rc (fun p2 => ?_) (fun p2 => ?_)
    · show pm_EV (pm_run mt (d + 3)) (some .boolean) oX8_readPart (25, [some (.ref 0), some (.int ((F 1) (I 3).toNatClampNeg))], [], (hY (upd I 3 ((I 3) + 1)) F sd)) = _
      refine Eq.trans (pm_EV_at 3 (d := (28, [some (.ref 0), some (.int ((F 1) (I 3).toNatClampNeg))], [.int 5, .int (I 12)], (hY (upd I 3 ((I 3) + 1)) F sd))) (x := if (I 12) < 5 then .inl (29, [some (.ref 0), some (.int ((F 1) (I 3).toNatClampNeg))], [], (hY (upd I 3 ((I 3) + 1)) F sd)) else .inl (32, [some (.ref 0), some (.int ((F 1) (I 3).toNatClampNeg))], [], (hY (upd I 3 ((I 3) + 1)) F sd))) rfl rfl) ?_
      refine pm_rc (fun p3 => ?_) (fun p3 => ?_)
      · show pm_EV (pm_run mt (d + 3)) (some .boolean) oX8_readPart (29, [some (.ref 0), some (.int ((F 1) (I 3).toNatClampNeg))], [], (hY (upd I 3 ((I 3) + 1)) F sd)) = _
        refine Eq.trans (b := pm_EV (pm_run mt (d + 3)) (some .boolean) oX8_readPart (31, [some (.ref 0), some (.int ((F 1) (I 3).toNatClampNeg))], [.int (bI (r2A (upd I 3 ((I 3) + 1)) ((F 1))))], (hY (r2I (upd I 3 ((I 3) + 1)) ((F 1))) (uF F 4 (r2F (upd I 3 ((I 3) + 1)) ((F 1)) ((F 4)))) sd))) (pm_EV_cl 1 (call := pm_run mt (d + 3)) (d := (30, [some (.ref 0), some (.int ((F 1) (I 3).toNatClampNeg))], [.ref 0], (hY (upd I 3 ((I 3) + 1)) F sd))) (a := 118) (as := [.ref 0]) (hp := (hY (upd I 3 ((I 3) + 1)) F sd)) (hp2 := (hY (r2I (upd I 3 ((I 3) + 1)) ((F 1))) (uF F 4 (r2F (upd I 3 ((I 3) + 1)) ((F 1)) ((F 4)))) sd)) (i2 := 31) (ls := [some (.ref 0), some (.int ((F 1) (I 3).toNatClampNeg))]) (rest := []) (r := some (.int (bI (r2A (upd I 3 ((I 3) + 1)) ((F 1)))))) rfl rfl (sp_X8_readOneThing_0 (d + 0) (upd I 3 ((I 3) + 1)) F sd  (g6 p1 p2 p3) (g7 p1 p2 p3))) ?_
        exact (pm_EV_rb 0 (d := (31, [some (.ref 0), some (.int ((F 1) (I 3).toNatClampNeg))], [.int (bI (r2A (upd I 3 ((I 3) + 1)) ((F 1))))], (hY (r2I (upd I 3 ((I 3) + 1)) ((F 1))) (uF F 4 (r2F (upd I 3 ((I 3) + 1)) ((F 1)) ((F 4)))) sd))) (x := bI (r2A (upd I 3 ((I 3) + 1)) ((F 1)))) (hp := (hY (r2I (upd I 3 ((I 3) + 1)) ((F 1))) (uF F 4 (r2F (upd I 3 ((I 3) + 1)) ((F 1)) ((F 4)))) sd)) rfl rfl (pm_rz_b _))
      · show pm_EV (pm_run mt (d + 3)) (some .boolean) oX8_readPart (32, [some (.ref 0), some (.int ((F 1) (I 3).toNatClampNeg))], [], (hY (upd I 3 ((I 3) + 1)) F sd)) = _
        exact pm_EV_at 7 (d := (39, [some (.ref 0), some (.int ((F 1) (I 3).toNatClampNeg))], [.int 0], (hY (upd I 3 (((I 3) + 1) - 1)) F sd))) rfl rfl
    · show pm_EV (pm_run mt (d + 3)) (some .boolean) oX8_readPart (32, [some (.ref 0), some (.int ((F 1) (I 3).toNatClampNeg))], [], (hY (upd I 3 ((I 3) + 1)) F sd)) = _
      exact pm_EV_at 7 (d := (39, [some (.ref 0), some (.int ((F 1) (I 3).toNatClampNeg))], [.int 0], (hY (upd I 3 (((I 3) + 1) - 1)) F sd))) rfl rfl
set_option maxRecDepth 100000 in
set_option maxHeartbeats 4000000 in
theorem en_X8_readPart_0 (d : Nat) (I : Nat → Int32) (F : Nat → Nat → Int32) (sd : Int64) : pm_run mt (d + 4) 119 [.ref 0] (hY I F sd) = pm_EV (pm_run mt (d + 3)) (some .boolean) oX8_readPart (0, [some (.ref 0), none], [], (hY I F sd)) := rfl
set_option maxRecDepth 100000 in
set_option maxHeartbeats 4000000 in
theorem sp_X8_readPart_0 (d : Nat) (I : Nat → Int32) (F : Nat → Nat → Int32) (sd : Int64) (h1 : r3ok (I 3) (I 2) (I 10) (I 12)) : pm_run mt (d + 4) 119 [.ref 0] (hY I F sd) = some (some (.int (bI (r3A I (F 1)))), (hY (r3I I (F 1)) (uF (uF F 3 (r3F I (F 1) (F 3))) 4 (r3G I (F 1) (F 4))) sd)) := by
  obtain ⟨k, z, x, y, hk, hz, hx, hy, e3, e2, e10, e12⟩ := h1
  have ok1 : figOk (I 3 + 1) (I 2) := ⟨k + 1, z, by omega, hz, by rw [e3, nI_p1], e2⟩
  have i10 : I 10 < 4 → inr (I 10) 4 = true := fun h => by
    rw [e10, show (4 : Int32) = nI 4 from rfl] at h ⊢
    rw [nI_ltI (by omega) (by decide)] at h
    exact inr_mk (by decide) h
  have i12 : I 12 < 5 → inr (I 12) 5 = true := fun h => by
    rw [e12, show (5 : Int32) = nI 5 from rfl] at h ⊢
    rw [nI_ltI (by omega) (by decide)] at h
    exact inr_mk (by decide) h
  have e9 : I 3 + 1 - 1 = I 3 := Int32.add_sub_cancel _ _
  rw [en_X8_readPart_0, tr_X8_readPart_0_0 _ _ _ _ (by rw [e3]; exact pm_in_nI (by omega) (by decide)) (fun _ _ => ok1) (fun _ h => i10 h) (fun _ _ _ _ => ok1) (fun _ _ _ h => i12 h) (fun _ _ _ => ok1) (fun _ _ h => i12 h)]
  rw [e9]
  unfold r3A r3I r3F r3G r3C r3u
  by_cases c1 : F 1 (I 3).toNatClampNeg = 70
  · have c2 : ¬ ((70 : Int32) = 84) := by decide
    by_cases c3 : I 10 < 4
    · simp [c1, c3, uF_self, uF_keep]
    · simp [c1, c3, uF_self, bI, upd_self]
  · by_cases c2 : F 1 (I 3).toNatClampNeg = 84
    · by_cases c3 : I 12 < 5
      · simp [c1, c2, c3, uF_self]
      · simp [c1, c2, c3, uF_self, bI, upd_self]
    · simp [c1, c2, uF_self, bI, upd_self]
