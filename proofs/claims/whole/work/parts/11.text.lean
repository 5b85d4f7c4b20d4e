/-! the class: text; the house's larger methods -/
def txOk (n : Int32) : Prop := ∃ k : Nat, k ≤ 48 ∧ n = nI k
def tby (n : Int32) (f : Nat → Int32) (q : Int32) : Int32 := if q < 0 then 0 else if q < n then f q.toNatClampNeg else 0
def tfit (l w : Int32) : Bool := if w = 0 then decide (l = 76) else if w = 3 then (decide (l = 70) || decide (l = 84)) else if w = 5 then (!decide (l < 48) && !decide (51 < l)) else (!decide (l < 48) && !decide (57 < l))
def twan (w l : Int32) : Int32 := if w = 0 then 1 else if w = 1 then 2 else if w = 2 then 3 else if w = 3 then (if l = 70 then 4 else 6) else if w = 4 then 5 else 3
theorem txIn {n q : Int32} (h : txOk n) (h0 : ¬ q < 0) (h1 : q < n) : pm_in q 48 = true := by
  obtain ⟨k, hk, rfl⟩ := h
  obtain ⟨j, hj, rfl⟩ := nI_of h0
  rw [nI_ltI hj (by omega)] at h1
  exact pm_in_nI (by omega) (by decide)
set_option maxRecDepth 100000 in
set_option maxHeartbeats 4000000 in
theorem tr_X6_length_1_0 (d : Nat) (I : Nat → Int32) (F : Nat → Nat → Int32) (sd : Int64) : pm_EV (pm_run mt (d + 0)) (some .int) oX6_length (0, [some (.ref 1)], [], (hX I F sd)) = some (some (.int (I 0)), (hX I F sd)) := by
  exact pm_EV_at 2 (d := (2, [some (.ref 1)], [.int (I 0)], (hX I F sd))) rfl rfl
set_option maxRecDepth 100000 in
set_option maxHeartbeats 4000000 in
theorem en_X6_length_1 (d : Nat) (I : Nat → Int32) (F : Nat → Nat → Int32) (sd : Int64) : pm_run mt (d + 1) 62 [.ref 1] (hX I F sd) = pm_EV (pm_run mt (d + 0)) (some .int) oX6_length (0, [some (.ref 1)], [], (hX I F sd)) := rfl
set_option maxRecDepth 100000 in
set_option maxHeartbeats 4000000 in
theorem sp_X6_length_1 (d : Nat) (I : Nat → Int32) (F : Nat → Nat → Int32) (sd : Int64) : pm_run mt (d + 1) 62 [.ref 1] (hX I F sd) = some (some (.int (I 0)), (hX I F sd)) := by
  rw [en_X6_length_1, tr_X6_length_1_0]
def txA (n l : Int32) : Int32 := if l < 0 then -2 else if 255 < l then -2 else if n < 48 then n + 1 else -4
def txG (n l : Int32) : Prop := ¬ l < 0 ∧ ¬ 255 < l ∧ n < 48
theorem txG_dec (n l : Int32) : txG n l ∨ ¬ txG n l := Classical.em _
noncomputable def txN (n l : Int32) : Int32 := @ite _ (txG n l) (Classical.propDecidable _) (n + 1) n
noncomputable def txB (n l : Int32) (f : Nat → Int32) : Nat → Int32 := @ite _ (txG n l) (Classical.propDecidable _) (upd f n.toNatClampNeg l) f
theorem upd_self (f : Nat → Int32) (k : Nat) : upd f k (f k) = f := by
  funext j
  unfold upd
  by_cases h : j = k
  · rw [if_pos h, h]
  · rw [if_neg h]
theorem uF_self (F : Nat → Nat → Int32) (k : Nat) : uF F k (F k) = F := by
  funext j
  unfold uF
  by_cases h : j = k
  · rw [if_pos h, h]
  · rw [if_neg h]
set_option maxRecDepth 100000 in
set_option maxHeartbeats 4000000 in
theorem tr_X6_add_1_0 (d : Nat) (I : Nat → Int32) (F : Nat → Nat → Int32) (sd : Int64) (l : Int32) (g1 : (¬ (l < 0)) → (¬ (255 < l)) → ((I 0) < 48) → pm_in (I 0) 48 = true) : pm_EV (pm_run mt (d + 0)) (some .int) oX6_add (0, [some (.ref 1), some (.int l)], [], (hX I F sd)) = (if l < 0 then some (some (.int (-2)), (hX I F sd)) else (if 255 < l then some (some (.int (-2)), (hX I F sd)) else (if (I 0) < 48 then some (some (.int ((I 0) + 1)), (hX (upd I 0 ((I 0) + 1)) (uF F 2 (upd (F 2) (I 0).toNatClampNeg l)) sd)) else some (some (.int (-4)), (hX I F sd))))) := by
  refine Eq.trans (pm_EV_at 1 (d := (1, [some (.ref 1), some (.int l)], [.int l], (hX I F sd))) (x := if l < 0 then .inl (5, [some (.ref 1), some (.int l)], [], (hX I F sd)) else .inl (2, [some (.ref 1), some (.int l)], [], (hX I F sd))) rfl rfl) ?_
  refine pm_rc (fun p1 => ?_) (fun p1 => ?_)
  · show pm_EV (pm_run mt (d + 0)) (some .int) oX6_add (5, [some (.ref 1), some (.int l)], [], (hX I F sd)) = _
    exact pm_EV_at 1 (d := (6, [some (.ref 1), some (.int l)], [.int (-2)], (hX I F sd))) rfl rfl
  · show pm_EV (pm_run mt (d + 0)) (some .int) oX6_add (2, [some (.ref 1), some (.int l)], [], (hX I F sd)) = _
    refine Eq.trans (pm_EV_at 2 (d := (4, [some (.ref 1), some (.int l)], [.int 255, .int l], (hX I F sd))) (x := if 255 < l then .inl (5, [some (.ref 1), some (.int l)], [], (hX I F sd)) else .inl (7, [some (.ref 1), some (.int l)], [], (hX I F sd))) rfl rfl) ?_
    refine pm_rc (fun p2 => ?_) (fun p2 => ?_)
    · show pm_EV (pm_run mt (d + 0)) (some .int) oX6_add (5, [some (.ref 1), some (.int l)], [], (hX I F sd)) = _
      exact pm_EV_at 1 (d := (6, [some (.ref 1), some (.int l)], [.int (-2)], (hX I F sd))) rfl rfl
    · show pm_EV (pm_run mt (d + 0)) (some .int) oX6_add (7, [some (.ref 1), some (.int l)], [], (hX I F sd)) = _
      refine Eq.trans (pm_EV_at 3 (d := (10, [some (.ref 1), some (.int l)], [.int 48, .int (I 0)], (hX I F sd))) (x := if (I 0) < 48 then .inl (13, [some (.ref 1), some (.int l)], [], (hX I F sd)) else .inl (11, [some (.ref 1), some (.int l)], [], (hX I F sd))) rfl rfl) ?_
      refine pm_rc (fun p3 => ?_) (fun p3 => ?_)
      · show pm_EV (pm_run mt (d + 0)) (some .int) oX6_add (13, [some (.ref 1), some (.int l)], [], (hX I F sd)) = _
        refine Eq.trans (b := pm_EV (pm_run mt (d + 0)) (some .int) oX6_add (19, [some (.ref 1), some (.int l)], [], ((hX I F sd)).set 2 (.inl (0, 48, .inl (upd (F 2) (I 0).toNatClampNeg l))))) (pm_EV_gd 5 (d := (18, [some (.ref 1), some (.int l)], [.int l, .int (I 0), .ref 2], (hX I F sd))) (c1 := (19, [some (.ref 1), some (.int l)], [], ((hX I F sd)).set 2 (.inl (0, 48, .inl (upd (F 2) (I 0).toNatClampNeg l))))) rfl rfl ⟨rfl, g1 p1 p2 p3⟩) ?_
        refine Eq.trans (b := pm_EV (pm_run mt (d + 0)) (some .int) oX6_add (19, [some (.ref 1), some (.int l)], [], (hX I (uF F 2 (upd (F 2) (I 0).toNatClampNeg l)) sd))) (congrArg (fun hz => pm_EV (pm_run mt (d + 0)) (some .int) oX6_add (19, [some (.ref 1), some (.int l)], [], hz)) (hX_s2 I F sd (upd (F 2) (I 0).toNatClampNeg l))) ?_
        exact pm_EV_at 8 (d := (27, [some (.ref 1), some (.int l)], [.int ((I 0) + 1)], (hX (upd I 0 ((I 0) + 1)) (uF F 2 (upd (F 2) (I 0).toNatClampNeg l)) sd))) rfl rfl
      · show pm_EV (pm_run mt (d + 0)) (some .int) oX6_add (11, [some (.ref 1), some (.int l)], [], (hX I F sd)) = _
        exact pm_EV_at 1 (d := (12, [some (.ref 1), some (.int l)], [.int (-4)], (hX I F sd))) rfl rfl
set_option maxRecDepth 100000 in
set_option maxHeartbeats 4000000 in
theorem en_X6_add_1 (d : Nat) (I : Nat → Int32) (F : Nat → Nat → Int32) (sd : Int64) (l : Int32) : pm_run mt (d + 1) 63 [.ref 1, .int l] (hX I F sd) = pm_EV (pm_run mt (d + 0)) (some .int) oX6_add (0, [some (.ref 1), some (.int l)], [], (hX I F sd)) := rfl
set_option maxRecDepth 100000 in
set_option maxHeartbeats 4000000 in
theorem sp_X6_add_1 (d : Nat) (I : Nat → Int32) (F : Nat → Nat → Int32) (sd : Int64) (l : Int32) (h1 : txOk (I 0)) : pm_run mt (d + 1) 63 [.ref 1, .int l] (hX I F sd) = some (some (.int (txA (I 0) l)), (hX (upd I 0 (txN (I 0) l)) (uF F 2 (txB (I 0) l (F 2))) sd)) := by
  rw [en_X6_add_1, tr_X6_add_1_0 _ _ _ _ _ (fun _ _ h => by obtain ⟨k, hk, e⟩ := h1; rw [e] at h ⊢; rw [show (48 : Int32) = nI 48 from rfl, nI_ltI (by omega) (by decide)] at h; exact pm_in_nI h (by decide))]
  by_cases hg : txG (I 0) l
  · rw [txN, txB, if_pos hg, if_pos hg, txA, if_neg hg.1, if_neg hg.1, if_neg hg.2.1, if_neg hg.2.1, if_pos hg.2.2, if_pos hg.2.2]
  · rw [txN, txB, if_neg hg, if_neg hg, upd_self, uF_self, txA]
    by_cases e1 : l < 0
    · rw [if_pos e1, if_pos e1]
    · by_cases e2 : 255 < l
      · rw [if_neg e1, if_neg e1, if_pos e2, if_pos e2]
      · rw [if_neg e1, if_neg e1, if_neg e2, if_neg e2, if_neg (fun e3 => hg ⟨e1, e2, e3⟩), if_neg (fun e3 => hg ⟨e1, e2, e3⟩)]
set_option maxRecDepth 100000 in
set_option maxHeartbeats 4000000 in
theorem tr_X6_byteAt_1_0 (d : Nat) (I : Nat → Int32) (F : Nat → Nat → Int32) (sd : Int64) (q : Int32) (g1 : (¬ (q < 0)) → (q < (I 0)) → pm_in q 48 = true) : pm_EV (pm_run mt (d + 0)) (some .int) oX6_byteAt (0, [some (.ref 1), some (.int q)], [], (hX I F sd)) = (if q < 0 then some (some (.int 0), (hX I F sd)) else (if q < (I 0) then some (some (.int ((F 2) q.toNatClampNeg)), (hX I F sd)) else some (some (.int 0), (hX I F sd)))) := by
  refine Eq.trans (pm_EV_at 1 (d := (1, [some (.ref 1), some (.int q)], [.int q], (hX I F sd))) (x := if q < 0 then .inl (11, [some (.ref 1), some (.int q)], [], (hX I F sd)) else .inl (2, [some (.ref 1), some (.int q)], [], (hX I F sd))) rfl rfl) ?_
  refine pm_rc (fun p1 => ?_) (fun p1 => ?_)
  · show pm_EV (pm_run mt (d + 0)) (some .int) oX6_byteAt (11, [some (.ref 1), some (.int q)], [], (hX I F sd)) = _
    exact pm_EV_at 1 (d := (12, [some (.ref 1), some (.int q)], [.int 0], (hX I F sd))) rfl rfl
  · show pm_EV (pm_run mt (d + 0)) (some .int) oX6_byteAt (2, [some (.ref 1), some (.int q)], [], (hX I F sd)) = _
    refine Eq.trans (pm_EV_at 3 (d := (5, [some (.ref 1), some (.int q)], [.int (I 0), .int q], (hX I F sd))) (x := if q < (I 0) then .inl (6, [some (.ref 1), some (.int q)], [], (hX I F sd)) else .inl (11, [some (.ref 1), some (.int q)], [], (hX I F sd))) rfl rfl) ?_
    refine pm_rc (fun p2 => ?_) (fun p2 => ?_)
    · show pm_EV (pm_run mt (d + 0)) (some .int) oX6_byteAt (6, [some (.ref 1), some (.int q)], [], (hX I F sd)) = _
      refine Eq.trans (b := pm_EV (pm_run mt (d + 0)) (some .int) oX6_byteAt (10, [some (.ref 1), some (.int q)], [.int ((F 2) q.toNatClampNeg)], (hX I F sd))) (pm_EV_gd 3 (d := (9, [some (.ref 1), some (.int q)], [.int q, .ref 2], (hX I F sd))) (c1 := (10, [some (.ref 1), some (.int q)], [.int ((F 2) q.toNatClampNeg)], (hX I F sd))) rfl rfl (⟨rfl, g1 p1 p2⟩)) ?_
      exact pm_EV_at 1 (d := (12, [some (.ref 1), some (.int q)], [.int ((F 2) q.toNatClampNeg)], (hX I F sd))) rfl rfl
    · show pm_EV (pm_run mt (d + 0)) (some .int) oX6_byteAt (11, [some (.ref 1), some (.int q)], [], (hX I F sd)) = _
      exact pm_EV_at 1 (d := (12, [some (.ref 1), some (.int q)], [.int 0], (hX I F sd))) rfl rfl
set_option maxRecDepth 100000 in
set_option maxHeartbeats 4000000 in
theorem en_X6_byteAt_1 (d : Nat) (I : Nat → Int32) (F : Nat → Nat → Int32) (sd : Int64) (q : Int32) : pm_run mt (d + 1) 65 [.ref 1, .int q] (hX I F sd) = pm_EV (pm_run mt (d + 0)) (some .int) oX6_byteAt (0, [some (.ref 1), some (.int q)], [], (hX I F sd)) := rfl
set_option maxRecDepth 100000 in
set_option maxHeartbeats 4000000 in
theorem sp_X6_byteAt_1 (d : Nat) (I : Nat → Int32) (F : Nat → Nat → Int32) (sd : Int64) (q : Int32) (h1 : txOk (I 0)) : pm_run mt (d + 1) 65 [.ref 1, .int q] (hX I F sd) = some (some (.int (tby (I 0) (F 2) q)), (hX I F sd)) := by
  rw [en_X6_byteAt_1, tr_X6_byteAt_1_0 _ _ _ _ _ (fun a b => txIn h1 a b)]
  unfold tby
  simp only [pm_pi]
set_option maxRecDepth 100000 in
set_option maxHeartbeats 4000000 in
theorem tr_X6_figureAt_1_0 (d : Nat) (I : Nat → Int32) (F : Nat → Nat → Int32) (sd : Int64) (q : Int32) (g1 : txOk ((I 0))) : pm_EV (pm_run mt (d + 1)) (some .int) oX6_figureAt (0, [some (.ref 1), some (.int q)], [], (hX I F sd)) = some (some (.int ((tby ((I 0)) ((F 2)) q) - 48)), (hX I F sd)) := by
  refine Eq.trans (b := pm_EV (pm_run mt (d + 1)) (some .int) oX6_figureAt (3, [some (.ref 1), some (.int q)], [.int (tby ((I 0)) ((F 2)) q)], (hX I F sd))) (pm_EV_cl 2 (call := pm_run mt (d + 1)) (d := (2, [some (.ref 1), some (.int q)], [.int q, .ref 1], (hX I F sd))) (a := 65) (as := [.ref 1, .int q]) (hp := (hX I F sd)) (hp2 := (hX I F sd)) (i2 := 3) (ls := [some (.ref 1), some (.int q)]) (rest := []) (r := some (.int (tby ((I 0)) ((F 2)) q))) rfl rfl (sp_X6_byteAt_1 (d + 0) I F sd q g1)) ?_
  exact pm_EV_at 2 (d := (5, [some (.ref 1), some (.int q)], [.int ((tby ((I 0)) ((F 2)) q) - 48)], (hX I F sd))) rfl rfl
set_option maxRecDepth 100000 in
set_option maxHeartbeats 4000000 in
theorem en_X6_figureAt_1 (d : Nat) (I : Nat → Int32) (F : Nat → Nat → Int32) (sd : Int64) (q : Int32) : pm_run mt (d + 2) 66 [.ref 1, .int q] (hX I F sd) = pm_EV (pm_run mt (d + 1)) (some .int) oX6_figureAt (0, [some (.ref 1), some (.int q)], [], (hX I F sd)) := rfl
set_option maxRecDepth 100000 in
set_option maxHeartbeats 4000000 in
theorem sp_X6_figureAt_1 (d : Nat) (I : Nat → Int32) (F : Nat → Nat → Int32) (sd : Int64) (q : Int32) (h1 : txOk (I 0)) : pm_run mt (d + 2) 66 [.ref 1, .int q] (hX I F sd) = some (some (.int (tby (I 0) (F 2) q - 48)), (hX I F sd)) := by
  rw [en_X6_figureAt_1, tr_X6_figureAt_1_0 _ _ _ _ _ h1]
set_option maxRecDepth 100000 in
set_option maxHeartbeats 4000000 in
theorem tr_X6_empty_1_0 (d : Nat) (I : Nat → Int32) (F : Nat → Nat → Int32) (sd : Int64) : pm_EV (pm_run mt (d + 0)) (some .int) oX6_empty (0, [some (.ref 1), none], [], (hX I F sd)) = some (some (.int (I 0)), (hX (upd I 0 0) F sd)) := by
  exact pm_EV_at 7 (d := (7, [some (.ref 1), some (.int (I 0))], [.int (I 0)], (hX (upd I 0 0) F sd))) rfl rfl
set_option maxRecDepth 100000 in
set_option maxHeartbeats 4000000 in
theorem en_X6_empty_1 (d : Nat) (I : Nat → Int32) (F : Nat → Nat → Int32) (sd : Int64) : pm_run mt (d + 1) 64 [.ref 1] (hX I F sd) = pm_EV (pm_run mt (d + 0)) (some .int) oX6_empty (0, [some (.ref 1), none], [], (hX I F sd)) := rfl
set_option maxRecDepth 100000 in
set_option maxHeartbeats 4000000 in
theorem sp_X6_empty_1 (d : Nat) (I : Nat → Int32) (F : Nat → Nat → Int32) (sd : Int64) : pm_run mt (d + 1) 64 [.ref 1] (hX I F sd) = some (some (.int (I 0)), (hX (upd I 0 0) F sd)) := by
  rw [en_X6_empty_1, tr_X6_empty_1_0]
set_option maxRecDepth 100000 in
set_option maxHeartbeats 4000000 in
theorem tr_X6_fits_0 (d : Nat) (I : Nat → Int32) (F : Nat → Nat → Int32) (sd : Int64) (l : Int32) (w : Int32) : pm_EV (pm_run mt (d + 0)) (some .boolean) oX6_fits (0, [some (.int l), some (.int w)], [], (hX I F sd)) = (if w = 0 then (if l = 76 then some (some (.int 1), (hX I F sd)) else some (some (.int 0), (hX I F sd))) else (if w = 3 then (if l = 70 then some (some (.int 1), (hX I F sd)) else (if l = 84 then some (some (.int 1), (hX I F sd)) else some (some (.int 0), (hX I F sd)))) else (if w = 5 then (if l < 48 then some (some (.int 0), (hX I F sd)) else (if 51 < l then some (some (.int 0), (hX I F sd)) else some (some (.int 1), (hX I F sd)))) else (if l < 48 then some (some (.int 0), (hX I F sd)) else (if 57 < l then some (some (.int 0), (hX I F sd)) else some (some (.int 1), (hX I F sd))))))) := by
  refine Eq.trans (pm_EV_at 1 (d := (1, [some (.int l), some (.int w)], [.int w], (hX I F sd))) (x := if w = 0 then .inl (2, [some (.int l), some (.int w)], [], (hX I F sd)) else if w = 3 then .inl (9, [some (.int l), some (.int w)], [], (hX I F sd)) else if w = 5 then .inl (19, [some (.int l), some (.int w)], [], (hX I F sd)) else .inl (29, [some (.int l), some (.int w)], [], (hX I F sd))) rfl rfl) ?_
  refine pm_rc (fun p1 => ?_) (fun p1 => ?_)
  · show pm_EV (pm_run mt (d + 0)) (some .boolean) oX6_fits (2, [some (.int l), some (.int w)], [], (hX I F sd)) = _
    refine Eq.trans (pm_EV_at 2 (d := (4, [some (.int l), some (.int w)], [.int 76, .int l], (hX I F sd))) (x := if l = 76 then .inl (5, [some (.int l), some (.int w)], [], (hX I F sd)) else .inl (7, [some (.int l), some (.int w)], [], (hX I F sd))) rfl rfl) ?_
    refine pm_rc (fun p2 => ?_) (fun p2 => ?_)
    · show pm_EV (pm_run mt (d + 0)) (some .boolean) oX6_fits (5, [some (.int l), some (.int w)], [], (hX I F sd)) = _
      exact pm_EV_at 2 (d := (8, [some (.int l), some (.int w)], [.int 1], (hX I F sd))) rfl rfl
    · show pm_EV (pm_run mt (d + 0)) (some .boolean) oX6_fits (7, [some (.int l), some (.int w)], [], (hX I F sd)) = _
      exact pm_EV_at 1 (d := (8, [some (.int l), some (.int w)], [.int 0], (hX I F sd))) rfl rfl
  · refine pm_rc (fun p2 => ?_) (fun p2 => ?_)
    · show pm_EV (pm_run mt (d + 0)) (some .boolean) oX6_fits (9, [some (.int l), some (.int w)], [], (hX I F sd)) = _
      refine Eq.trans (pm_EV_at 2 (d := (11, [some (.int l), some (.int w)], [.int 70, .int l], (hX I F sd))) (x := if l = 70 then .inl (15, [some (.int l), some (.int w)], [], (hX I F sd)) else .inl (12, [some (.int l), some (.int w)], [], (hX I F sd))) rfl rfl) ?_
      refine pm_rc (fun p3 => ?_) (fun p3 => ?_)
      · show pm_EV (pm_run mt (d + 0)) (some .boolean) oX6_fits (15, [some (.int l), some (.int w)], [], (hX I F sd)) = _
        exact pm_EV_at 2 (d := (18, [some (.int l), some (.int w)], [.int 1], (hX I F sd))) rfl rfl
      · show pm_EV (pm_run mt (d + 0)) (some .boolean) oX6_fits (12, [some (.int l), some (.int w)], [], (hX I F sd)) = _
        refine Eq.trans (pm_EV_at 2 (d := (14, [some (.int l), some (.int w)], [.int 84, .int l], (hX I F sd))) (x := if l = 84 then .inl (15, [some (.int l), some (.int w)], [], (hX I F sd)) else .inl (17, [some (.int l), some (.int w)], [], (hX I F sd))) rfl rfl) ?_
        refine pm_rc (fun p4 => ?_) (fun p4 => ?_)
        · show pm_EV (pm_run mt (d + 0)) (some .boolean) oX6_fits (15, [some (.int l), some (.int w)], [], (hX I F sd)) = _
          exact pm_EV_at 2 (d := (18, [some (.int l), some (.int w)], [.int 1], (hX I F sd))) rfl rfl
        · show pm_EV (pm_run mt (d + 0)) (some .boolean) oX6_fits (17, [some (.int l), some (.int w)], [], (hX I F sd)) = _
          exact pm_EV_at 1 (d := (18, [some (.int l), some (.int w)], [.int 0], (hX I F sd))) rfl rfl
    · refine pm_rc (fun p3 => ?_) (fun p3 => ?_)
      · show pm_EV (pm_run mt (d + 0)) (some .boolean) oX6_fits (19, [some (.int l), some (.int w)], [], (hX I F sd)) = _
        refine Eq.trans (pm_EV_at 2 (d := (21, [some (.int l), some (.int w)], [.int 48, .int l], (hX I F sd))) (x := if l < 48 then .inl (27, [some (.int l), some (.int w)], [], (hX I F sd)) else .inl (22, [some (.int l), some (.int w)], [], (hX I F sd))) rfl rfl) ?_
        refine pm_rc (fun p4 => ?_) (fun p4 => ?_)
        · show pm_EV (pm_run mt (d + 0)) (some .boolean) oX6_fits (27, [some (.int l), some (.int w)], [], (hX I F sd)) = _
          exact pm_EV_at 1 (d := (28, [some (.int l), some (.int w)], [.int 0], (hX I F sd))) rfl rfl
        · show pm_EV (pm_run mt (d + 0)) (some .boolean) oX6_fits (22, [some (.int l), some (.int w)], [], (hX I F sd)) = _
          refine Eq.trans (pm_EV_at 2 (d := (24, [some (.int l), some (.int w)], [.int 51, .int l], (hX I F sd))) (x := if 51 < l then .inl (27, [some (.int l), some (.int w)], [], (hX I F sd)) else .inl (25, [some (.int l), some (.int w)], [], (hX I F sd))) rfl rfl) ?_
          refine pm_rc (fun p5 => ?_) (fun p5 => ?_)
          · show pm_EV (pm_run mt (d + 0)) (some .boolean) oX6_fits (27, [some (.int l), some (.int w)], [], (hX I F sd)) = _
            exact pm_EV_at 1 (d := (28, [some (.int l), some (.int w)], [.int 0], (hX I F sd))) rfl rfl
          · show pm_EV (pm_run mt (d + 0)) (some .boolean) oX6_fits (25, [some (.int l), some (.int w)], [], (hX I F sd)) = _
            exact pm_EV_at 2 (d := (28, [some (.int l), some (.int w)], [.int 1], (hX I F sd))) rfl rfl
      · show pm_EV (pm_run mt (d + 0)) (some .boolean) oX6_fits (29, [some (.int l), some (.int w)], [], (hX I F sd)) = _
        refine Eq.trans (pm_EV_at 2 (d := (31, [some (.int l), some (.int w)], [.int 48, .int l], (hX I F sd))) (x := if l < 48 then .inl (37, [some (.int l), some (.int w)], [], (hX I F sd)) else .inl (32, [some (.int l), some (.int w)], [], (hX I F sd))) rfl rfl) ?_
        refine pm_rc (fun p4 => ?_) (fun p4 => ?_)
        · show pm_EV (pm_run mt (d + 0)) (some .boolean) oX6_fits (37, [some (.int l), some (.int w)], [], (hX I F sd)) = _
          exact pm_EV_at 1 (d := (38, [some (.int l), some (.int w)], [.int 0], (hX I F sd))) rfl rfl
        · show pm_EV (pm_run mt (d + 0)) (some .boolean) oX6_fits (32, [some (.int l), some (.int w)], [], (hX I F sd)) = _
          refine Eq.trans (pm_EV_at 2 (d := (34, [some (.int l), some (.int w)], [.int 57, .int l], (hX I F sd))) (x := if 57 < l then .inl (37, [some (.int l), some (.int w)], [], (hX I F sd)) else .inl (35, [some (.int l), some (.int w)], [], (hX I F sd))) rfl rfl) ?_
          refine pm_rc (fun p5 => ?_) (fun p5 => ?_)
          · show pm_EV (pm_run mt (d + 0)) (some .boolean) oX6_fits (37, [some (.int l), some (.int w)], [], (hX I F sd)) = _
            exact pm_EV_at 1 (d := (38, [some (.int l), some (.int w)], [.int 0], (hX I F sd))) rfl rfl
          · show pm_EV (pm_run mt (d + 0)) (some .boolean) oX6_fits (35, [some (.int l), some (.int w)], [], (hX I F sd)) = _
            exact pm_EV_at 2 (d := (38, [some (.int l), some (.int w)], [.int 1], (hX I F sd))) rfl rfl
set_option maxRecDepth 100000 in
set_option maxHeartbeats 4000000 in
theorem en_X6_fits (d : Nat) (I : Nat → Int32) (F : Nat → Nat → Int32) (sd : Int64) (l : Int32) (w : Int32) : pm_run mt (d + 1) 68 [.int l, .int w] (hX I F sd) = pm_EV (pm_run mt (d + 0)) (some .boolean) oX6_fits (0, [some (.int l), some (.int w)], [], (hX I F sd)) := rfl
set_option maxRecDepth 100000 in
set_option maxHeartbeats 4000000 in
theorem sp_X6_fits (d : Nat) (I : Nat → Int32) (F : Nat → Nat → Int32) (sd : Int64) (l : Int32) (w : Int32) : pm_run mt (d + 1) 68 [.int l, .int w] (hX I F sd) = some (some (.int (bI (tfit l w))), (hX I F sd)) := by
  rw [en_X6_fits, tr_X6_fits_0]
  unfold tfit
  by_cases e0 : w = 0
  · simp only [e0, if_true]
    by_cases e1 : l = 76 <;> simp [e1, bI]
  · simp only [e0, if_false]
    by_cases e3 : w = 3
    · simp only [e3, if_true]
      by_cases e1 : l = 70
      · simp [e1, bI]
      · by_cases e2 : l = 84 <;> simp [e1, e2, bI]
    · simp only [e3, if_false]
      by_cases e5 : w = 5
      · simp only [e5, if_true]
        by_cases e1 : l < 48
        · simp [e1, bI]
        · by_cases e2 : 51 < l <;> simp [e1, e2, bI]
      · simp only [e5, if_false]
        by_cases e1 : l < 48
        · simp [e1, bI]
        · by_cases e2 : 57 < l <;> simp [e1, e2, bI]
set_option maxRecDepth 100000 in
set_option maxHeartbeats 4000000 in
theorem tr_X6_wantedAfter_0 (d : Nat) (I : Nat → Int32) (F : Nat → Nat → Int32) (sd : Int64) (w : Int32) (l : Int32) : pm_EV (pm_run mt (d + 0)) (some .int) oX6_wantedAfter (0, [some (.int w), some (.int l)], [], (hX I F sd)) = (if w = 0 then some (some (.int 1), (hX I F sd)) else (if w = 1 then some (some (.int 2), (hX I F sd)) else (if w = 2 then some (some (.int 3), (hX I F sd)) else (if w = 3 then (if l = 70 then some (some (.int 4), (hX I F sd)) else some (some (.int 6), (hX I F sd))) else (if w = 4 then some (some (.int 5), (hX I F sd)) else some (some (.int 3), (hX I F sd))))))) := by
  refine Eq.trans (pm_EV_at 1 (d := (1, [some (.int w), some (.int l)], [.int w], (hX I F sd))) (x := if w = 0 then .inl (2, [some (.int w), some (.int l)], [], (hX I F sd)) else if w = 1 then .inl (4, [some (.int w), some (.int l)], [], (hX I F sd)) else if w = 2 then .inl (15, [some (.int w), some (.int l)], [], (hX I F sd)) else if w = 3 then .inl (6, [some (.int w), some (.int l)], [], (hX I F sd)) else if w = 4 then .inl (13, [some (.int w), some (.int l)], [], (hX I F sd)) else .inl (15, [some (.int w), some (.int l)], [], (hX I F sd))) rfl rfl) ?_
  refine pm_rc (fun p1 => ?_) (fun p1 => ?_)
  · show pm_EV (pm_run mt (d + 0)) (some .int) oX6_wantedAfter (2, [some (.int w), some (.int l)], [], (hX I F sd)) = _
    exact pm_EV_at 1 (d := (3, [some (.int w), some (.int l)], [.int 1], (hX I F sd))) rfl rfl
  · refine pm_rc (fun p2 => ?_) (fun p2 => ?_)
    · show pm_EV (pm_run mt (d + 0)) (some .int) oX6_wantedAfter (4, [some (.int w), some (.int l)], [], (hX I F sd)) = _
      exact pm_EV_at 1 (d := (5, [some (.int w), some (.int l)], [.int 2], (hX I F sd))) rfl rfl
    · refine pm_rc (fun p3 => ?_) (fun p3 => ?_)
      · show pm_EV (pm_run mt (d + 0)) (some .int) oX6_wantedAfter (15, [some (.int w), some (.int l)], [], (hX I F sd)) = _
        exact pm_EV_at 1 (d := (16, [some (.int w), some (.int l)], [.int 3], (hX I F sd))) rfl rfl
      · refine pm_rc (fun p4 => ?_) (fun p4 => ?_)
        · show pm_EV (pm_run mt (d + 0)) (some .int) oX6_wantedAfter (6, [some (.int w), some (.int l)], [], (hX I F sd)) = _
          refine Eq.trans (pm_EV_at 2 (d := (8, [some (.int w), some (.int l)], [.int 70, .int l], (hX I F sd))) (x := if l = 70 then .inl (9, [some (.int w), some (.int l)], [], (hX I F sd)) else .inl (11, [some (.int w), some (.int l)], [], (hX I F sd))) rfl rfl) ?_
          refine pm_rc (fun p5 => ?_) (fun p5 => ?_)
          · show pm_EV (pm_run mt (d + 0)) (some .int) oX6_wantedAfter (9, [some (.int w), some (.int l)], [], (hX I F sd)) = _
            exact pm_EV_at 2 (d := (12, [some (.int w), some (.int l)], [.int 4], (hX I F sd))) rfl rfl
          · show pm_EV (pm_run mt (d + 0)) (some .int) oX6_wantedAfter (11, [some (.int w), some (.int l)], [], (hX I F sd)) = _
            exact pm_EV_at 1 (d := (12, [some (.int w), some (.int l)], [.int 6], (hX I F sd))) rfl rfl
        · refine pm_rc (fun p5 => ?_) (fun p5 => ?_)
          · show pm_EV (pm_run mt (d + 0)) (some .int) oX6_wantedAfter (13, [some (.int w), some (.int l)], [], (hX I F sd)) = _
            exact pm_EV_at 1 (d := (14, [some (.int w), some (.int l)], [.int 5], (hX I F sd))) rfl rfl
          · show pm_EV (pm_run mt (d + 0)) (some .int) oX6_wantedAfter (15, [some (.int w), some (.int l)], [], (hX I F sd)) = _
            exact pm_EV_at 1 (d := (16, [some (.int w), some (.int l)], [.int 3], (hX I F sd))) rfl rfl
set_option maxRecDepth 100000 in
set_option maxHeartbeats 4000000 in
theorem en_X6_wantedAfter (d : Nat) (I : Nat → Int32) (F : Nat → Nat → Int32) (sd : Int64) (w : Int32) (l : Int32) : pm_run mt (d + 1) 69 [.int w, .int l] (hX I F sd) = pm_EV (pm_run mt (d + 0)) (some .int) oX6_wantedAfter (0, [some (.int w), some (.int l)], [], (hX I F sd)) := rfl
set_option maxRecDepth 100000 in
set_option maxHeartbeats 4000000 in
theorem sp_X6_wantedAfter (d : Nat) (I : Nat → Int32) (F : Nat → Nat → Int32) (sd : Int64) (w : Int32) (l : Int32) : pm_run mt (d + 1) 69 [.int w, .int l] (hX I F sd) = some (some (.int (twan w l)), (hX I F sd)) := by
  rw [en_X6_wantedAfter, tr_X6_wantedAfter_0]
  unfold twan
  simp only [pm_pi]
def ffF (w l nf : Int32) : Int32 := if w = 3 then (if l = 70 then nf + 1 else nf + 0) else nf
def ffT (w l nt : Int32) : Int32 := if w = 3 then (if l = 84 then nt + 1 else nt + 0) else nt
def ffL (f : Nat → Int32) (n : Nat) : Nat → Nat → Int32 → Int32 → Int32 → Int32
  | 0, _, w, _, _ => if w = 3 then -9 else nI n
  | m + 1, k, w, nf, nt => if tfit (f k) w = false then nI k else if 4 < ffF w (f k) nf then nI k else if 5 < ffT w (f k) nt then nI k else ffL f n m (k + 1) (twan w (f k)) (ffF w (f k) nf) (ffT w (f k) nt)
def ffault (n : Int32) (f : Nat → Int32) : Int32 := ffL f n.toNatClampNeg n.toNatClampNeg 0 0 0 0
set_option maxRecDepth 100000 in
set_option maxHeartbeats 4000000 in
theorem tr_X6_firstFault_1_0 (d : Nat) (I : Nat → Int32) (F : Nat → Nat → Int32) (sd : Int64) : pm_EV (pm_run mt (d + 1)) (some .int) oX6_firstFault (0, [some (.ref 1), none, none, none, none, none], [], (hX I F sd)) = pm_EV (pm_run mt (d + 1)) (some .int) oX6_firstFault (8, [some (.ref 1), some (.int 0), some (.int 0), some (.int 0), some (.int 0), none], [], (hX I F sd)) := by
  exact pm_EV_go 8 (d := (8, [some (.ref 1), some (.int 0), some (.int 0), some (.int 0), some (.int 0), none], [], (hX I F sd))) rfl
set_option maxRecDepth 100000 in
set_option maxHeartbeats 4000000 in
theorem tr_X6_firstFault_1_8 (d : Nat) (I : Nat → Int32) (F : Nat → Nat → Int32) (sd : Int64) (x1 : Int32) (x2 : Int32) (x3 : Int32) (x4 : Int32) (o5 : Option Value) (g1 : (x4 < (I 0)) → pm_in x4 48 = true) : pm_EV (pm_run mt (d + 1)) (some .int) oX6_firstFault (8, [some (.ref 1), some (.int x1), some (.int x2), some (.int x3), some (.int x4), o5], [], (hX I F sd)) = (if x4 < (I 0) then (if (bI (tfit ((F 2) x4.toNatClampNeg) x1)) = 0 then some (some (.int x4), (hX I F sd)) else (if x1 = 3 then (if ((F 2) x4.toNatClampNeg) = 70 then (if ((F 2) x4.toNatClampNeg) = 84 then (if 4 < (x2 + 1) then some (some (.int x4), (hX I F sd)) else (if 5 < (x3 + 1) then some (some (.int x4), (hX I F sd)) else pm_EV (pm_run mt (d + 1)) (some .int) oX6_firstFault (8, [some (.ref 1), some (.int (twan x1 ((F 2) x4.toNatClampNeg))), some (.int (x2 + 1)), some (.int (x3 + 1)), some (.int (x4 + 1)), some (.int ((F 2) x4.toNatClampNeg))], [], (hX I F sd)))) else (if 4 < (x2 + 1) then some (some (.int x4), (hX I F sd)) else (if 5 < (x3 + 0) then some (some (.int x4), (hX I F sd)) else pm_EV (pm_run mt (d + 1)) (some .int) oX6_firstFault (8, [some (.ref 1), some (.int (twan x1 ((F 2) x4.toNatClampNeg))), some (.int (x2 + 1)), some (.int (x3 + 0)), some (.int (x4 + 1)), some (.int ((F 2) x4.toNatClampNeg))], [], (hX I F sd))))) else (if ((F 2) x4.toNatClampNeg) = 84 then (if 4 < (x2 + 0) then some (some (.int x4), (hX I F sd)) else (if 5 < (x3 + 1) then some (some (.int x4), (hX I F sd)) else pm_EV (pm_run mt (d + 1)) (some .int) oX6_firstFault (8, [some (.ref 1), some (.int (twan x1 ((F 2) x4.toNatClampNeg))), some (.int (x2 + 0)), some (.int (x3 + 1)), some (.int (x4 + 1)), some (.int ((F 2) x4.toNatClampNeg))], [], (hX I F sd)))) else (if 4 < (x2 + 0) then some (some (.int x4), (hX I F sd)) else (if 5 < (x3 + 0) then some (some (.int x4), (hX I F sd)) else pm_EV (pm_run mt (d + 1)) (some .int) oX6_firstFault (8, [some (.ref 1), some (.int (twan x1 ((F 2) x4.toNatClampNeg))), some (.int (x2 + 0)), some (.int (x3 + 0)), some (.int (x4 + 1)), some (.int ((F 2) x4.toNatClampNeg))], [], (hX I F sd)))))) else (if 4 < x2 then some (some (.int x4), (hX I F sd)) else (if 5 < x3 then some (some (.int x4), (hX I F sd)) else pm_EV (pm_run mt (d + 1)) (some .int) oX6_firstFault (8, [some (.ref 1), some (.int (twan x1 ((F 2) x4.toNatClampNeg))), some (.int x2), some (.int x3), some (.int (x4 + 1)), some (.int ((F 2) x4.toNatClampNeg))], [], (hX I F sd)))))) else (if x1 = 3 then some (some (.int (-9)), (hX I F sd)) else some (some (.int (I 0)), (hX I F sd)))) := by
  refine Eq.trans (pm_EV_at 3 (d := (11, [some (.ref 1), some (.int x1), some (.int x2), some (.int x3), some (.int x4), o5], [.int (I 0), .int x4], (hX I F sd))) (x := if x4 < (I 0) then .inl (12, [some (.ref 1), some (.int x1), some (.int x2), some (.int x3), some (.int x4), o5], [], (hX I F sd)) else .inl (58, [some (.ref 1), some (.int x1), some (.int x2), some (.int x3), some (.int x4), o5], [], (hX I F sd))) rfl rfl) ?_
  refine pm_rc (fun p1 => ?_) (fun p1 => ?_)
  · show pm_EV (pm_run mt (d + 1)) (some .int) oX6_firstFault (12, [some (.ref 1), some (.int x1), some (.int x2), some (.int x3), some (.int x4), o5], [], (hX I F sd)) = _
    refine Eq.trans (b := pm_EV (pm_run mt (d + 1)) (some .int) oX6_firstFault (16, [some (.ref 1), some (.int x1), some (.int x2), some (.int x3), some (.int x4), o5], [.int ((F 2) x4.toNatClampNeg)], (hX I F sd))) (pm_EV_gd 3 (d := (15, [some (.ref 1), some (.int x1), some (.int x2), some (.int x3), some (.int x4), o5], [.int x4, .ref 2], (hX I F sd))) (c1 := (16, [some (.ref 1), some (.int x1), some (.int x2), some (.int x3), some (.int x4), o5], [.int ((F 2) x4.toNatClampNeg)], (hX I F sd))) rfl rfl (⟨rfl, g1 p1⟩)) ?_
    refine Eq.trans (b := pm_EV (pm_run mt (d + 1)) (some .int) oX6_firstFault (20, [some (.ref 1), some (.int x1), some (.int x2), some (.int x3), some (.int x4), some (.int ((F 2) x4.toNatClampNeg))], [.int (bI (tfit ((F 2) x4.toNatClampNeg) x1))], (hX I F sd))) (pm_EV_cl 3 (call := pm_run mt (d + 1)) (d := (19, [some (.ref 1), some (.int x1), some (.int x2), some (.int x3), some (.int x4), some (.int ((F 2) x4.toNatClampNeg))], [.int x1, .int ((F 2) x4.toNatClampNeg)], (hX I F sd))) (a := 68) (as := [.int ((F 2) x4.toNatClampNeg), .int x1]) (hp := (hX I F sd)) (hp2 := (hX I F sd)) (i2 := 20) (ls := [some (.ref 1), some (.int x1), some (.int x2), some (.int x3), some (.int x4), some (.int ((F 2) x4.toNatClampNeg))]) (rest := []) (r := some (.int (bI (tfit ((F 2) x4.toNatClampNeg) x1)))) rfl rfl (sp_X6_fits (d + 0) I F sd ((F 2) x4.toNatClampNeg) x1 )) ?_
    refine Eq.trans (pm_EV_at 0 (d := (20, [some (.ref 1), some (.int x1), some (.int x2), some (.int x3), some (.int x4), some (.int ((F 2) x4.toNatClampNeg))], [.int (bI (tfit ((F 2) x4.toNatClampNeg) x1))], (hX I F sd))) (x := if (bI (tfit ((F 2) x4.toNatClampNeg) x1)) = 0 then .inl (21, [some (.ref 1), some (.int x1), some (.int x2), some (.int x3), some (.int x4), some (.int ((F 2) x4.toNatClampNeg))], [], (hX I F sd)) else .inl (23, [some (.ref 1), some (.int x1), some (.int x2), some (.int x3), some (.int x4), some (.int ((F 2) x4.toNatClampNeg))], [], (hX I F sd))) rfl rfl) ?_
    refine pm_rc (fun p2 => ?_) (fun p2 => ?_)
    · show pm_EV (pm_run mt (d + 1)) (some .int) oX6_firstFault (21, [some (.ref 1), some (.int x1), some (.int x2), some (.int x3), some (.int x4), some (.int ((F 2) x4.toNatClampNeg))], [], (hX I F sd)) = _
      exact pm_EV_at 1 (d := (22, [some (.ref 1), some (.int x1), some (.int x2), some (.int x3), some (.int x4), some (.int ((F 2) x4.toNatClampNeg))], [.int x4], (hX I F sd))) rfl rfl
    · show pm_EV (pm_run mt (d + 1)) (some .int) oX6_firstFault (23, [some (.ref 1), some (.int x1), some (.int x2), some (.int x3), some (.int x4), some (.int ((F 2) x4.toNatClampNeg))], [], (hX I F sd)) = _
      refine Eq.trans (pm_EV_at 2 (d := (25, [some (.ref 1), some (.int x1), some (.int x2), some (.int x3), some (.int x4), some (.int ((F 2) x4.toNatClampNeg))], [.int 3, .int x1], (hX I F sd))) (x := if x1 = 3 then .inl (26, [some (.ref 1), some (.int x1), some (.int x2), some (.int x3), some (.int x4), some (.int ((F 2) x4.toNatClampNeg))], [], (hX I F sd)) else .inl (44, [some (.ref 1), some (.int x1), some (.int x2), some (.int x3), some (.int x4), some (.int ((F 2) x4.toNatClampNeg))], [], (hX I F sd))) rfl rfl) ?_
      refine pm_rc (fun p3 => ?_) (fun p3 => ?_)
      · show pm_EV (pm_run mt (d + 1)) (some .int) oX6_firstFault (26, [some (.ref 1), some (.int x1), some (.int x2), some (.int x3), some (.int x4), some (.int ((F 2) x4.toNatClampNeg))], [], (hX I F sd)) = _
        refine Eq.trans (pm_EV_at 3 (d := (29, [some (.ref 1), some (.int x1), some (.int x2), some (.int x3), some (.int x4), some (.int ((F 2) x4.toNatClampNeg))], [.int 70, .int ((F 2) x4.toNatClampNeg), .int x2], (hX I F sd))) (x := if ((F 2) x4.toNatClampNeg) = 70 then .inl (30, [some (.ref 1), some (.int x1), some (.int x2), some (.int x3), some (.int x4), some (.int ((F 2) x4.toNatClampNeg))], [.int x2], (hX I F sd)) else .inl (32, [some (.ref 1), some (.int x1), some (.int x2), some (.int x3), some (.int x4), some (.int ((F 2) x4.toNatClampNeg))], [.int x2], (hX I F sd))) rfl rfl) ?_
        refine pm_rc (fun p4 => ?_) (fun p4 => ?_)
        · show pm_EV (pm_run mt (d + 1)) (some .int) oX6_firstFault (30, [some (.ref 1), some (.int x1), some (.int x2), some (.int x3), some (.int x4), some (.int ((F 2) x4.toNatClampNeg))], [.int x2], (hX I F sd)) = _
          refine Eq.trans (pm_EV_at 7 (d := (38, [some (.ref 1), some (.int x1), some (.int (x2 + 1)), some (.int x3), some (.int x4), some (.int ((F 2) x4.toNatClampNeg))], [.int 84, .int ((F 2) x4.toNatClampNeg), .int x3], (hX I F sd))) (x := if ((F 2) x4.toNatClampNeg) = 84 then .inl (39, [some (.ref 1), some (.int x1), some (.int (x2 + 1)), some (.int x3), some (.int x4), some (.int ((F 2) x4.toNatClampNeg))], [.int x3], (hX I F sd)) else .inl (41, [some (.ref 1), some (.int x1), some (.int (x2 + 1)), some (.int x3), some (.int x4), some (.int ((F 2) x4.toNatClampNeg))], [.int x3], (hX I F sd))) rfl rfl) ?_
          refine pm_rc (fun p5 => ?_) (fun p5 => ?_)
          · show pm_EV (pm_run mt (d + 1)) (some .int) oX6_firstFault (39, [some (.ref 1), some (.int x1), some (.int (x2 + 1)), some (.int x3), some (.int x4), some (.int ((F 2) x4.toNatClampNeg))], [.int x3], (hX I F sd)) = _
            refine Eq.trans (pm_EV_at 6 (d := (46, [some (.ref 1), some (.int x1), some (.int (x2 + 1)), some (.int (x3 + 1)), some (.int x4), some (.int ((F 2) x4.toNatClampNeg))], [.int 4, .int (x2 + 1)], (hX I F sd))) (x := if 4 < (x2 + 1) then .inl (50, [some (.ref 1), some (.int x1), some (.int (x2 + 1)), some (.int (x3 + 1)), some (.int x4), some (.int ((F 2) x4.toNatClampNeg))], [], (hX I F sd)) else .inl (47, [some (.ref 1), some (.int x1), some (.int (x2 + 1)), some (.int (x3 + 1)), some (.int x4), some (.int ((F 2) x4.toNatClampNeg))], [], (hX I F sd))) rfl rfl) ?_
            refine pm_rc (fun p6 => ?_) (fun p6 => ?_)
            · show pm_EV (pm_run mt (d + 1)) (some .int) oX6_firstFault (50, [some (.ref 1), some (.int x1), some (.int (x2 + 1)), some (.int (x3 + 1)), some (.int x4), some (.int ((F 2) x4.toNatClampNeg))], [], (hX I F sd)) = _
              exact pm_EV_at 1 (d := (51, [some (.ref 1), some (.int x1), some (.int (x2 + 1)), some (.int (x3 + 1)), some (.int x4), some (.int ((F 2) x4.toNatClampNeg))], [.int x4], (hX I F sd))) rfl rfl
            · show pm_EV (pm_run mt (d + 1)) (some .int) oX6_firstFault (47, [some (.ref 1), some (.int x1), some (.int (x2 + 1)), some (.int (x3 + 1)), some (.int x4), some (.int ((F 2) x4.toNatClampNeg))], [], (hX I F sd)) = _
              refine Eq.trans (pm_EV_at 2 (d := (49, [some (.ref 1), some (.int x1), some (.int (x2 + 1)), some (.int (x3 + 1)), some (.int x4), some (.int ((F 2) x4.toNatClampNeg))], [.int 5, .int (x3 + 1)], (hX I F sd))) (x := if 5 < (x3 + 1) then .inl (50, [some (.ref 1), some (.int x1), some (.int (x2 + 1)), some (.int (x3 + 1)), some (.int x4), some (.int ((F 2) x4.toNatClampNeg))], [], (hX I F sd)) else .inl (52, [some (.ref 1), some (.int x1), some (.int (x2 + 1)), some (.int (x3 + 1)), some (.int x4), some (.int ((F 2) x4.toNatClampNeg))], [], (hX I F sd))) rfl rfl) ?_
              refine pm_rc (fun p7 => ?_) (fun p7 => ?_)
              · show pm_EV (pm_run mt (d + 1)) (some .int) oX6_firstFault (50, [some (.ref 1), some (.int x1), some (.int (x2 + 1)), some (.int (x3 + 1)), some (.int x4), some (.int ((F 2) x4.toNatClampNeg))], [], (hX I F sd)) = _
                exact pm_EV_at 1 (d := (51, [some (.ref 1), some (.int x1), some (.int (x2 + 1)), some (.int (x3 + 1)), some (.int x4), some (.int ((F 2) x4.toNatClampNeg))], [.int x4], (hX I F sd))) rfl rfl
              · show pm_EV (pm_run mt (d + 1)) (some .int) oX6_firstFault (52, [some (.ref 1), some (.int x1), some (.int (x2 + 1)), some (.int (x3 + 1)), some (.int x4), some (.int ((F 2) x4.toNatClampNeg))], [], (hX I F sd)) = _
                refine Eq.trans (b := pm_EV (pm_run mt (d + 1)) (some .int) oX6_firstFault (55, [some (.ref 1), some (.int x1), some (.int (x2 + 1)), some (.int (x3 + 1)), some (.int x4), some (.int ((F 2) x4.toNatClampNeg))], [.int (twan x1 ((F 2) x4.toNatClampNeg))], (hX I F sd))) (pm_EV_cl 2 (call := pm_run mt (d + 1)) (d := (54, [some (.ref 1), some (.int x1), some (.int (x2 + 1)), some (.int (x3 + 1)), some (.int x4), some (.int ((F 2) x4.toNatClampNeg))], [.int ((F 2) x4.toNatClampNeg), .int x1], (hX I F sd))) (a := 69) (as := [.int x1, .int ((F 2) x4.toNatClampNeg)]) (hp := (hX I F sd)) (hp2 := (hX I F sd)) (i2 := 55) (ls := [some (.ref 1), some (.int x1), some (.int (x2 + 1)), some (.int (x3 + 1)), some (.int x4), some (.int ((F 2) x4.toNatClampNeg))]) (rest := []) (r := some (.int (twan x1 ((F 2) x4.toNatClampNeg)))) rfl rfl (sp_X6_wantedAfter (d + 0) I F sd x1 ((F 2) x4.toNatClampNeg) )) ?_
                exact pm_EV_go 3 (d := (8, [some (.ref 1), some (.int (twan x1 ((F 2) x4.toNatClampNeg))), some (.int (x2 + 1)), some (.int (x3 + 1)), some (.int (x4 + 1)), some (.int ((F 2) x4.toNatClampNeg))], [], (hX I F sd))) rfl
          · show pm_EV (pm_run mt (d + 1)) (some .int) oX6_firstFault (41, [some (.ref 1), some (.int x1), some (.int (x2 + 1)), some (.int x3), some (.int x4), some (.int ((F 2) x4.toNatClampNeg))], [.int x3], (hX I F sd)) = _
            refine Eq.trans (pm_EV_at 5 (d := (46, [some (.ref 1), some (.int x1), some (.int (x2 + 1)), some (.int (x3 + 0)), some (.int x4), some (.int ((F 2) x4.toNatClampNeg))], [.int 4, .int (x2 + 1)], (hX I F sd))) (x := if 4 < (x2 + 1) then .inl (50, [some (.ref 1), some (.int x1), some (.int (x2 + 1)), some (.int (x3 + 0)), some (.int x4), some (.int ((F 2) x4.toNatClampNeg))], [], (hX I F sd)) else .inl (47, [some (.ref 1), some (.int x1), some (.int (x2 + 1)), some (.int (x3 + 0)), some (.int x4), some (.int ((F 2) x4.toNatClampNeg))], [], (hX I F sd))) rfl rfl) ?_
            refine pm_rc (fun p6 => ?_) (fun p6 => ?_)
            · show pm_EV (pm_run mt (d + 1)) (some .int) oX6_firstFault (50, [some (.ref 1), some (.int x1), some (.int (x2 + 1)), some (.int (x3 + 0)), some (.int x4), some (.int ((F 2) x4.toNatClampNeg))], [], (hX I F sd)) = _
              exact pm_EV_at 1 (d := (51, [some (.ref 1), some (.int x1), some (.int (x2 + 1)), some (.int (x3 + 0)), some (.int x4), some (.int ((F 2) x4.toNatClampNeg))], [.int x4], (hX I F sd))) rfl rfl
            · show pm_EV (pm_run mt (d + 1)) (some .int) oX6_firstFault (47, [some (.ref 1), some (.int x1), some (.int (x2 + 1)), some (.int (x3 + 0)), some (.int x4), some (.int ((F 2) x4.toNatClampNeg))], [], (hX I F sd)) = _
              refine Eq.trans (pm_EV_at 2 (d := (49, [some (.ref 1), some (.int x1), some (.int (x2 + 1)), some (.int (x3 + 0)), some (.int x4), some (.int ((F 2) x4.toNatClampNeg))], [.int 5, .int (x3 + 0)], (hX I F sd))) (x := if 5 < (x3 + 0) then .inl (50, [some (.ref 1), some (.int x1), some (.int (x2 + 1)), some (.int (x3 + 0)), some (.int x4), some (.int ((F 2) x4.toNatClampNeg))], [], (hX I F sd)) else .inl (52, [some (.ref 1), some (.int x1), some (.int (x2 + 1)), some (.int (x3 + 0)), some (.int x4), some (.int ((F 2) x4.toNatClampNeg))], [], (hX I F sd))) rfl rfl) ?_
              refine pm_rc (fun p7 => ?_) (fun p7 => ?_)
              · show pm_EV (pm_run mt (d + 1)) (some .int) oX6_firstFault (50, [some (.ref 1), some (.int x1), some (.int (x2 + 1)), some (.int (x3 + 0)), some (.int x4), some (.int ((F 2) x4.toNatClampNeg))], [], (hX I F sd)) = _
                exact pm_EV_at 1 (d := (51, [some (.ref 1), some (.int x1), some (.int (x2 + 1)), some (.int (x3 + 0)), some (.int x4), some (.int ((F 2) x4.toNatClampNeg))], [.int x4], (hX I F sd))) rfl rfl
              · show pm_EV (pm_run mt (d + 1)) (some .int) oX6_firstFault (52, [some (.ref 1), some (.int x1), some (.int (x2 + 1)), some (.int (x3 + 0)), some (.int x4), some (.int ((F 2) x4.toNatClampNeg))], [], (hX I F sd)) = _
                refine Eq.trans (b := pm_EV (pm_run mt (d + 1)) (some .int) oX6_firstFault (55, [some (.ref 1), some (.int x1), some (.int (x2 + 1)), some (.int (x3 + 0)), some (.int x4), some (.int ((F 2) x4.toNatClampNeg))], [.int (twan x1 ((F 2) x4.toNatClampNeg))], (hX I F sd))) (pm_EV_cl 2 (call := pm_run mt (d + 1)) (d := (54, [some (.ref 1), some (.int x1), some (.int (x2 + 1)), some (.int (x3 + 0)), some (.int x4), some (.int ((F 2) x4.toNatClampNeg))], [.int ((F 2) x4.toNatClampNeg), .int x1], (hX I F sd))) (a := 69) (as := [.int x1, .int ((F 2) x4.toNatClampNeg)]) (hp := (hX I F sd)) (hp2 := (hX I F sd)) (i2 := 55) (ls := [some (.ref 1), some (.int x1), some (.int (x2 + 1)), some (.int (x3 + 0)), some (.int x4), some (.int ((F 2) x4.toNatClampNeg))]) (rest := []) (r := some (.int (twan x1 ((F 2) x4.toNatClampNeg)))) rfl rfl (sp_X6_wantedAfter (d + 0) I F sd x1 ((F 2) x4.toNatClampNeg) )) ?_
                exact pm_EV_go 3 (d := (8, [some (.ref 1), some (.int (twan x1 ((F 2) x4.toNatClampNeg))), some (.int (x2 + 1)), some (.int (x3 + 0)), some (.int (x4 + 1)), some (.int ((F 2) x4.toNatClampNeg))], [], (hX I F sd))) rfl
        · show pm_EV (pm_run mt (d + 1)) (some .int) oX6_firstFault (32, [some (.ref 1), some (.int x1), some (.int x2), some (.int x3), some (.int x4), some (.int ((F 2) x4.toNatClampNeg))], [.int x2], (hX I F sd)) = _
          refine Eq.trans (pm_EV_at 6 (d := (38, [some (.ref 1), some (.int x1), some (.int (x2 + 0)), some (.int x3), some (.int x4), some (.int ((F 2) x4.toNatClampNeg))], [.int 84, .int ((F 2) x4.toNatClampNeg), .int x3], (hX I F sd))) (x := if ((F 2) x4.toNatClampNeg) = 84 then .inl (39, [some (.ref 1), some (.int x1), some (.int (x2 + 0)), some (.int x3), some (.int x4), some (.int ((F 2) x4.toNatClampNeg))], [.int x3], (hX I F sd)) else .inl (41, [some (.ref 1), some (.int x1), some (.int (x2 + 0)), some (.int x3), some (.int x4), some (.int ((F 2) x4.toNatClampNeg))], [.int x3], (hX I F sd))) rfl rfl) ?_
          refine pm_rc (fun p5 => ?_) (fun p5 => ?_)
          · show pm_EV (pm_run mt (d + 1)) (some .int) oX6_firstFault (39, [some (.ref 1), some (.int x1), some (.int (x2 + 0)), some (.int x3), some (.int x4), some (.int ((F 2) x4.toNatClampNeg))], [.int x3], (hX I F sd)) = _
            refine Eq.trans (pm_EV_at 6 (d := (46, [some (.ref 1), some (.int x1), some (.int (x2 + 0)), some (.int (x3 + 1)), some (.int x4), some (.int ((F 2) x4.toNatClampNeg))], [.int 4, .int (x2 + 0)], (hX I F sd))) (x := if 4 < (x2 + 0) then .inl (50, [some (.ref 1), some (.int x1), some (.int (x2 + 0)), some (.int (x3 + 1)), some (.int x4), some (.int ((F 2) x4.toNatClampNeg))], [], (hX I F sd)) else .inl (47, [some (.ref 1), some (.int x1), some (.int (x2 + 0)), some (.int (x3 + 1)), some (.int x4), some (.int ((F 2) x4.toNatClampNeg))], [], (hX I F sd))) rfl rfl) ?_
            refine pm_rc (fun p6 => ?_) (fun p6 => ?_)
            · show pm_EV (pm_run mt (d + 1)) (some .int) oX6_firstFault (50, [some (.ref 1), some (.int x1), some (.int (x2 + 0)), some (.int (x3 + 1)), some (.int x4), some (.int ((F 2) x4.toNatClampNeg))], [], (hX I F sd)) = _
              exact pm_EV_at 1 (d := (51, [some (.ref 1), some (.int x1), some (.int (x2 + 0)), some (.int (x3 + 1)), some (.int x4), some (.int ((F 2) x4.toNatClampNeg))], [.int x4], (hX I F sd))) rfl rfl
            · show pm_EV (pm_run mt (d + 1)) (some .int) oX6_firstFault (47, [some (.ref 1), some (.int x1), some (.int (x2 + 0)), some (.int (x3 + 1)), some (.int x4), some (.int ((F 2) x4.toNatClampNeg))], [], (hX I F sd)) = _
              refine Eq.trans (pm_EV_at 2 (d := (49, [some (.ref 1), some (.int x1), some (.int (x2 + 0)), some (.int (x3 + 1)), some (.int x4), some (.int ((F 2) x4.toNatClampNeg))], [.int 5, .int (x3 + 1)], (hX I F sd))) (x := if 5 < (x3 + 1) then .inl (50, [some (.ref 1), some (.int x1), some (.int (x2 + 0)), some (.int (x3 + 1)), some (.int x4), some (.int ((F 2) x4.toNatClampNeg))], [], (hX I F sd)) else .inl (52, [some (.ref 1), some (.int x1), some (.int (x2 + 0)), some (.int (x3 + 1)), some (.int x4), some (.int ((F 2) x4.toNatClampNeg))], [], (hX I F sd))) rfl rfl) ?_
              refine pm_rc (fun p7 => ?_) (fun p7 => ?_)
              · show pm_EV (pm_run mt (d + 1)) (some .int) oX6_firstFault (50, [some (.ref 1), some (.int x1), some (.int (x2 + 0)), some (.int (x3 + 1)), some (.int x4), some (.int ((F 2) x4.toNatClampNeg))], [], (hX I F sd)) = _
                exact pm_EV_at 1 (d := (51, [some (.ref 1), some (.int x1), some (.int (x2 + 0)), some (.int (x3 + 1)), some (.int x4), some (.int ((F 2) x4.toNatClampNeg))], [.int x4], (hX I F sd))) rfl rfl
              · show pm_EV (pm_run mt (d + 1)) (some .int) oX6_firstFault (52, [some (.ref 1), some (.int x1), some (.int (x2 + 0)), some (.int (x3 + 1)), some (.int x4), some (.int ((F 2) x4.toNatClampNeg))], [], (hX I F sd)) = _
                refine Eq.trans (b := pm_EV (pm_run mt (d + 1)) (some .int) oX6_firstFault (55, [some (.ref 1), some (.int x1), some (.int (x2 + 0)), some (.int (x3 + 1)), some (.int x4), some (.int ((F 2) x4.toNatClampNeg))], [.int (twan x1 ((F 2) x4.toNatClampNeg))], (hX I F sd))) (pm_EV_cl 2 (call := pm_run mt (d + 1)) (d := (54, [some (.ref 1), some (.int x1), some (.int (x2 + 0)), some (.int (x3 + 1)), some (.int x4), some (.int ((F 2) x4.toNatClampNeg))], [.int ((F 2) x4.toNatClampNeg), .int x1], (hX I F sd))) (a := 69) (as := [.int x1, .int ((F 2) x4.toNatClampNeg)]) (hp := (hX I F sd)) (hp2 := (hX I F sd)) (i2 := 55) (ls := [some (.ref 1), some (.int x1), some (.int (x2 + 0)), some (.int (x3 + 1)), some (.int x4), some (.int ((F 2) x4.toNatClampNeg))]) (rest := []) (r := some (.int (twan x1 ((F 2) x4.toNatClampNeg)))) rfl rfl (sp_X6_wantedAfter (d + 0) I F sd x1 ((F 2) x4.toNatClampNeg) )) ?_
                exact pm_EV_go 3 (d := (8, [some (.ref 1), some (.int (twan x1 ((F 2) x4.toNatClampNeg))), some (.int (x2 + 0)), some (.int (x3 + 1)), some (.int (x4 + 1)), some (.int ((F 2) x4.toNatClampNeg))], [], (hX I F sd))) rfl
          · show pm_EV (pm_run mt (d + 1)) (some .int) oX6_firstFault (41, [some (.ref 1), some (.int x1), some (.int (x2 + 0)), some (.int x3), some (.int x4), some (.int ((F 2) x4.toNatClampNeg))], [.int x3], (hX I F sd)) = _
            refine Eq.trans (pm_EV_at 5 (d := (46, [some (.ref 1), some (.int x1), some (.int (x2 + 0)), some (.int (x3 + 0)), some (.int x4), some (.int ((F 2) x4.toNatClampNeg))], [.int 4, .int (x2 + 0)], (hX I F sd))) (x := if 4 < (x2 + 0) then .inl (50, [some (.ref 1), some (.int x1), some (.int (x2 + 0)), some (.int (x3 + 0)), some (.int x4), some (.int ((F 2) x4.toNatClampNeg))], [], (hX I F sd)) else .inl (47, [some (.ref 1), some (.int x1), some (.int (x2 + 0)), some (.int (x3 + 0)), some (.int x4), some (.int ((F 2) x4.toNatClampNeg))], [], (hX I F sd))) rfl rfl) ?_
            refine pm_rc (fun p6 => ?_) (fun p6 => ?_)
            · show pm_EV (pm_run mt (d + 1)) (some .int) oX6_firstFault (50, [some (.ref 1), some (.int x1), some (.int (x2 + 0)), some (.int (x3 + 0)), some (.int x4), some (.int ((F 2) x4.toNatClampNeg))], [], (hX I F sd)) = _
              exact pm_EV_at 1 (d := (51, [some (.ref 1), some (.int x1), some (.int (x2 + 0)), some (.int (x3 + 0)), some (.int x4), some (.int ((F 2) x4.toNatClampNeg))], [.int x4], (hX I F sd))) rfl rfl
            · show pm_EV (pm_run mt (d + 1)) (some .int) oX6_firstFault (47, [some (.ref 1), some (.int x1), some (.int (x2 + 0)), some (.int (x3 + 0)), some (.int x4), some (.int ((F 2) x4.toNatClampNeg))], [], (hX I F sd)) = _
              refine Eq.trans (pm_EV_at 2 (d := (49, [some (.ref 1), some (.int x1), some (.int (x2 + 0)), some (.int (x3 + 0)), some (.int x4), some (.int ((F 2) x4.toNatClampNeg))], [.int 5, .int (x3 + 0)], (hX I F sd))) (x := if 5 < (x3 + 0) then .inl (50, [some (.ref 1), some (.int x1), some (.int (x2 + 0)), some (.int (x3 + 0)), some (.int x4), some (.int ((F 2) x4.toNatClampNeg))], [], (hX I F sd)) else .inl (52, [some (.ref 1), some (.int x1), some (.int (x2 + 0)), some (.int (x3 + 0)), some (.int x4), some (.int ((F 2) x4.toNatClampNeg))], [], (hX I F sd))) rfl rfl) ?_
              refine pm_rc (fun p7 => ?_) (fun p7 => ?_)
              · show pm_EV (pm_run mt (d + 1)) (some .int) oX6_firstFault (50, [some (.ref 1), some (.int x1), some (.int (x2 + 0)), some (.int (x3 + 0)), some (.int x4), some (.int ((F 2) x4.toNatClampNeg))], [], (hX I F sd)) = _
                exact pm_EV_at 1 (d := (51, [some (.ref 1), some (.int x1), some (.int (x2 + 0)), some (.int (x3 + 0)), some (.int x4), some (.int ((F 2) x4.toNatClampNeg))], [.int x4], (hX I F sd))) rfl rfl
              · show pm_EV (pm_run mt (d + 1)) (some .int) oX6_firstFault (52, [some (.ref 1), some (.int x1), some (.int (x2 + 0)), some (.int (x3 + 0)), some (.int x4), some (.int ((F 2) x4.toNatClampNeg))], [], (hX I F sd)) = _
                refine Eq.trans (b := pm_EV (pm_run mt (d + 1)) (some .int) oX6_firstFault (55, [some (.ref 1), some (.int x1), some (.int (x2 + 0)), some (.int (x3 + 0)), some (.int x4), some (.int ((F 2) x4.toNatClampNeg))], [.int (twan x1 ((F 2) x4.toNatClampNeg))], (hX I F sd))) (pm_EV_cl 2 (call := pm_run mt (d + 1)) (d := (54, [some (.ref 1), some (.int x1), some (.int (x2 + 0)), some (.int (x3 + 0)), some (.int x4), some (.int ((F 2) x4.toNatClampNeg))], [.int ((F 2) x4.toNatClampNeg), .int x1], (hX I F sd))) (a := 69) (as := [.int x1, .int ((F 2) x4.toNatClampNeg)]) (hp := (hX I F sd)) (hp2 := (hX I F sd)) (i2 := 55) (ls := [some (.ref 1), some (.int x1), some (.int (x2 + 0)), some (.int (x3 + 0)), some (.int x4), some (.int ((F 2) x4.toNatClampNeg))]) (rest := []) (r := some (.int (twan x1 ((F 2) x4.toNatClampNeg)))) rfl rfl (sp_X6_wantedAfter (d + 0) I F sd x1 ((F 2) x4.toNatClampNeg) )) ?_
                exact pm_EV_go 3 (d := (8, [some (.ref 1), some (.int (twan x1 ((F 2) x4.toNatClampNeg))), some (.int (x2 + 0)), some (.int (x3 + 0)), some (.int (x4 + 1)), some (.int ((F 2) x4.toNatClampNeg))], [], (hX I F sd))) rfl
      · show pm_EV (pm_run mt (d + 1)) (some .int) oX6_firstFault (44, [some (.ref 1), some (.int x1), some (.int x2), some (.int x3), some (.int x4), some (.int ((F 2) x4.toNatClampNeg))], [], (hX I F sd)) = _
        refine Eq.trans (pm_EV_at 2 (d := (46, [some (.ref 1), some (.int x1), some (.int x2), some (.int x3), some (.int x4), some (.int ((F 2) x4.toNatClampNeg))], [.int 4, .int x2], (hX I F sd))) (x := if 4 < x2 then .inl (50, [some (.ref 1), some (.int x1), some (.int x2), some (.int x3), some (.int x4), some (.int ((F 2) x4.toNatClampNeg))], [], (hX I F sd)) else .inl (47, [some (.ref 1), some (.int x1), some (.int x2), some (.int x3), some (.int x4), some (.int ((F 2) x4.toNatClampNeg))], [], (hX I F sd))) rfl rfl) ?_
        refine pm_rc (fun p4 => ?_) (fun p4 => ?_)
        · show pm_EV (pm_run mt (d + 1)) (some .int) oX6_firstFault (50, [some (.ref 1), some (.int x1), some (.int x2), some (.int x3), some (.int x4), some (.int ((F 2) x4.toNatClampNeg))], [], (hX I F sd)) = _
          exact pm_EV_at 1 (d := (51, [some (.ref 1), some (.int x1), some (.int x2), some (.int x3), some (.int x4), some (.int ((F 2) x4.toNatClampNeg))], [.int x4], (hX I F sd))) rfl rfl
        · show pm_EV (pm_run mt (d + 1)) (some .int) oX6_firstFault (47, [some (.ref 1), some (.int x1), some (.int x2), some (.int x3), some (.int x4), some (.int ((F 2) x4.toNatClampNeg))], [], (hX I F sd)) = _
          refine Eq.trans (pm_EV_at 2 (d := (49, [some (.ref 1), some (.int x1), some (.int x2), some (.int x3), some (.int x4), some (.int ((F 2) x4.toNatClampNeg))], [.int 5, .int x3], (hX I F sd))) (x := if 5 < x3 then .inl (50, [some (.ref 1), some (.int x1), some (.int x2), some (.int x3), some (.int x4), some (.int ((F 2) x4.toNatClampNeg))], [], (hX I F sd)) else .inl (52, [some (.ref 1), some (.int x1), some (.int x2), some (.int x3), some (.int x4), some (.int ((F 2) x4.toNatClampNeg))], [], (hX I F sd))) rfl rfl) ?_
          refine pm_rc (fun p5 => ?_) (fun p5 => ?_)
          · show pm_EV (pm_run mt (d + 1)) (some .int) oX6_firstFault (50, [some (.ref 1), some (.int x1), some (.int x2), some (.int x3), some (.int x4), some (.int ((F 2) x4.toNatClampNeg))], [], (hX I F sd)) = _
            exact pm_EV_at 1 (d := (51, [some (.ref 1), some (.int x1), some (.int x2), some (.int x3), some (.int x4), some (.int ((F 2) x4.toNatClampNeg))], [.int x4], (hX I F sd))) rfl rfl
          · show pm_EV (pm_run mt (d + 1)) (some .int) oX6_firstFault (52, [some (.ref 1), some (.int x1), some (.int x2), some (.int x3), some (.int x4), some (.int ((F 2) x4.toNatClampNeg))], [], (hX I F sd)) = _
            refine Eq.trans (b := pm_EV (pm_run mt (d + 1)) (some .int) oX6_firstFault (55, [some (.ref 1), some (.int x1), some (.int x2), some (.int x3), some (.int x4), some (.int ((F 2) x4.toNatClampNeg))], [.int (twan x1 ((F 2) x4.toNatClampNeg))], (hX I F sd))) (pm_EV_cl 2 (call := pm_run mt (d + 1)) (d := (54, [some (.ref 1), some (.int x1), some (.int x2), some (.int x3), some (.int x4), some (.int ((F 2) x4.toNatClampNeg))], [.int ((F 2) x4.toNatClampNeg), .int x1], (hX I F sd))) (a := 69) (as := [.int x1, .int ((F 2) x4.toNatClampNeg)]) (hp := (hX I F sd)) (hp2 := (hX I F sd)) (i2 := 55) (ls := [some (.ref 1), some (.int x1), some (.int x2), some (.int x3), some (.int x4), some (.int ((F 2) x4.toNatClampNeg))]) (rest := []) (r := some (.int (twan x1 ((F 2) x4.toNatClampNeg)))) rfl rfl (sp_X6_wantedAfter (d + 0) I F sd x1 ((F 2) x4.toNatClampNeg) )) ?_
            exact pm_EV_go 3 (d := (8, [some (.ref 1), some (.int (twan x1 ((F 2) x4.toNatClampNeg))), some (.int x2), some (.int x3), some (.int (x4 + 1)), some (.int ((F 2) x4.toNatClampNeg))], [], (hX I F sd))) rfl
  · show pm_EV (pm_run mt (d + 1)) (some .int) oX6_firstFault (58, [some (.ref 1), some (.int x1), some (.int x2), some (.int x3), some (.int x4), o5], [], (hX I F sd)) = _
    refine Eq.trans (pm_EV_at 2 (d := (60, [some (.ref 1), some (.int x1), some (.int x2), some (.int x3), some (.int x4), o5], [.int 3, .int x1], (hX I F sd))) (x := if x1 = 3 then .inl (61, [some (.ref 1), some (.int x1), some (.int x2), some (.int x3), some (.int x4), o5], [], (hX I F sd)) else .inl (63, [some (.ref 1), some (.int x1), some (.int x2), some (.int x3), some (.int x4), o5], [], (hX I F sd))) rfl rfl) ?_
    refine pm_rc (fun p2 => ?_) (fun p2 => ?_)
    · show pm_EV (pm_run mt (d + 1)) (some .int) oX6_firstFault (61, [some (.ref 1), some (.int x1), some (.int x2), some (.int x3), some (.int x4), o5], [], (hX I F sd)) = _
      exact pm_EV_at 2 (d := (65, [some (.ref 1), some (.int x1), some (.int x2), some (.int x3), some (.int x4), o5], [.int (-9)], (hX I F sd))) rfl rfl
    · show pm_EV (pm_run mt (d + 1)) (some .int) oX6_firstFault (63, [some (.ref 1), some (.int x1), some (.int x2), some (.int x3), some (.int x4), o5], [], (hX I F sd)) = _
      exact pm_EV_at 2 (d := (65, [some (.ref 1), some (.int x1), some (.int x2), some (.int x3), some (.int x4), o5], [.int (I 0)], (hX I F sd))) rfl rfl
set_option maxRecDepth 100000 in
set_option maxHeartbeats 4000000 in
theorem en_X6_firstFault_1 (d : Nat) (I : Nat → Int32) (F : Nat → Nat → Int32) (sd : Int64) : pm_run mt (d + 2) 67 [.ref 1] (hX I F sd) = pm_EV (pm_run mt (d + 1)) (some .int) oX6_firstFault (0, [some (.ref 1), none, none, none, none, none], [], (hX I F sd)) := rfl
set_option maxRecDepth 100000 in
set_option maxHeartbeats 4000000 in
theorem sp_X6_firstFault_1 (d : Nat) (I : Nat → Int32) (F : Nat → Nat → Int32) (sd : Int64) (h1 : txOk (I 0)) : pm_run mt (d + 2) 67 [.ref 1] (hX I F sd) = some (some (.int (ffault (I 0) (F 2))), (hX I F sd)) := by
  rw [en_X6_firstFault_1, tr_X6_firstFault_1_0]
  obtain ⟨n, hn, e⟩ := h1
  have key : ∀ (m k : Nat) (w nf nt : Int32) (o5 : Option Value), k + m = n → pm_EV (pm_run mt (d + 1)) (some .int) oX6_firstFault (8, [some (.ref 1), some (.int w), some (.int nf), some (.int nt), some (.int (nI k)), o5], [], hX I F sd) = some (some (.int (ffL (F 2) n m k w nf nt)), hX I F sd) := by
    intro m
    induction m with
    | zero =>
      intro k w nf nt o5 hk
      rw [tr_X6_firstFault_1_8 _ _ _ _ _ _ _ _ _ (fun h => by rw [e, nI_ltI (by omega) (by omega)] at h; omega), if_neg (fun h => by rw [e, nI_ltI (by omega) (by omega)] at h; omega), ffL]
      simp only [pm_pi]
      rw [e]
    | succ m ih =>
      intro k w nf nt o5 hk
      rw [tr_X6_firstFault_1_8 _ _ _ _ _ _ _ _ _ (fun h => pm_in_nI (by omega) (by decide)), if_pos (by rw [e, nI_ltI (by omega) (by omega)]; omega), nI_clamp (by omega), nI_p1, ffL]
      simp only [bI_0]
      by_cases c1 : tfit (F 2 k) w = false
      · rw [if_pos c1, if_pos c1]
      · rw [if_neg c1, if_neg c1]
        unfold ffF ffT
        by_cases c2 : w = 3
        · simp only [c2, if_true]
          by_cases c3 : F 2 k = 70
          · simp only [c3, if_true, show ¬ ((70 : Int32) = 84) by decide, if_false]
            by_cases c5 : 4 < nf + 1
            · simp only [c5, if_true]
            · simp only [c5, if_false]
              by_cases c6 : 5 < nt + 0
              · simp only [c6, if_true]
              · simp only [c6, if_false]
                exact ih _ _ _ _ _ (by omega)
          · simp only [c3, if_false]
            by_cases c4 : F 2 k = 84
            · simp only [c4, if_true]
              by_cases c5 : 4 < nf + 0
              · simp only [c5, if_true]
              · simp only [c5, if_false]
                by_cases c6 : 5 < nt + 1
                · simp only [c6, if_true]
                · simp only [c6, if_false]
                  exact ih _ _ _ _ _ (by omega)
            · simp only [c4, if_false]
              by_cases c5 : 4 < nf + 0
              · simp only [c5, if_true]
              · simp only [c5, if_false]
                by_cases c6 : 5 < nt + 0
                · simp only [c6, if_true]
                · simp only [c6, if_false]
                  exact ih _ _ _ _ _ (by omega)
        · simp only [c2, if_false]
          by_cases c5 : 4 < nf
          · simp only [c5, if_true]
          · simp only [c5, if_false]
            by_cases c6 : 5 < nt
            · simp only [c6, if_true]
            · simp only [c6, if_false]
              exact ih _ _ _ _ _ (by omega)
  refine (key n 0 0 0 0 none (by omega)).trans ?_
  rw [ffault, e, nI_clamp (by omega)]
theorem cpy_S (f g : Nat → Int32) (k : Nat) : upd (va_cpy f g 0 0 k) k (f k) = va_cpy f g 0 0 (k + 1) := by
  funext j
  unfold upd va_cpy
  by_cases h : j = k
  · subst h
    simp
  · rw [if_neg h]
    by_cases h2 : j < k
    · rw [if_pos ⟨Nat.zero_le _, by omega⟩, if_pos ⟨Nat.zero_le _, by omega⟩]
    · rw [if_neg (by omega), if_neg (by omega)]
theorem cpy_0 (f g : Nat → Int32) : va_cpy f g 0 0 0 = g := by
  funext j
  unfold va_cpy
  rw [if_neg (by omega)]
theorem uF_uF (F : Nat → Nat → Int32) (k : Nat) (f g : Nat → Int32) : uF (uF F k f) k g = uF F k g := by
  funext j
  unfold uF
  by_cases h : j = k
  · rw [if_pos h, if_pos h]
  · rw [if_neg h, if_neg h, if_neg h]
theorem uF_at (F : Nat → Nat → Int32) (k : Nat) (f : Nat → Int32) : uF F k f k = f := if_pos rfl
theorem uF_ne (F : Nat → Nat → Int32) {k j : Nat} (f : Nat → Int32) (h : j ≠ k) : uF F k f j = F j := if_neg h
set_option maxRecDepth 100000 in
set_option maxHeartbeats 4000000 in
theorem tr_X0_copyOf_5_3_0 (d : Nat) (I : Nat → Int32) (F : Nat → Nat → Int32) (sd : Int64) : pm_EV (pm_run mt (d + 0)) none oX0_copyOf (0, [some (.ref 5), some (.ref 3), none], [], (hX I F sd)) = pm_EV (pm_run mt (d + 0)) none oX0_copyOf (2, [some (.ref 5), some (.ref 3), some (.int 0)], [], (hX I F sd)) := by
  exact pm_EV_go 2 (d := (2, [some (.ref 5), some (.ref 3), some (.int 0)], [], (hX I F sd))) rfl
set_option maxRecDepth 100000 in
set_option maxHeartbeats 4000000 in
theorem tr_X0_copyOf_5_3_2 (d : Nat) (I : Nat → Int32) (F : Nat → Nat → Int32) (sd : Int64) (x2 : Int32) (g1 : (x2 < 28) → pm_in x2 28 = true) : pm_EV (pm_run mt (d + 0)) none oX0_copyOf (2, [some (.ref 5), some (.ref 3), some (.int x2)], [], (hX I F sd)) = (if x2 < 28 then pm_EV (pm_run mt (d + 0)) none oX0_copyOf (2, [some (.ref 5), some (.ref 3), some (.int (x2 + 1))], [], (hX I (uF F 6 (upd (F 6) x2.toNatClampNeg ((F 4) x2.toNatClampNeg))) sd)) else some (none, (hX I F sd))) := by
  refine Eq.trans (pm_EV_at 2 (d := (4, [some (.ref 5), some (.ref 3), some (.int x2)], [.int 28, .int x2], (hX I F sd))) (x := if x2 < 28 then .inl (5, [some (.ref 5), some (.ref 3), some (.int x2)], [], (hX I F sd)) else .inl (15, [some (.ref 5), some (.ref 3), some (.int x2)], [], (hX I F sd))) rfl rfl) ?_
  refine pm_rc (fun p1 => ?_) (fun p1 => ?_)
  · show pm_EV (pm_run mt (d + 0)) none oX0_copyOf (5, [some (.ref 5), some (.ref 3), some (.int x2)], [], (hX I F sd)) = _
    refine Eq.trans (b := pm_EV (pm_run mt (d + 0)) none oX0_copyOf (12, [some (.ref 5), some (.ref 3), some (.int x2)], [.int ((F 4) x2.toNatClampNeg), .int x2, .ref 6], (hX I F sd))) (pm_EV_gd 6 (d := (11, [some (.ref 5), some (.ref 3), some (.int x2)], [.int x2, .ref 4, .int x2, .ref 6], (hX I F sd))) (c1 := (12, [some (.ref 5), some (.ref 3), some (.int x2)], [.int ((F 4) x2.toNatClampNeg), .int x2, .ref 6], (hX I F sd))) rfl rfl (⟨rfl, g1 p1⟩)) ?_
    refine Eq.trans (b := pm_EV (pm_run mt (d + 0)) none oX0_copyOf (13, [some (.ref 5), some (.ref 3), some (.int x2)], [], ((hX I F sd)).set 6 (.inl (0, 28, .inl (upd (F 6) x2.toNatClampNeg ((F 4) x2.toNatClampNeg)))))) (pm_EV_gd 0 (d := (12, [some (.ref 5), some (.ref 3), some (.int x2)], [.int ((F 4) x2.toNatClampNeg), .int x2, .ref 6], (hX I F sd))) (c1 := (13, [some (.ref 5), some (.ref 3), some (.int x2)], [], ((hX I F sd)).set 6 (.inl (0, 28, .inl (upd (F 6) x2.toNatClampNeg ((F 4) x2.toNatClampNeg)))))) rfl rfl ⟨rfl, g1 p1⟩) ?_
    refine Eq.trans (b := pm_EV (pm_run mt (d + 0)) none oX0_copyOf (13, [some (.ref 5), some (.ref 3), some (.int x2)], [], (hX I (uF F 6 (upd (F 6) x2.toNatClampNeg ((F 4) x2.toNatClampNeg))) sd))) (congrArg (fun hz => pm_EV (pm_run mt (d + 0)) none oX0_copyOf (13, [some (.ref 5), some (.ref 3), some (.int x2)], [], hz)) (hX_s6 I F sd (upd (F 6) x2.toNatClampNeg ((F 4) x2.toNatClampNeg)))) ?_
    exact pm_EV_go 2 (d := (2, [some (.ref 5), some (.ref 3), some (.int (x2 + 1))], [], (hX I (uF F 6 (upd (F 6) x2.toNatClampNeg ((F 4) x2.toNatClampNeg))) sd))) rfl
  · show pm_EV (pm_run mt (d + 0)) none oX0_copyOf (15, [some (.ref 5), some (.ref 3), some (.int x2)], [], (hX I F sd)) = _
    exact pm_EV_at 0 (d := (15, [some (.ref 5), some (.ref 3), some (.int x2)], [], (hX I F sd))) rfl rfl
set_option maxRecDepth 100000 in
set_option maxHeartbeats 4000000 in
theorem en_X0_copyOf_5_3 (d : Nat) (I : Nat → Int32) (F : Nat → Nat → Int32) (sd : Int64) : pm_run mt (d + 1) 3 [.ref 5, .ref 3] (hX I F sd) = pm_EV (pm_run mt (d + 0)) none oX0_copyOf (0, [some (.ref 5), some (.ref 3), none], [], (hX I F sd)) := rfl
set_option maxRecDepth 100000 in
set_option maxHeartbeats 4000000 in
theorem sp_X0_copyOf_5_3 (d : Nat) (I : Nat → Int32) (F : Nat → Nat → Int32) (sd : Int64) : pm_run mt (d + 1) 3 [.ref 5, .ref 3] (hX I F sd) = some (none, (hX I (uF F 6 (va_cpy (F 4) (F 6) 0 0 28)) sd)) := by
  rw [en_X0_copyOf_5_3, tr_X0_copyOf_5_3_0]
  have key : ∀ (m k : Nat), k + m = 28 → pm_EV (pm_run mt (d + 0)) none oX0_copyOf (2, [some (.ref 5), some (.ref 3), some (.int (nI k))], [], hX I (uF F 6 (va_cpy (F 4) (F 6) 0 0 k)) sd) = some (none, hX I (uF F 6 (va_cpy (F 4) (F 6) 0 0 28)) sd) := by
    intro m
    induction m with
    | zero =>
      intro k hk
      obtain rfl : k = 28 := by omega
      rw [tr_X0_copyOf_5_3_2 _ _ _ _ _ (fun h => absurd h (by decide)), if_neg (by decide)]
    | succ m ih =>
      intro k hk
      rw [tr_X0_copyOf_5_3_2 _ _ _ _ _ (fun h => pm_in_nI (by omega) (by decide)), if_pos (by rw [show (28 : Int32) = nI 28 from rfl, nI_ltI (by omega) (by decide)]; omega), nI_clamp (by omega), nI_p1, uF_uF, uF_at, uF_ne _ _ (by decide), cpy_S]
      exact ih (k + 1) (by omega)
  have := key 28 0 rfl
  rw [cpy_0, uF_self] at this
  exact this
def hsto (f g : Nat → Int32) (n r : Int32) : Nat → Int32 := if r < 0 then g else if r < n then va_cpy f g 0 (r * 28).toNatClampNeg 28 else g
def hfet (g f : Nat → Int32) (n r : Int32) : Nat → Int32 := if r < 0 then f else if r < n then va_cpy g f (r * 28).toNatClampNeg 0 28 else f
theorem row_ok {r : Int32} {n : Nat} (hn : n < 100) (h0 : ¬ r < 0) (h1 : r < nI n) : ¬ r * 28 < 0 ∧ (r * 28).toNatClampNeg + 28 ≤ n * 28 := by
  obtain ⟨k, hk, rfl⟩ := nI_of h0
  rw [nI_ltI hk (by omega)] at h1
  rw [show (28 : Int32) = nI 28 from rfl, pk_mul, nI_clamp (by omega)]
  exact ⟨nI_pos (by omega), by omega⟩
set_option maxRecDepth 100000 in
set_option maxHeartbeats 4000000 in
theorem tr_X0_storeIn_3_8_0 (d : Nat) (I : Nat → Int32) (F : Nat → Nat → Int32) (sd : Int64) (r : Int32) (g1 : (¬ (r < 0)) → (r < (420 / 28)) → ¬ (0 : Int32) < 0 ∧ ¬ (r * 28) < 0 ∧ ¬ (28 : Int32) < 0 ∧ 0 + 28 ≤ 28 ∧ (r * 28).toNatClampNeg + 28 ≤ 420 ∧ ([] : List Value).length ≤ 4) : pm_EV (pm_run mt (d + 0)) none oX0_storeIn (0, [some (.ref 3), some (.ref 8), some (.int r)], [], (hX I F sd)) = (if r < 0 then some (none, (hX I F sd)) else (if r < (420 / 28) then some (none, (hX I (uF F 8 (va_cpy (F 4) (F 8) 0 (r * 28).toNatClampNeg 28)) sd)) else some (none, (hX I F sd)))) := by
  refine Eq.trans (pm_EV_at 1 (d := (1, [some (.ref 3), some (.ref 8), some (.int r)], [.int r], (hX I F sd))) (x := if r < 0 then .inl (17, [some (.ref 3), some (.ref 8), some (.int r)], [], (hX I F sd)) else .inl (2, [some (.ref 3), some (.ref 8), some (.int r)], [], (hX I F sd))) rfl rfl) ?_
  refine pm_rc (fun p1 => ?_) (fun p1 => ?_)
  · show pm_EV (pm_run mt (d + 0)) none oX0_storeIn (17, [some (.ref 3), some (.ref 8), some (.int r)], [], (hX I F sd)) = _
    exact pm_EV_at 0 (d := (17, [some (.ref 3), some (.ref 8), some (.int r)], [], (hX I F sd))) rfl rfl
  · show pm_EV (pm_run mt (d + 0)) none oX0_storeIn (2, [some (.ref 3), some (.ref 8), some (.int r)], [], (hX I F sd)) = _
    refine Eq.trans (pm_EV_at 5 (d := (7, [some (.ref 3), some (.ref 8), some (.int r)], [.int (420 / 28), .int r], (hX I F sd))) (x := if r < (420 / 28) then .inl (8, [some (.ref 3), some (.ref 8), some (.int r)], [], (hX I F sd)) else .inl (17, [some (.ref 3), some (.ref 8), some (.int r)], [], (hX I F sd))) rfl rfl) ?_
    refine pm_rc (fun p2 => ?_) (fun p2 => ?_)
    · show pm_EV (pm_run mt (d + 0)) none oX0_storeIn (8, [some (.ref 3), some (.ref 8), some (.int r)], [], (hX I F sd)) = _
      refine Eq.trans (b := pm_EV (pm_run mt (d + 0)) none oX0_storeIn (17, [some (.ref 3), some (.ref 8), some (.int r)], [], (hX I (uF F 8 (va_cpy (F 4) (F 8) 0 (r * 28).toNatClampNeg 28)) sd))) (pm_EV_gd 8 (d := (16, [some (.ref 3), some (.ref 8), some (.int r)], [.int 28, .int (r * 28), .ref 8, .int 0, .ref 4], (hX I F sd))) (c1 := (17, [some (.ref 3), some (.ref 8), some (.int r)], [], (hX I (uF F 8 (va_cpy (F 4) (F 8) 0 (r * 28).toNatClampNeg 28)) sd))) rfl rfl (g1 p1 p2)) ?_
      exact pm_EV_at 0 (d := (17, [some (.ref 3), some (.ref 8), some (.int r)], [], (hX I (uF F 8 (va_cpy (F 4) (F 8) 0 (r * 28).toNatClampNeg 28)) sd))) rfl rfl
    · show pm_EV (pm_run mt (d + 0)) none oX0_storeIn (17, [some (.ref 3), some (.ref 8), some (.int r)], [], (hX I F sd)) = _
      exact pm_EV_at 0 (d := (17, [some (.ref 3), some (.ref 8), some (.int r)], [], (hX I F sd))) rfl rfl
set_option maxRecDepth 100000 in
set_option maxHeartbeats 4000000 in
theorem en_X0_storeIn_3_8 (d : Nat) (I : Nat → Int32) (F : Nat → Nat → Int32) (sd : Int64) (r : Int32) : pm_run mt (d + 1) 4 [.ref 3, .ref 8, .int r] (hX I F sd) = pm_EV (pm_run mt (d + 0)) none oX0_storeIn (0, [some (.ref 3), some (.ref 8), some (.int r)], [], (hX I F sd)) := rfl
set_option maxRecDepth 100000 in
set_option maxHeartbeats 4000000 in
theorem sp_X0_storeIn_3_8 (d : Nat) (I : Nat → Int32) (F : Nat → Nat → Int32) (sd : Int64) (r : Int32) : pm_run mt (d + 1) 4 [.ref 3, .ref 8, .int r] (hX I F sd) = some (none, (hX I (uF F 8 (hsto (F 4) (F 8) 15 r)) sd)) := by
  rw [en_X0_storeIn_3_8, tr_X0_storeIn_3_8_0 _ _ _ _ _ (fun a b => by have h := row_ok (n := 15) (by decide) a b; exact ⟨by decide, h.1, by decide, by decide, h.2, by decide⟩)]
  unfold hsto
  by_cases e1 : r < 0
  · simp only [e1, if_true]
    rw [uF_self]
  · rw [if_neg e1, if_neg e1]
    by_cases e2 : r < 15
    · rw [if_pos e2, if_pos (show r < 420 / 28 from e2)]
    · rw [if_neg e2, if_neg (show ¬ r < 420 / 28 from e2), uF_self]
set_option maxRecDepth 100000 in
set_option maxHeartbeats 4000000 in
theorem tr_X0_fetchFrom_3_8_0 (d : Nat) (I : Nat → Int32) (F : Nat → Nat → Int32) (sd : Int64) (r : Int32) (g1 : (¬ (r < 0)) → (r < (420 / 28)) → ¬ r * 28 < 0 ∧ ¬ (0 : Int32) < 0 ∧ ¬ (28 : Int32) < 0 ∧ (r * 28).toNatClampNeg + 28 ≤ 420 ∧ 0 + 28 ≤ 28 ∧ ([] : List Value).length ≤ 4) : pm_EV (pm_run mt (d + 0)) none oX0_fetchFrom (0, [some (.ref 3), some (.ref 8), some (.int r)], [], (hX I F sd)) = (if r < 0 then some (none, (hX I F sd)) else (if r < (420 / 28) then some (none, (hX I (uF F 4 (va_cpy (F 8) (F 4) (r * 28).toNatClampNeg 0 28)) sd)) else some (none, (hX I F sd)))) := by
  refine Eq.trans (pm_EV_at 1 (d := (1, [some (.ref 3), some (.ref 8), some (.int r)], [.int r], (hX I F sd))) (x := if r < 0 then .inl (17, [some (.ref 3), some (.ref 8), some (.int r)], [], (hX I F sd)) else .inl (2, [some (.ref 3), some (.ref 8), some (.int r)], [], (hX I F sd))) rfl rfl) ?_
  refine pm_rc (fun p1 => ?_) (fun p1 => ?_)
  · show pm_EV (pm_run mt (d + 0)) none oX0_fetchFrom (17, [some (.ref 3), some (.ref 8), some (.int r)], [], (hX I F sd)) = _
    exact pm_EV_at 0 (d := (17, [some (.ref 3), some (.ref 8), some (.int r)], [], (hX I F sd))) rfl rfl
  · show pm_EV (pm_run mt (d + 0)) none oX0_fetchFrom (2, [some (.ref 3), some (.ref 8), some (.int r)], [], (hX I F sd)) = _
    refine Eq.trans (pm_EV_at 5 (d := (7, [some (.ref 3), some (.ref 8), some (.int r)], [.int (420 / 28), .int r], (hX I F sd))) (x := if r < (420 / 28) then .inl (8, [some (.ref 3), some (.ref 8), some (.int r)], [], (hX I F sd)) else .inl (17, [some (.ref 3), some (.ref 8), some (.int r)], [], (hX I F sd))) rfl rfl) ?_
    refine pm_rc (fun p2 => ?_) (fun p2 => ?_)
    · show pm_EV (pm_run mt (d + 0)) none oX0_fetchFrom (8, [some (.ref 3), some (.ref 8), some (.int r)], [], (hX I F sd)) = _
      refine Eq.trans (b := pm_EV (pm_run mt (d + 0)) none oX0_fetchFrom (17, [some (.ref 3), some (.ref 8), some (.int r)], [], (hX I (uF F 4 (va_cpy (F 8) (F 4) (r * 28).toNatClampNeg 0 28)) sd))) (pm_EV_gd 8 (d := (16, [some (.ref 3), some (.ref 8), some (.int r)], [.int 28, .int 0, .ref 4, .int (r * 28), .ref 8], (hX I F sd))) (c1 := (17, [some (.ref 3), some (.ref 8), some (.int r)], [], (hX I (uF F 4 (va_cpy (F 8) (F 4) (r * 28).toNatClampNeg 0 28)) sd))) rfl rfl (g1 p1 p2)) ?_
      exact pm_EV_at 0 (d := (17, [some (.ref 3), some (.ref 8), some (.int r)], [], (hX I (uF F 4 (va_cpy (F 8) (F 4) (r * 28).toNatClampNeg 0 28)) sd))) rfl rfl
    · show pm_EV (pm_run mt (d + 0)) none oX0_fetchFrom (17, [some (.ref 3), some (.ref 8), some (.int r)], [], (hX I F sd)) = _
      exact pm_EV_at 0 (d := (17, [some (.ref 3), some (.ref 8), some (.int r)], [], (hX I F sd))) rfl rfl
set_option maxRecDepth 100000 in
set_option maxHeartbeats 4000000 in
theorem en_X0_fetchFrom_3_8 (d : Nat) (I : Nat → Int32) (F : Nat → Nat → Int32) (sd : Int64) (r : Int32) : pm_run mt (d + 1) 5 [.ref 3, .ref 8, .int r] (hX I F sd) = pm_EV (pm_run mt (d + 0)) none oX0_fetchFrom (0, [some (.ref 3), some (.ref 8), some (.int r)], [], (hX I F sd)) := rfl
set_option maxRecDepth 100000 in
set_option maxHeartbeats 4000000 in
theorem sp_X0_fetchFrom_3_8 (d : Nat) (I : Nat → Int32) (F : Nat → Nat → Int32) (sd : Int64) (r : Int32) : pm_run mt (d + 1) 5 [.ref 3, .ref 8, .int r] (hX I F sd) = some (none, (hX I (uF F 4 (hfet (F 8) (F 4) 15 r)) sd)) := by
  rw [en_X0_fetchFrom_3_8, tr_X0_fetchFrom_3_8_0 _ _ _ _ _ (fun a b => by have h := row_ok (n := 15) (by decide) a b; exact ⟨h.1, by decide, by decide, h.2, by decide, by decide⟩)]
  unfold hfet
  by_cases e1 : r < 0
  · simp only [e1, if_true]
    rw [uF_self]
  · rw [if_neg e1, if_neg e1]
    by_cases e2 : r < 15
    · rw [if_pos e2, if_pos (show r < 420 / 28 from e2)]
    · rw [if_neg e2, if_neg (show ¬ r < 420 / 28 from e2), uF_self]
set_option maxRecDepth 100000 in
set_option maxHeartbeats 4000000 in
theorem tr_X0_storeIn_3_10_0 (d : Nat) (I : Nat → Int32) (F : Nat → Nat → Int32) (sd : Int64) (r : Int32) (g1 : (¬ (r < 0)) → (r < (56 / 28)) → ¬ (0 : Int32) < 0 ∧ ¬ (r * 28) < 0 ∧ ¬ (28 : Int32) < 0 ∧ 0 + 28 ≤ 28 ∧ (r * 28).toNatClampNeg + 28 ≤ 56 ∧ ([] : List Value).length ≤ 4) : pm_EV (pm_run mt (d + 0)) none oX0_storeIn (0, [some (.ref 3), some (.ref 10), some (.int r)], [], (hX I F sd)) = (if r < 0 then some (none, (hX I F sd)) else (if r < (56 / 28) then some (none, (hX I (uF F 10 (va_cpy (F 4) (F 10) 0 (r * 28).toNatClampNeg 28)) sd)) else some (none, (hX I F sd)))) := by
  refine Eq.trans (pm_EV_at 1 (d := (1, [some (.ref 3), some (.ref 10), some (.int r)], [.int r], (hX I F sd))) (x := if r < 0 then .inl (17, [some (.ref 3), some (.ref 10), some (.int r)], [], (hX I F sd)) else .inl (2, [some (.ref 3), some (.ref 10), some (.int r)], [], (hX I F sd))) rfl rfl) ?_
  refine pm_rc (fun p1 => ?_) (fun p1 => ?_)
  · show pm_EV (pm_run mt (d + 0)) none oX0_storeIn (17, [some (.ref 3), some (.ref 10), some (.int r)], [], (hX I F sd)) = _
    exact pm_EV_at 0 (d := (17, [some (.ref 3), some (.ref 10), some (.int r)], [], (hX I F sd))) rfl rfl
  · show pm_EV (pm_run mt (d + 0)) none oX0_storeIn (2, [some (.ref 3), some (.ref 10), some (.int r)], [], (hX I F sd)) = _
    refine Eq.trans (pm_EV_at 5 (d := (7, [some (.ref 3), some (.ref 10), some (.int r)], [.int (56 / 28), .int r], (hX I F sd))) (x := if r < (56 / 28) then .inl (8, [some (.ref 3), some (.ref 10), some (.int r)], [], (hX I F sd)) else .inl (17, [some (.ref 3), some (.ref 10), some (.int r)], [], (hX I F sd))) rfl rfl) ?_
    refine pm_rc (fun p2 => ?_) (fun p2 => ?_)
    · show pm_EV (pm_run mt (d + 0)) none oX0_storeIn (8, [some (.ref 3), some (.ref 10), some (.int r)], [], (hX I F sd)) = _
      refine Eq.trans (b := pm_EV (pm_run mt (d + 0)) none oX0_storeIn (17, [some (.ref 3), some (.ref 10), some (.int r)], [], (hX I (uF F 10 (va_cpy (F 4) (F 10) 0 (r * 28).toNatClampNeg 28)) sd))) (pm_EV_gd 8 (d := (16, [some (.ref 3), some (.ref 10), some (.int r)], [.int 28, .int (r * 28), .ref 10, .int 0, .ref 4], (hX I F sd))) (c1 := (17, [some (.ref 3), some (.ref 10), some (.int r)], [], (hX I (uF F 10 (va_cpy (F 4) (F 10) 0 (r * 28).toNatClampNeg 28)) sd))) rfl rfl (g1 p1 p2)) ?_
      exact pm_EV_at 0 (d := (17, [some (.ref 3), some (.ref 10), some (.int r)], [], (hX I (uF F 10 (va_cpy (F 4) (F 10) 0 (r * 28).toNatClampNeg 28)) sd))) rfl rfl
    · show pm_EV (pm_run mt (d + 0)) none oX0_storeIn (17, [some (.ref 3), some (.ref 10), some (.int r)], [], (hX I F sd)) = _
      exact pm_EV_at 0 (d := (17, [some (.ref 3), some (.ref 10), some (.int r)], [], (hX I F sd))) rfl rfl
set_option maxRecDepth 100000 in
set_option maxHeartbeats 4000000 in
theorem en_X0_storeIn_3_10 (d : Nat) (I : Nat → Int32) (F : Nat → Nat → Int32) (sd : Int64) (r : Int32) : pm_run mt (d + 1) 4 [.ref 3, .ref 10, .int r] (hX I F sd) = pm_EV (pm_run mt (d + 0)) none oX0_storeIn (0, [some (.ref 3), some (.ref 10), some (.int r)], [], (hX I F sd)) := rfl
set_option maxRecDepth 100000 in
set_option maxHeartbeats 4000000 in
theorem sp_X0_storeIn_3_10 (d : Nat) (I : Nat → Int32) (F : Nat → Nat → Int32) (sd : Int64) (r : Int32) : pm_run mt (d + 1) 4 [.ref 3, .ref 10, .int r] (hX I F sd) = some (none, (hX I (uF F 10 (hsto (F 4) (F 10) 2 r)) sd)) := by
  rw [en_X0_storeIn_3_10, tr_X0_storeIn_3_10_0 _ _ _ _ _ (fun a b => by have h := row_ok (n := 2) (by decide) a b; exact ⟨by decide, h.1, by decide, by decide, h.2, by decide⟩)]
  unfold hsto
  by_cases e1 : r < 0
  · simp only [e1, if_true]
    rw [uF_self]
  · rw [if_neg e1, if_neg e1]
    by_cases e2 : r < 2
    · rw [if_pos e2, if_pos (show r < 56 / 28 from e2)]
    · rw [if_neg e2, if_neg (show ¬ r < 56 / 28 from e2), uF_self]
set_option maxRecDepth 100000 in
set_option maxHeartbeats 4000000 in
theorem tr_X0_fetchFrom_3_10_0 (d : Nat) (I : Nat → Int32) (F : Nat → Nat → Int32) (sd : Int64) (r : Int32) (g1 : (¬ (r < 0)) → (r < (56 / 28)) → ¬ r * 28 < 0 ∧ ¬ (0 : Int32) < 0 ∧ ¬ (28 : Int32) < 0 ∧ (r * 28).toNatClampNeg + 28 ≤ 56 ∧ 0 + 28 ≤ 28 ∧ ([] : List Value).length ≤ 4) : pm_EV (pm_run mt (d + 0)) none oX0_fetchFrom (0, [some (.ref 3), some (.ref 10), some (.int r)], [], (hX I F sd)) = (if r < 0 then some (none, (hX I F sd)) else (if r < (56 / 28) then some (none, (hX I (uF F 4 (va_cpy (F 10) (F 4) (r * 28).toNatClampNeg 0 28)) sd)) else some (none, (hX I F sd)))) := by
  refine Eq.trans (pm_EV_at 1 (d := (1, [some (.ref 3), some (.ref 10), some (.int r)], [.int r], (hX I F sd))) (x := if r < 0 then .inl (17, [some (.ref 3), some (.ref 10), some (.int r)], [], (hX I F sd)) else .inl (2, [some (.ref 3), some (.ref 10), some (.int r)], [], (hX I F sd))) rfl rfl) ?_
  refine pm_rc (fun p1 => ?_) (fun p1 => ?_)
  · show pm_EV (pm_run mt (d + 0)) none oX0_fetchFrom (17, [some (.ref 3), some (.ref 10), some (.int r)], [], (hX I F sd)) = _
    exact pm_EV_at 0 (d := (17, [some (.ref 3), some (.ref 10), some (.int r)], [], (hX I F sd))) rfl rfl
  · show pm_EV (pm_run mt (d + 0)) none oX0_fetchFrom (2, [some (.ref 3), some (.ref 10), some (.int r)], [], (hX I F sd)) = _
    refine Eq.trans (pm_EV_at 5 (d := (7, [some (.ref 3), some (.ref 10), some (.int r)], [.int (56 / 28), .int r], (hX I F sd))) (x := if r < (56 / 28) then .inl (8, [some (.ref 3), some (.ref 10), some (.int r)], [], (hX I F sd)) else .inl (17, [some (.ref 3), some (.ref 10), some (.int r)], [], (hX I F sd))) rfl rfl) ?_
    refine pm_rc (fun p2 => ?_) (fun p2 => ?_)
    · show pm_EV (pm_run mt (d + 0)) none oX0_fetchFrom (8, [some (.ref 3), some (.ref 10), some (.int r)], [], (hX I F sd)) = _
      refine Eq.trans (b := pm_EV (pm_run mt (d + 0)) none oX0_fetchFrom (17, [some (.ref 3), some (.ref 10), some (.int r)], [], (hX I (uF F 4 (va_cpy (F 10) (F 4) (r * 28).toNatClampNeg 0 28)) sd))) (pm_EV_gd 8 (d := (16, [some (.ref 3), some (.ref 10), some (.int r)], [.int 28, .int 0, .ref 4, .int (r * 28), .ref 10], (hX I F sd))) (c1 := (17, [some (.ref 3), some (.ref 10), some (.int r)], [], (hX I (uF F 4 (va_cpy (F 10) (F 4) (r * 28).toNatClampNeg 0 28)) sd))) rfl rfl (g1 p1 p2)) ?_
      exact pm_EV_at 0 (d := (17, [some (.ref 3), some (.ref 10), some (.int r)], [], (hX I (uF F 4 (va_cpy (F 10) (F 4) (r * 28).toNatClampNeg 0 28)) sd))) rfl rfl
    · show pm_EV (pm_run mt (d + 0)) none oX0_fetchFrom (17, [some (.ref 3), some (.ref 10), some (.int r)], [], (hX I F sd)) = _
      exact pm_EV_at 0 (d := (17, [some (.ref 3), some (.ref 10), some (.int r)], [], (hX I F sd))) rfl rfl
set_option maxRecDepth 100000 in
set_option maxHeartbeats 4000000 in
theorem en_X0_fetchFrom_3_10 (d : Nat) (I : Nat → Int32) (F : Nat → Nat → Int32) (sd : Int64) (r : Int32) : pm_run mt (d + 1) 5 [.ref 3, .ref 10, .int r] (hX I F sd) = pm_EV (pm_run mt (d + 0)) none oX0_fetchFrom (0, [some (.ref 3), some (.ref 10), some (.int r)], [], (hX I F sd)) := rfl
set_option maxRecDepth 100000 in
set_option maxHeartbeats 4000000 in
theorem sp_X0_fetchFrom_3_10 (d : Nat) (I : Nat → Int32) (F : Nat → Nat → Int32) (sd : Int64) (r : Int32) : pm_run mt (d + 1) 5 [.ref 3, .ref 10, .int r] (hX I F sd) = some (none, (hX I (uF F 4 (hfet (F 10) (F 4) 2 r)) sd)) := by
  rw [en_X0_fetchFrom_3_10, tr_X0_fetchFrom_3_10_0 _ _ _ _ _ (fun a b => by have h := row_ok (n := 2) (by decide) a b; exact ⟨h.1, by decide, by decide, h.2, by decide, by decide⟩)]
  unfold hfet
  by_cases e1 : r < 0
  · simp only [e1, if_true]
    rw [uF_self]
  · rw [if_neg e1, if_neg e1]
    by_cases e2 : r < 2
    · rw [if_pos e2, if_pos (show r < 56 / 28 from e2)]
    · rw [if_neg e2, if_neg (show ¬ r < 56 / 28 from e2), uF_self]
def rL (g w s : Int32) : Nat → Int32 → Int32
  | 0, b => b
  | k + 1, b => if g < s - nI k then b else if xhas w (nI k) = true then b else rL g w s k (b ||| (1 <<< (nI k &&& 31)))
def rR (g w s : Int32) : Nat → Nat → Int32 → Int32
  | 0, _, b => b
  | m + 1, p, b => if g < nI p - s then b else if xhas w (nI p) = true then b else rR g w s m (p + 1) (b ||| (1 <<< (nI p &&& 31)))
def xreach (s g w : Int32) : Int32 := if xhas w s = true then 0 else rR g w s (9 - s.toNatClampNeg) (s.toNatClampNeg + 1) (rL g w s s.toNatClampNeg (1 <<< (s &&& 31)))
theorem inr_of {q n : Int32} (h : inr q n = true) : ¬ q < 0 ∧ q < n := by
  unfold inr at h
  simpa using h
theorem inr_nI {q : Int32} {n : Nat} (hn : n < 2 ^ 31) (h : inr q (nI n) = true) : ∃ k, k < n ∧ q = nI k := by
  obtain ⟨h1, h2⟩ := inr_of h
  obtain ⟨k, hk, rfl⟩ := nI_of h1
  rw [nI_ltI hk hn] at h2
  exact ⟨k, h2, rfl⟩
set_option maxRecDepth 100000 in
set_option maxHeartbeats 4000000 in
theorem tr_X0_reachOf_0 (d : Nat) (I : Nat → Int32) (F : Nat → Nat → Int32) (sd : Int64) (s : Int32) (g : Int32) (w : Int32) : pm_EV (pm_run mt (d + 2)) (some .int) oX0_reachOf (0, [some (.int s), some (.int g), some (.int w), none, none], [], (hX I F sd)) = (if (bI (xhas w s)) = 0 then pm_EV (pm_run mt (d + 2)) (some .int) oX0_reachOf (14, [some (.int s), some (.int g), some (.int w), some (.int ((1 : Int32) <<< (s &&& 31))), some (.int (s - 1))], [], (hX I F sd)) else some (some (.int 0), (hX I F sd))) := by
  refine Eq.trans (b := pm_EV (pm_run mt (d + 2)) (some .int) oX0_reachOf (3, [some (.int s), some (.int g), some (.int w), none, none], [.int (bI (xhas w s))], (hX I F sd))) (pm_EV_cl 2 (call := pm_run mt (d + 2)) (d := (2, [some (.int s), some (.int g), some (.int w), none, none], [.int s, .int w], (hX I F sd))) (a := 103) (as := [.int w, .int s]) (hp := (hX I F sd)) (hp2 := (hX I F sd)) (i2 := 3) (ls := [some (.int s), some (.int g), some (.int w), none, none]) (rest := []) (r := some (.int (bI (xhas w s)))) rfl rfl (sp_X7_has (d + 0) I F sd w s )) ?_
  refine Eq.trans (pm_EV_at 0 (d := (3, [some (.int s), some (.int g), some (.int w), none, none], [.int (bI (xhas w s))], (hX I F sd))) (x := if (bI (xhas w s)) = 0 then .inl (6, [some (.int s), some (.int g), some (.int w), none, none], [], (hX I F sd)) else .inl (4, [some (.int s), some (.int g), some (.int w), none, none], [], (hX I F sd))) rfl rfl) ?_
  refine pm_rc (fun p1 => ?_) (fun p1 => ?_)
  · show pm_EV (pm_run mt (d + 2)) (some .int) oX0_reachOf (6, [some (.int s), some (.int g), some (.int w), none, none], [], (hX I F sd)) = _
    exact pm_EV_go 8 (d := (14, [some (.int s), some (.int g), some (.int w), some (.int ((1 : Int32) <<< (s &&& 31))), some (.int (s - 1))], [], (hX I F sd))) rfl
  · show pm_EV (pm_run mt (d + 2)) (some .int) oX0_reachOf (4, [some (.int s), some (.int g), some (.int w), none, none], [], (hX I F sd)) = _
    exact pm_EV_at 1 (d := (5, [some (.int s), some (.int g), some (.int w), none, none], [.int 0], (hX I F sd))) rfl rfl
set_option maxRecDepth 100000 in
set_option maxHeartbeats 4000000 in
theorem tr_X0_reachOf_14 (d : Nat) (I : Nat → Int32) (F : Nat → Nat → Int32) (sd : Int64) (s : Int32) (g : Int32) (w : Int32) (x3 : Int32) (x4 : Int32) : pm_EV (pm_run mt (d + 2)) (some .int) oX0_reachOf (14, [some (.int s), some (.int g), some (.int w), some (.int x3), some (.int x4)], [], (hX I F sd)) = (if x4 < 0 then pm_EV (pm_run mt (d + 2)) (some .int) oX0_reachOf (37, [some (.int s), some (.int g), some (.int w), some (.int x3), some (.int (s + 1))], [], (hX I F sd)) else (if g < (s - x4) then pm_EV (pm_run mt (d + 2)) (some .int) oX0_reachOf (37, [some (.int s), some (.int g), some (.int w), some (.int x3), some (.int (s + 1))], [], (hX I F sd)) else (if (bI (xhas w x4)) = 0 then pm_EV (pm_run mt (d + 2)) (some .int) oX0_reachOf (14, [some (.int s), some (.int g), some (.int w), some (.int (x3 ||| ((1 : Int32) <<< (x4 &&& 31)))), some (.int (x4 + (-1)))], [], (hX I F sd)) else pm_EV (pm_run mt (d + 2)) (some .int) oX0_reachOf (37, [some (.int s), some (.int g), some (.int w), some (.int x3), some (.int (s + 1))], [], (hX I F sd))))) := by
  refine Eq.trans (pm_EV_at 1 (d := (15, [some (.int s), some (.int g), some (.int w), some (.int x3), some (.int x4)], [.int x4], (hX I F sd))) (x := if x4 < 0 then .inl (33, [some (.int s), some (.int g), some (.int w), some (.int x3), some (.int x4)], [], (hX I F sd)) else .inl (16, [some (.int s), some (.int g), some (.int w), some (.int x3), some (.int x4)], [], (hX I F sd))) rfl rfl) ?_
  refine pm_rc (fun p1 => ?_) (fun p1 => ?_)
  · show pm_EV (pm_run mt (d + 2)) (some .int) oX0_reachOf (33, [some (.int s), some (.int g), some (.int w), some (.int x3), some (.int x4)], [], (hX I F sd)) = _
    exact pm_EV_go 4 (d := (37, [some (.int s), some (.int g), some (.int w), some (.int x3), some (.int (s + 1))], [], (hX I F sd))) rfl
  · show pm_EV (pm_run mt (d + 2)) (some .int) oX0_reachOf (16, [some (.int s), some (.int g), some (.int w), some (.int x3), some (.int x4)], [], (hX I F sd)) = _
    refine Eq.trans (pm_EV_at 4 (d := (20, [some (.int s), some (.int g), some (.int w), some (.int x3), some (.int x4)], [.int g, .int (s - x4)], (hX I F sd))) (x := if g < (s - x4) then .inl (33, [some (.int s), some (.int g), some (.int w), some (.int x3), some (.int x4)], [], (hX I F sd)) else .inl (21, [some (.int s), some (.int g), some (.int w), some (.int x3), some (.int x4)], [], (hX I F sd))) rfl rfl) ?_
    refine pm_rc (fun p2 => ?_) (fun p2 => ?_)
    · show pm_EV (pm_run mt (d + 2)) (some .int) oX0_reachOf (33, [some (.int s), some (.int g), some (.int w), some (.int x3), some (.int x4)], [], (hX I F sd)) = _
      exact pm_EV_go 4 (d := (37, [some (.int s), some (.int g), some (.int w), some (.int x3), some (.int (s + 1))], [], (hX I F sd))) rfl
    · show pm_EV (pm_run mt (d + 2)) (some .int) oX0_reachOf (21, [some (.int s), some (.int g), some (.int w), some (.int x3), some (.int x4)], [], (hX I F sd)) = _
      refine Eq.trans (b := pm_EV (pm_run mt (d + 2)) (some .int) oX0_reachOf (24, [some (.int s), some (.int g), some (.int w), some (.int x3), some (.int x4)], [.int (bI (xhas w x4))], (hX I F sd))) (pm_EV_cl 2 (call := pm_run mt (d + 2)) (d := (23, [some (.int s), some (.int g), some (.int w), some (.int x3), some (.int x4)], [.int x4, .int w], (hX I F sd))) (a := 103) (as := [.int w, .int x4]) (hp := (hX I F sd)) (hp2 := (hX I F sd)) (i2 := 24) (ls := [some (.int s), some (.int g), some (.int w), some (.int x3), some (.int x4)]) (rest := []) (r := some (.int (bI (xhas w x4)))) rfl rfl (sp_X7_has (d + 0) I F sd w x4 )) ?_
      refine Eq.trans (pm_EV_at 0 (d := (24, [some (.int s), some (.int g), some (.int w), some (.int x3), some (.int x4)], [.int (bI (xhas w x4))], (hX I F sd))) (x := if (bI (xhas w x4)) = 0 then .inl (25, [some (.int s), some (.int g), some (.int w), some (.int x3), some (.int x4)], [], (hX I F sd)) else .inl (33, [some (.int s), some (.int g), some (.int w), some (.int x3), some (.int x4)], [], (hX I F sd))) rfl rfl) ?_
      refine pm_rc (fun p3 => ?_) (fun p3 => ?_)
      · show pm_EV (pm_run mt (d + 2)) (some .int) oX0_reachOf (25, [some (.int s), some (.int g), some (.int w), some (.int x3), some (.int x4)], [], (hX I F sd)) = _
        exact pm_EV_go 8 (d := (14, [some (.int s), some (.int g), some (.int w), some (.int (x3 ||| ((1 : Int32) <<< (x4 &&& 31)))), some (.int (x4 + (-1)))], [], (hX I F sd))) rfl
      · show pm_EV (pm_run mt (d + 2)) (some .int) oX0_reachOf (33, [some (.int s), some (.int g), some (.int w), some (.int x3), some (.int x4)], [], (hX I F sd)) = _
        exact pm_EV_go 4 (d := (37, [some (.int s), some (.int g), some (.int w), some (.int x3), some (.int (s + 1))], [], (hX I F sd))) rfl
set_option maxRecDepth 100000 in
set_option maxHeartbeats 4000000 in
theorem tr_X0_reachOf_37 (d : Nat) (I : Nat → Int32) (F : Nat → Nat → Int32) (sd : Int64) (s : Int32) (g : Int32) (w : Int32) (x3 : Int32) (x4 : Int32) : pm_EV (pm_run mt (d + 2)) (some .int) oX0_reachOf (37, [some (.int s), some (.int g), some (.int w), some (.int x3), some (.int x4)], [], (hX I F sd)) = (if x4 < 10 then (if g < (x4 - s) then some (some (.int x3), (hX I F sd)) else (if (bI (xhas w x4)) = 0 then pm_EV (pm_run mt (d + 2)) (some .int) oX0_reachOf (37, [some (.int s), some (.int g), some (.int w), some (.int (x3 ||| ((1 : Int32) <<< (x4 &&& 31)))), some (.int (x4 + 1))], [], (hX I F sd)) else some (some (.int x3), (hX I F sd)))) else some (some (.int x3), (hX I F sd))) := by
  refine Eq.trans (pm_EV_at 2 (d := (39, [some (.int s), some (.int g), some (.int w), some (.int x3), some (.int x4)], [.int 10, .int x4], (hX I F sd))) (x := if x4 < 10 then .inl (40, [some (.int s), some (.int g), some (.int w), some (.int x3), some (.int x4)], [], (hX I F sd)) else .inl (57, [some (.int s), some (.int g), some (.int w), some (.int x3), some (.int x4)], [], (hX I F sd))) rfl rfl) ?_
  refine pm_rc (fun p1 => ?_) (fun p1 => ?_)
  · show pm_EV (pm_run mt (d + 2)) (some .int) oX0_reachOf (40, [some (.int s), some (.int g), some (.int w), some (.int x3), some (.int x4)], [], (hX I F sd)) = _
    refine Eq.trans (pm_EV_at 4 (d := (44, [some (.int s), some (.int g), some (.int w), some (.int x3), some (.int x4)], [.int g, .int (x4 - s)], (hX I F sd))) (x := if g < (x4 - s) then .inl (57, [some (.int s), some (.int g), some (.int w), some (.int x3), some (.int x4)], [], (hX I F sd)) else .inl (45, [some (.int s), some (.int g), some (.int w), some (.int x3), some (.int x4)], [], (hX I F sd))) rfl rfl) ?_
    refine pm_rc (fun p2 => ?_) (fun p2 => ?_)
    · show pm_EV (pm_run mt (d + 2)) (some .int) oX0_reachOf (57, [some (.int s), some (.int g), some (.int w), some (.int x3), some (.int x4)], [], (hX I F sd)) = _
      exact pm_EV_at 1 (d := (58, [some (.int s), some (.int g), some (.int w), some (.int x3), some (.int x4)], [.int x3], (hX I F sd))) rfl rfl
    · show pm_EV (pm_run mt (d + 2)) (some .int) oX0_reachOf (45, [some (.int s), some (.int g), some (.int w), some (.int x3), some (.int x4)], [], (hX I F sd)) = _
      refine Eq.trans (b := pm_EV (pm_run mt (d + 2)) (some .int) oX0_reachOf (48, [some (.int s), some (.int g), some (.int w), some (.int x3), some (.int x4)], [.int (bI (xhas w x4))], (hX I F sd))) (pm_EV_cl 2 (call := pm_run mt (d + 2)) (d := (47, [some (.int s), some (.int g), some (.int w), some (.int x3), some (.int x4)], [.int x4, .int w], (hX I F sd))) (a := 103) (as := [.int w, .int x4]) (hp := (hX I F sd)) (hp2 := (hX I F sd)) (i2 := 48) (ls := [some (.int s), some (.int g), some (.int w), some (.int x3), some (.int x4)]) (rest := []) (r := some (.int (bI (xhas w x4)))) rfl rfl (sp_X7_has (d + 0) I F sd w x4 )) ?_
      refine Eq.trans (pm_EV_at 0 (d := (48, [some (.int s), some (.int g), some (.int w), some (.int x3), some (.int x4)], [.int (bI (xhas w x4))], (hX I F sd))) (x := if (bI (xhas w x4)) = 0 then .inl (49, [some (.int s), some (.int g), some (.int w), some (.int x3), some (.int x4)], [], (hX I F sd)) else .inl (57, [some (.int s), some (.int g), some (.int w), some (.int x3), some (.int x4)], [], (hX I F sd))) rfl rfl) ?_
      refine pm_rc (fun p3 => ?_) (fun p3 => ?_)
      · show pm_EV (pm_run mt (d + 2)) (some .int) oX0_reachOf (49, [some (.int s), some (.int g), some (.int w), some (.int x3), some (.int x4)], [], (hX I F sd)) = _
        exact pm_EV_go 8 (d := (37, [some (.int s), some (.int g), some (.int w), some (.int (x3 ||| ((1 : Int32) <<< (x4 &&& 31)))), some (.int (x4 + 1))], [], (hX I F sd))) rfl
      · show pm_EV (pm_run mt (d + 2)) (some .int) oX0_reachOf (57, [some (.int s), some (.int g), some (.int w), some (.int x3), some (.int x4)], [], (hX I F sd)) = _
        exact pm_EV_at 1 (d := (58, [some (.int s), some (.int g), some (.int w), some (.int x3), some (.int x4)], [.int x3], (hX I F sd))) rfl rfl
  · show pm_EV (pm_run mt (d + 2)) (some .int) oX0_reachOf (57, [some (.int s), some (.int g), some (.int w), some (.int x3), some (.int x4)], [], (hX I F sd)) = _
    exact pm_EV_at 1 (d := (58, [some (.int s), some (.int g), some (.int w), some (.int x3), some (.int x4)], [.int x3], (hX I F sd))) rfl rfl
set_option maxRecDepth 100000 in
set_option maxHeartbeats 4000000 in
theorem en_X0_reachOf (d : Nat) (I : Nat → Int32) (F : Nat → Nat → Int32) (sd : Int64) (s : Int32) (g : Int32) (w : Int32) : pm_run mt (d + 3) 27 [.int s, .int g, .int w] (hX I F sd) = pm_EV (pm_run mt (d + 2)) (some .int) oX0_reachOf (0, [some (.int s), some (.int g), some (.int w), none, none], [], (hX I F sd)) := rfl
set_option maxRecDepth 100000 in
set_option maxHeartbeats 4000000 in
theorem sp_X0_reachOf (d : Nat) (I : Nat → Int32) (F : Nat → Nat → Int32) (sd : Int64) (s : Int32) (g : Int32) (w : Int32) (h1 : inr s 10 = true) : pm_run mt (d + 3) 27 [.int s, .int g, .int w] (hX I F sd) = some (some (.int (xreach s g w)), (hX I F sd)) := by
  rw [en_X0_reachOf, tr_X0_reachOf_0]
  obtain ⟨a, ha, rfl⟩ := inr_nI (n := 10) (by decide) h1
  have right : ∀ (m p : Nat) (b : Int32), p + m = 10 → pm_EV (pm_run mt (d + 2)) (some .int) oX0_reachOf (37, [some (.int (nI a)), some (.int g), some (.int w), some (.int b), some (.int (nI p))], [], hX I F sd) = some (some (.int (rR g w (nI a) m p b)), hX I F sd) := by
    intro m
    induction m with
    | zero =>
      intro p b hp
      obtain rfl : p = 10 := by omega
      rw [tr_X0_reachOf_37, if_neg (by decide), rR]
    | succ m ih =>
      intro p b hp
      rw [tr_X0_reachOf_37, if_pos (by rw [show (10 : Int32) = nI 10 from rfl, nI_ltI (by omega) (by decide)]; omega), rR, nI_p1]
      simp only [bI_0]
      by_cases c1 : g < nI p - nI a
      · rw [if_pos c1, if_pos c1]
      · rw [if_neg c1, if_neg c1]
        cases c2 : xhas w (nI p)
        · rw [if_pos rfl, if_neg (by decide)]
          exact ih _ _ (by omega)
        · rw [if_neg (by decide), if_pos rfl]
  have left : ∀ (k : Nat) (b : Int32), k ≤ a → pm_EV (pm_run mt (d + 2)) (some .int) oX0_reachOf (14, [some (.int (nI a)), some (.int g), some (.int w), some (.int b), some (.int (nI k - 1))], [], hX I F sd) = some (some (.int (rR g w (nI a) (9 - a) (a + 1) (rL g w (nI a) k b))), hX I F sd) := by
    intro k
    induction k with
    | zero =>
      intro b hk
      rw [tr_X0_reachOf_14, if_pos (by decide), nI_p1, rL]
      exact right _ _ _ (by omega)
    | succ k ih =>
      intro b hk
      rw [nI_pred, tr_X0_reachOf_14, if_neg (nI_pos (by omega)), rL]
      simp only [bI_0]
      by_cases c1 : g < nI a - nI k
      · rw [if_pos c1, if_pos c1, nI_p1]
        exact right _ _ _ (by omega)
      · rw [if_neg c1, if_neg c1]
        cases c2 : xhas w (nI k)
        · rw [if_pos rfl, if_neg (by decide), ← Int32.sub_eq_add_neg]
          exact ih _ (by omega)
        · rw [if_neg (by decide), if_pos rfl, nI_p1]
          exact right _ _ _ (by omega)
  unfold xreach
  simp only [bI_0]
  cases c0 : xhas w (nI a)
  · rw [if_pos rfl, if_neg (by decide), nI_clamp (by omega)]
    exact left a _ (Nat.le_refl a)
  · rw [if_neg (by decide), if_pos rfl]
def xknS (r : Int32) (f : Nat → Int32) : Nat → Int32
  | 0 => 0
  | k + 1 => if xhas r (hcell f (16 + nI k)) = true then xknS r f k ||| (1 <<< (nI k &&& 31)) else xknS r f k
def xant (f : Nat → Int32) : Int32 := xreach (f 23) (f 24) (f 26)
def xknown (f : Nat → Int32) : Int32 := xknS (xant f) f (f 22).toNatClampNeg
def xastL (r p : Int32) : Nat → Nat → Int32
  | 0, _ => -9
  | m + 1, k => if xhas r (p - nI k) = true then nI k else if xhas r (p + nI k) = true then nI k else xastL r p m (k + 1)
set_option maxRecDepth 100000 in
set_option maxHeartbeats 4000000 in
theorem tr_X0_reach_3_0 (d : Nat) (I : Nat → Int32) (F : Nat → Nat → Int32) (sd : Int64) (g1 : inr ((F 4) 23) 10 = true) : pm_EV (pm_run mt (d + 3)) (some .int) oX0_reach (0, [some (.ref 3)], [], (hX I F sd)) = some (some (.int (xreach ((F 4) 23) ((F 4) 24) ((F 4) 26))), (hX I F sd)) := by
  refine Eq.trans (b := pm_EV (pm_run mt (d + 3)) (some .int) oX0_reach (2, [some (.ref 3)], [.int ((F 4) 23)], (hX I F sd))) (pm_EV_cl 1 (call := pm_run mt (d + 3)) (d := (1, [some (.ref 3)], [.ref 3], (hX I F sd))) (a := 9) (as := [.ref 3]) (hp := (hX I F sd)) (hp2 := (hX I F sd)) (i2 := 2) (ls := [some (.ref 3)]) (rest := []) (r := some (.int ((F 4) 23))) rfl rfl (sp_X0_skirting_3 (d + 2) I F sd  )) ?_
  refine Eq.trans (b := pm_EV (pm_run mt (d + 3)) (some .int) oX0_reach (4, [some (.ref 3)], [.int ((F 4) 24), .int ((F 4) 23)], (hX I F sd))) (pm_EV_cl 1 (call := pm_run mt (d + 3)) (d := (3, [some (.ref 3)], [.ref 3, .int ((F 4) 23)], (hX I F sd))) (a := 10) (as := [.ref 3]) (hp := (hX I F sd)) (hp2 := (hX I F sd)) (i2 := 4) (ls := [some (.ref 3)]) (rest := [.int ((F 4) 23)]) (r := some (.int ((F 4) 24))) rfl rfl (sp_X0_goodwill_3 (d + 2) I F sd  )) ?_
  refine Eq.trans (b := pm_EV (pm_run mt (d + 3)) (some .int) oX0_reach (6, [some (.ref 3)], [.int ((F 4) 26), .int ((F 4) 24), .int ((F 4) 23)], (hX I F sd))) (pm_EV_cl 1 (call := pm_run mt (d + 3)) (d := (5, [some (.ref 3)], [.ref 3, .int ((F 4) 24), .int ((F 4) 23)], (hX I F sd))) (a := 12) (as := [.ref 3]) (hp := (hX I F sd)) (hp2 := (hX I F sd)) (i2 := 6) (ls := [some (.ref 3)]) (rest := [.int ((F 4) 24), .int ((F 4) 23)]) (r := some (.int ((F 4) 26))) rfl rfl (sp_X0_powder_3 (d + 2) I F sd  )) ?_
  refine Eq.trans (b := pm_EV (pm_run mt (d + 3)) (some .int) oX0_reach (7, [some (.ref 3)], [.int (xreach ((F 4) 23) ((F 4) 24) ((F 4) 26))], (hX I F sd))) (pm_EV_cl 0 (call := pm_run mt (d + 3)) (d := (6, [some (.ref 3)], [.int ((F 4) 26), .int ((F 4) 24), .int ((F 4) 23)], (hX I F sd))) (a := 27) (as := [.int ((F 4) 23), .int ((F 4) 24), .int ((F 4) 26)]) (hp := (hX I F sd)) (hp2 := (hX I F sd)) (i2 := 7) (ls := [some (.ref 3)]) (rest := []) (r := some (.int (xreach ((F 4) 23) ((F 4) 24) ((F 4) 26)))) rfl rfl (sp_X0_reachOf (d + 0) I F sd ((F 4) 23) ((F 4) 24) ((F 4) 26) g1)) ?_
  exact pm_EV_at 0 (d := (7, [some (.ref 3)], [.int (xreach ((F 4) 23) ((F 4) 24) ((F 4) 26))], (hX I F sd))) rfl rfl
set_option maxRecDepth 100000 in
set_option maxHeartbeats 4000000 in
theorem en_X0_reach_3 (d : Nat) (I : Nat → Int32) (F : Nat → Nat → Int32) (sd : Int64) : pm_run mt (d + 4) 26 [.ref 3] (hX I F sd) = pm_EV (pm_run mt (d + 3)) (some .int) oX0_reach (0, [some (.ref 3)], [], (hX I F sd)) := rfl
set_option maxRecDepth 100000 in
set_option maxHeartbeats 4000000 in
theorem sp_X0_reach_3 (d : Nat) (I : Nat → Int32) (F : Nat → Nat → Int32) (sd : Int64) (h1 : inr (F 4 23) 10 = true) : pm_run mt (d + 4) 26 [.ref 3] (hX I F sd) = some (some (.int (xant (F 4))), (hX I F sd)) := by
  rw [en_X0_reach_3, tr_X0_reach_3_0 _ _ _ _ h1]
  rfl
set_option maxRecDepth 100000 in
set_option maxHeartbeats 4000000 in
theorem tr_X0_known_3_0 (d : Nat) (I : Nat → Int32) (F : Nat → Nat → Int32) (sd : Int64) (g1 : inr ((F 4) 23) 10 = true) : pm_EV (pm_run mt (d + 4)) (some .int) oX0_known (0, [some (.ref 3), none, none, none], [], (hX I F sd)) = pm_EV (pm_run mt (d + 4)) (some .int) oX0_known (7, [some (.ref 3), some (.int (xant ((F 4)))), some (.int 0), some (.int 0)], [], (hX I F sd)) := by
  refine Eq.trans (b := pm_EV (pm_run mt (d + 4)) (some .int) oX0_known (2, [some (.ref 3), none, none, none], [.int (xant ((F 4)))], (hX I F sd))) (pm_EV_cl 1 (call := pm_run mt (d + 4)) (d := (1, [some (.ref 3), none, none, none], [.ref 3], (hX I F sd))) (a := 26) (as := [.ref 3]) (hp := (hX I F sd)) (hp2 := (hX I F sd)) (i2 := 2) (ls := [some (.ref 3), none, none, none]) (rest := []) (r := some (.int (xant ((F 4))))) rfl rfl (sp_X0_reach_3 (d + 0) I F sd  g1)) ?_
  exact pm_EV_go 5 (d := (7, [some (.ref 3), some (.int (xant ((F 4)))), some (.int 0), some (.int 0)], [], (hX I F sd))) rfl
set_option maxRecDepth 100000 in
set_option maxHeartbeats 4000000 in
theorem tr_X0_known_3_7 (d : Nat) (I : Nat → Int32) (F : Nat → Nat → Int32) (sd : Int64) (x1 : Int32) (x2 : Int32) (x3 : Int32) : pm_EV (pm_run mt (d + 4)) (some .int) oX0_known (7, [some (.ref 3), some (.int x1), some (.int x2), some (.int x3)], [], (hX I F sd)) = (if x3 < ((F 4) 22) then (if (bI (xhas x1 (hcell ((F 4)) (16 + x3)))) = 0 then pm_EV (pm_run mt (d + 4)) (some .int) oX0_known (7, [some (.ref 3), some (.int x1), some (.int x2), some (.int (x3 + 1))], [], (hX I F sd)) else pm_EV (pm_run mt (d + 4)) (some .int) oX0_known (7, [some (.ref 3), some (.int x1), some (.int (x2 ||| ((1 : Int32) <<< (x3 &&& 31)))), some (.int (x3 + 1))], [], (hX I F sd))) else some (some (.int x2), (hX I F sd))) := by
  refine Eq.trans (b := pm_EV (pm_run mt (d + 4)) (some .int) oX0_known (10, [some (.ref 3), some (.int x1), some (.int x2), some (.int x3)], [.int ((F 4) 22), .int x3], (hX I F sd))) (pm_EV_cl 2 (call := pm_run mt (d + 4)) (d := (9, [some (.ref 3), some (.int x1), some (.int x2), some (.int x3)], [.ref 3, .int x3], (hX I F sd))) (a := 8) (as := [.ref 3]) (hp := (hX I F sd)) (hp2 := (hX I F sd)) (i2 := 10) (ls := [some (.ref 3), some (.int x1), some (.int x2), some (.int x3)]) (rest := [.int x3]) (r := some (.int ((F 4) 22))) rfl rfl (sp_X0_things_3 (d + 3) I F sd  )) ?_
  refine Eq.trans (pm_EV_at 0 (d := (10, [some (.ref 3), some (.int x1), some (.int x2), some (.int x3)], [.int ((F 4) 22), .int x3], (hX I F sd))) (x := if x3 < ((F 4) 22) then .inl (11, [some (.ref 3), some (.int x1), some (.int x2), some (.int x3)], [], (hX I F sd)) else .inl (25, [some (.ref 3), some (.int x1), some (.int x2), some (.int x3)], [], (hX I F sd))) rfl rfl) ?_
  refine pm_rc (fun p1 => ?_) (fun p1 => ?_)
  · show pm_EV (pm_run mt (d + 4)) (some .int) oX0_known (11, [some (.ref 3), some (.int x1), some (.int x2), some (.int x3)], [], (hX I F sd)) = _
    refine Eq.trans (b := pm_EV (pm_run mt (d + 4)) (some .int) oX0_known (15, [some (.ref 3), some (.int x1), some (.int x2), some (.int x3)], [.int (hcell ((F 4)) (16 + x3)), .int x1], (hX I F sd))) (pm_EV_cl 3 (call := pm_run mt (d + 4)) (d := (14, [some (.ref 3), some (.int x1), some (.int x2), some (.int x3)], [.int x3, .ref 3, .int x1], (hX I F sd))) (a := 20) (as := [.ref 3, .int x3]) (hp := (hX I F sd)) (hp2 := (hX I F sd)) (i2 := 15) (ls := [some (.ref 3), some (.int x1), some (.int x2), some (.int x3)]) (rest := [.int x1]) (r := some (.int (hcell ((F 4)) (16 + x3)))) rfl rfl (sp_X0_placeOf_3 (d + 2) I F sd x3 )) ?_
    refine Eq.trans (b := pm_EV (pm_run mt (d + 4)) (some .int) oX0_known (16, [some (.ref 3), some (.int x1), some (.int x2), some (.int x3)], [.int (bI (xhas x1 (hcell ((F 4)) (16 + x3))))], (hX I F sd))) (pm_EV_cl 0 (call := pm_run mt (d + 4)) (d := (15, [some (.ref 3), some (.int x1), some (.int x2), some (.int x3)], [.int (hcell ((F 4)) (16 + x3)), .int x1], (hX I F sd))) (a := 103) (as := [.int x1, .int (hcell ((F 4)) (16 + x3))]) (hp := (hX I F sd)) (hp2 := (hX I F sd)) (i2 := 16) (ls := [some (.ref 3), some (.int x1), some (.int x2), some (.int x3)]) (rest := []) (r := some (.int (bI (xhas x1 (hcell ((F 4)) (16 + x3)))))) rfl rfl (sp_X7_has (d + 2) I F sd x1 (hcell ((F 4)) (16 + x3)) )) ?_
    refine Eq.trans (pm_EV_at 0 (d := (16, [some (.ref 3), some (.int x1), some (.int x2), some (.int x3)], [.int (bI (xhas x1 (hcell ((F 4)) (16 + x3))))], (hX I F sd))) (x := if (bI (xhas x1 (hcell ((F 4)) (16 + x3)))) = 0 then .inl (23, [some (.ref 3), some (.int x1), some (.int x2), some (.int x3)], [], (hX I F sd)) else .inl (17, [some (.ref 3), some (.int x1), some (.int x2), some (.int x3)], [], (hX I F sd))) rfl rfl) ?_
    refine pm_rc (fun p2 => ?_) (fun p2 => ?_)
    · show pm_EV (pm_run mt (d + 4)) (some .int) oX0_known (23, [some (.ref 3), some (.int x1), some (.int x2), some (.int x3)], [], (hX I F sd)) = _
      exact pm_EV_go 2 (d := (7, [some (.ref 3), some (.int x1), some (.int x2), some (.int (x3 + 1))], [], (hX I F sd))) rfl
    · show pm_EV (pm_run mt (d + 4)) (some .int) oX0_known (17, [some (.ref 3), some (.int x1), some (.int x2), some (.int x3)], [], (hX I F sd)) = _
      exact pm_EV_go 8 (d := (7, [some (.ref 3), some (.int x1), some (.int (x2 ||| ((1 : Int32) <<< (x3 &&& 31)))), some (.int (x3 + 1))], [], (hX I F sd))) rfl
  · show pm_EV (pm_run mt (d + 4)) (some .int) oX0_known (25, [some (.ref 3), some (.int x1), some (.int x2), some (.int x3)], [], (hX I F sd)) = _
    exact pm_EV_at 1 (d := (26, [some (.ref 3), some (.int x1), some (.int x2), some (.int x3)], [.int x2], (hX I F sd))) rfl rfl
set_option maxRecDepth 100000 in
set_option maxHeartbeats 4000000 in
theorem en_X0_known_3 (d : Nat) (I : Nat → Int32) (F : Nat → Nat → Int32) (sd : Int64) : pm_run mt (d + 5) 28 [.ref 3] (hX I F sd) = pm_EV (pm_run mt (d + 4)) (some .int) oX0_known (0, [some (.ref 3), none, none, none], [], (hX I F sd)) := rfl
set_option maxRecDepth 100000 in
set_option maxHeartbeats 4000000 in
theorem sp_X0_known_3 (d : Nat) (I : Nat → Int32) (F : Nat → Nat → Int32) (sd : Int64) (h1 : inr (F 4 23) 10 = true) : pm_run mt (d + 5) 28 [.ref 3] (hX I F sd) = some (some (.int (xknown (F 4))), (hX I F sd)) := by
  rw [en_X0_known_3, tr_X0_known_3_0 _ _ _ _ h1]
  have key : ∀ (m k : Nat), k + m = (F 4 22).toNatClampNeg → pm_EV (pm_run mt (d + 4)) (some .int) oX0_known (7, [some (.ref 3), some (.int (xant (F 4))), some (.int (xknS (xant (F 4)) (F 4) k)), some (.int (nI k))], [], hX I F sd) = some (some (.int (xknown (F 4))), hX I F sd) := by
    intro m
    induction m with
    | zero =>
      intro k hk
      have hb := cl_bd (F 4 22)
      rw [tr_X0_known_3_7, if_neg (fun h => by rw [cl_lt (by omega)] at h; omega), xknown, ← hk]
      rfl
    | succ m ih =>
      intro k hk
      have hb := cl_bd (F 4 22)
      have hi := ih (k + 1) (by omega)
      rw [tr_X0_known_3_7, if_pos ((cl_lt (by omega)).mpr (by omega)), nI_p1]
      simp only [bI_0]
      rw [xknS] at hi
      cases c2 : xhas (xant (F 4)) (hcell (F 4) (16 + nI k))
      · rw [if_pos rfl]
        rw [c2, if_neg (by decide)] at hi
        exact hi
      · rw [if_neg (by decide)]
        rw [c2, if_pos rfl] at hi
        exact hi
  exact key _ 0 (Nat.zero_add _)
set_option maxRecDepth 100000 in
set_option maxHeartbeats 4000000 in
theorem tr_X0_astray_3_0 (d : Nat) (I : Nat → Int32) (F : Nat → Nat → Int32) (sd : Int64) (q : Int32) (g1 : inr ((F 4) 23) 10 = true) : pm_EV (pm_run mt (d + 4)) (some .int) oX0_astray (0, [some (.ref 3), some (.int q), none, none, none], [], (hX I F sd)) = pm_EV (pm_run mt (d + 4)) (some .int) oX0_astray (9, [some (.ref 3), some (.int q), some (.int (xant ((F 4)))), some (.int (hcell ((F 4)) (16 + q))), some (.int 0)], [], (hX I F sd)) := by
  refine Eq.trans (b := pm_EV (pm_run mt (d + 4)) (some .int) oX0_astray (2, [some (.ref 3), some (.int q), none, none, none], [.int (xant ((F 4)))], (hX I F sd))) (pm_EV_cl 1 (call := pm_run mt (d + 4)) (d := (1, [some (.ref 3), some (.int q), none, none, none], [.ref 3], (hX I F sd))) (a := 26) (as := [.ref 3]) (hp := (hX I F sd)) (hp2 := (hX I F sd)) (i2 := 2) (ls := [some (.ref 3), some (.int q), none, none, none]) (rest := []) (r := some (.int (xant ((F 4))))) rfl rfl (sp_X0_reach_3 (d + 0) I F sd  g1)) ?_
  refine Eq.trans (b := pm_EV (pm_run mt (d + 4)) (some .int) oX0_astray (6, [some (.ref 3), some (.int q), some (.int (xant ((F 4)))), none, none], [.int (hcell ((F 4)) (16 + q))], (hX I F sd))) (pm_EV_cl 3 (call := pm_run mt (d + 4)) (d := (5, [some (.ref 3), some (.int q), some (.int (xant ((F 4)))), none, none], [.int q, .ref 3], (hX I F sd))) (a := 20) (as := [.ref 3, .int q]) (hp := (hX I F sd)) (hp2 := (hX I F sd)) (i2 := 6) (ls := [some (.ref 3), some (.int q), some (.int (xant ((F 4)))), none, none]) (rest := []) (r := some (.int (hcell ((F 4)) (16 + q)))) rfl rfl (sp_X0_placeOf_3 (d + 2) I F sd q )) ?_
  exact pm_EV_go 3 (d := (9, [some (.ref 3), some (.int q), some (.int (xant ((F 4)))), some (.int (hcell ((F 4)) (16 + q))), some (.int 0)], [], (hX I F sd))) rfl
set_option maxRecDepth 100000 in
set_option maxHeartbeats 4000000 in
theorem tr_X0_astray_3_9 (d : Nat) (I : Nat → Int32) (F : Nat → Nat → Int32) (sd : Int64) (q : Int32) (x2 : Int32) (x3 : Int32) (x4 : Int32) : pm_EV (pm_run mt (d + 4)) (some .int) oX0_astray (9, [some (.ref 3), some (.int q), some (.int x2), some (.int x3), some (.int x4)], [], (hX I F sd)) = (if x4 < 10 then (if (bI (xhas x2 (x3 - x4))) = 0 then (if (bI (xhas x2 (x3 + x4))) = 0 then pm_EV (pm_run mt (d + 4)) (some .int) oX0_astray (9, [some (.ref 3), some (.int q), some (.int x2), some (.int x3), some (.int (x4 + 1))], [], (hX I F sd)) else some (some (.int x4), (hX I F sd))) else some (some (.int x4), (hX I F sd))) else some (some (.int (-9)), (hX I F sd))) := by
  refine Eq.trans (pm_EV_at 2 (d := (11, [some (.ref 3), some (.int q), some (.int x2), some (.int x3), some (.int x4)], [.int 10, .int x4], (hX I F sd))) (x := if x4 < 10 then .inl (12, [some (.ref 3), some (.int q), some (.int x2), some (.int x3), some (.int x4)], [], (hX I F sd)) else .inl (28, [some (.ref 3), some (.int q), some (.int x2), some (.int x3), some (.int x4)], [], (hX I F sd))) rfl rfl) ?_
  refine pm_rc (fun p1 => ?_) (fun p1 => ?_)
  · show pm_EV (pm_run mt (d + 4)) (some .int) oX0_astray (12, [some (.ref 3), some (.int q), some (.int x2), some (.int x3), some (.int x4)], [], (hX I F sd)) = _
    refine Eq.trans (b := pm_EV (pm_run mt (d + 4)) (some .int) oX0_astray (17, [some (.ref 3), some (.int q), some (.int x2), some (.int x3), some (.int x4)], [.int (bI (xhas x2 (x3 - x4)))], (hX I F sd))) (pm_EV_cl 4 (call := pm_run mt (d + 4)) (d := (16, [some (.ref 3), some (.int q), some (.int x2), some (.int x3), some (.int x4)], [.int (x3 - x4), .int x2], (hX I F sd))) (a := 103) (as := [.int x2, .int (x3 - x4)]) (hp := (hX I F sd)) (hp2 := (hX I F sd)) (i2 := 17) (ls := [some (.ref 3), some (.int q), some (.int x2), some (.int x3), some (.int x4)]) (rest := []) (r := some (.int (bI (xhas x2 (x3 - x4))))) rfl rfl (sp_X7_has (d + 2) I F sd x2 (x3 - x4) )) ?_
    refine Eq.trans (pm_EV_at 0 (d := (17, [some (.ref 3), some (.int q), some (.int x2), some (.int x3), some (.int x4)], [.int (bI (xhas x2 (x3 - x4)))], (hX I F sd))) (x := if (bI (xhas x2 (x3 - x4))) = 0 then .inl (18, [some (.ref 3), some (.int q), some (.int x2), some (.int x3), some (.int x4)], [], (hX I F sd)) else .inl (24, [some (.ref 3), some (.int q), some (.int x2), some (.int x3), some (.int x4)], [], (hX I F sd))) rfl rfl) ?_
    refine pm_rc (fun p2 => ?_) (fun p2 => ?_)
    · show pm_EV (pm_run mt (d + 4)) (some .int) oX0_astray (18, [some (.ref 3), some (.int q), some (.int x2), some (.int x3), some (.int x4)], [], (hX I F sd)) = _
      refine Eq.trans (b := pm_EV (pm_run mt (d + 4)) (some .int) oX0_astray (23, [some (.ref 3), some (.int q), some (.int x2), some (.int x3), some (.int x4)], [.int (bI (xhas x2 (x3 + x4)))], (hX I F sd))) (pm_EV_cl 4 (call := pm_run mt (d + 4)) (d := (22, [some (.ref 3), some (.int q), some (.int x2), some (.int x3), some (.int x4)], [.int (x3 + x4), .int x2], (hX I F sd))) (a := 103) (as := [.int x2, .int (x3 + x4)]) (hp := (hX I F sd)) (hp2 := (hX I F sd)) (i2 := 23) (ls := [some (.ref 3), some (.int q), some (.int x2), some (.int x3), some (.int x4)]) (rest := []) (r := some (.int (bI (xhas x2 (x3 + x4))))) rfl rfl (sp_X7_has (d + 2) I F sd x2 (x3 + x4) )) ?_
      refine Eq.trans (pm_EV_at 0 (d := (23, [some (.ref 3), some (.int q), some (.int x2), some (.int x3), some (.int x4)], [.int (bI (xhas x2 (x3 + x4)))], (hX I F sd))) (x := if (bI (xhas x2 (x3 + x4))) = 0 then .inl (26, [some (.ref 3), some (.int q), some (.int x2), some (.int x3), some (.int x4)], [], (hX I F sd)) else .inl (24, [some (.ref 3), some (.int q), some (.int x2), some (.int x3), some (.int x4)], [], (hX I F sd))) rfl rfl) ?_
      refine pm_rc (fun p3 => ?_) (fun p3 => ?_)
      · show pm_EV (pm_run mt (d + 4)) (some .int) oX0_astray (26, [some (.ref 3), some (.int q), some (.int x2), some (.int x3), some (.int x4)], [], (hX I F sd)) = _
        exact pm_EV_go 2 (d := (9, [some (.ref 3), some (.int q), some (.int x2), some (.int x3), some (.int (x4 + 1))], [], (hX I F sd))) rfl
      · show pm_EV (pm_run mt (d + 4)) (some .int) oX0_astray (24, [some (.ref 3), some (.int q), some (.int x2), some (.int x3), some (.int x4)], [], (hX I F sd)) = _
        exact pm_EV_at 1 (d := (25, [some (.ref 3), some (.int q), some (.int x2), some (.int x3), some (.int x4)], [.int x4], (hX I F sd))) rfl rfl
    · show pm_EV (pm_run mt (d + 4)) (some .int) oX0_astray (24, [some (.ref 3), some (.int q), some (.int x2), some (.int x3), some (.int x4)], [], (hX I F sd)) = _
      exact pm_EV_at 1 (d := (25, [some (.ref 3), some (.int q), some (.int x2), some (.int x3), some (.int x4)], [.int x4], (hX I F sd))) rfl rfl
  · show pm_EV (pm_run mt (d + 4)) (some .int) oX0_astray (28, [some (.ref 3), some (.int q), some (.int x2), some (.int x3), some (.int x4)], [], (hX I F sd)) = _
    exact pm_EV_at 1 (d := (29, [some (.ref 3), some (.int q), some (.int x2), some (.int x3), some (.int x4)], [.int (-9)], (hX I F sd))) rfl rfl
set_option maxRecDepth 100000 in
set_option maxHeartbeats 4000000 in
theorem en_X0_astray_3 (d : Nat) (I : Nat → Int32) (F : Nat → Nat → Int32) (sd : Int64) (q : Int32) : pm_run mt (d + 5) 29 [.ref 3, .int q] (hX I F sd) = pm_EV (pm_run mt (d + 4)) (some .int) oX0_astray (0, [some (.ref 3), some (.int q), none, none, none], [], (hX I F sd)) := rfl
set_option maxRecDepth 100000 in
set_option maxHeartbeats 4000000 in
theorem sp_X0_astray_3 (d : Nat) (I : Nat → Int32) (F : Nat → Nat → Int32) (sd : Int64) (q : Int32) (h1 : inr (F 4 23) 10 = true) : pm_run mt (d + 5) 29 [.ref 3, .int q] (hX I F sd) = some (some (.int (xastL (xant (F 4)) (hcell (F 4) (16 + q)) 10 0)), (hX I F sd)) := by
  rw [en_X0_astray_3, tr_X0_astray_3_0 _ _ _ _ _ h1]
  have key : ∀ (m k : Nat), k + m = 10 → pm_EV (pm_run mt (d + 4)) (some .int) oX0_astray (9, [some (.ref 3), some (.int q), some (.int (xant (F 4))), some (.int (hcell (F 4) (16 + q))), some (.int (nI k))], [], hX I F sd) = some (some (.int (xastL (xant (F 4)) (hcell (F 4) (16 + q)) m k)), hX I F sd) := by
    intro m
    induction m with
    | zero =>
      intro k hk
      obtain rfl : k = 10 := by omega
      rw [tr_X0_astray_3_9, if_neg (by decide), xastL]
    | succ m ih =>
      intro k hk
      rw [tr_X0_astray_3_9, if_pos (by rw [show (10 : Int32) = nI 10 from rfl, nI_ltI (by omega) (by decide)]; omega), nI_p1, xastL]
      simp only [bI_0]
      cases c1 : xhas (xant (F 4)) (hcell (F 4) (16 + q) - nI k) <;> cases c2 : xhas (xant (F 4)) (hcell (F 4) (16 + q) + nI k) <;> simp only [Bool.false_eq_true, Bool.true_eq_false, if_true, if_false]
      exact ih _ (by omega)
  exact key 10 0 rfl
set_option maxRecDepth 100000 in
set_option maxHeartbeats 4000000 in
theorem tr_X0_reach_5_0 (d : Nat) (I : Nat → Int32) (F : Nat → Nat → Int32) (sd : Int64) (g1 : inr ((F 6) 23) 10 = true) : pm_EV (pm_run mt (d + 3)) (some .int) oX0_reach (0, [some (.ref 5)], [], (hX I F sd)) = some (some (.int (xreach ((F 6) 23) ((F 6) 24) ((F 6) 26))), (hX I F sd)) := by
  refine Eq.trans (b := pm_EV (pm_run mt (d + 3)) (some .int) oX0_reach (2, [some (.ref 5)], [.int ((F 6) 23)], (hX I F sd))) (pm_EV_cl 1 (call := pm_run mt (d + 3)) (d := (1, [some (.ref 5)], [.ref 5], (hX I F sd))) (a := 9) (as := [.ref 5]) (hp := (hX I F sd)) (hp2 := (hX I F sd)) (i2 := 2) (ls := [some (.ref 5)]) (rest := []) (r := some (.int ((F 6) 23))) rfl rfl (sp_X0_skirting_5 (d + 2) I F sd  )) ?_
  refine Eq.trans (b := pm_EV (pm_run mt (d + 3)) (some .int) oX0_reach (4, [some (.ref 5)], [.int ((F 6) 24), .int ((F 6) 23)], (hX I F sd))) (pm_EV_cl 1 (call := pm_run mt (d + 3)) (d := (3, [some (.ref 5)], [.ref 5, .int ((F 6) 23)], (hX I F sd))) (a := 10) (as := [.ref 5]) (hp := (hX I F sd)) (hp2 := (hX I F sd)) (i2 := 4) (ls := [some (.ref 5)]) (rest := [.int ((F 6) 23)]) (r := some (.int ((F 6) 24))) rfl rfl (sp_X0_goodwill_5 (d + 2) I F sd  )) ?_
  refine Eq.trans (b := pm_EV (pm_run mt (d + 3)) (some .int) oX0_reach (6, [some (.ref 5)], [.int ((F 6) 26), .int ((F 6) 24), .int ((F 6) 23)], (hX I F sd))) (pm_EV_cl 1 (call := pm_run mt (d + 3)) (d := (5, [some (.ref 5)], [.ref 5, .int ((F 6) 24), .int ((F 6) 23)], (hX I F sd))) (a := 12) (as := [.ref 5]) (hp := (hX I F sd)) (hp2 := (hX I F sd)) (i2 := 6) (ls := [some (.ref 5)]) (rest := [.int ((F 6) 24), .int ((F 6) 23)]) (r := some (.int ((F 6) 26))) rfl rfl (sp_X0_powder_5 (d + 2) I F sd  )) ?_
  refine Eq.trans (b := pm_EV (pm_run mt (d + 3)) (some .int) oX0_reach (7, [some (.ref 5)], [.int (xreach ((F 6) 23) ((F 6) 24) ((F 6) 26))], (hX I F sd))) (pm_EV_cl 0 (call := pm_run mt (d + 3)) (d := (6, [some (.ref 5)], [.int ((F 6) 26), .int ((F 6) 24), .int ((F 6) 23)], (hX I F sd))) (a := 27) (as := [.int ((F 6) 23), .int ((F 6) 24), .int ((F 6) 26)]) (hp := (hX I F sd)) (hp2 := (hX I F sd)) (i2 := 7) (ls := [some (.ref 5)]) (rest := []) (r := some (.int (xreach ((F 6) 23) ((F 6) 24) ((F 6) 26)))) rfl rfl (sp_X0_reachOf (d + 0) I F sd ((F 6) 23) ((F 6) 24) ((F 6) 26) g1)) ?_
  exact pm_EV_at 0 (d := (7, [some (.ref 5)], [.int (xreach ((F 6) 23) ((F 6) 24) ((F 6) 26))], (hX I F sd))) rfl rfl
set_option maxRecDepth 100000 in
set_option maxHeartbeats 4000000 in
theorem en_X0_reach_5 (d : Nat) (I : Nat → Int32) (F : Nat → Nat → Int32) (sd : Int64) : pm_run mt (d + 4) 26 [.ref 5] (hX I F sd) = pm_EV (pm_run mt (d + 3)) (some .int) oX0_reach (0, [some (.ref 5)], [], (hX I F sd)) := rfl
set_option maxRecDepth 100000 in
set_option maxHeartbeats 4000000 in
theorem sp_X0_reach_5 (d : Nat) (I : Nat → Int32) (F : Nat → Nat → Int32) (sd : Int64) (h1 : inr (F 6 23) 10 = true) : pm_run mt (d + 4) 26 [.ref 5] (hX I F sd) = some (some (.int (xant (F 6))), (hX I F sd)) := by
  rw [en_X0_reach_5, tr_X0_reach_5_0 _ _ _ _ h1]
  rfl
set_option maxRecDepth 100000 in
set_option maxHeartbeats 4000000 in
theorem tr_X0_known_5_0 (d : Nat) (I : Nat → Int32) (F : Nat → Nat → Int32) (sd : Int64) (g1 : inr ((F 6) 23) 10 = true) : pm_EV (pm_run mt (d + 4)) (some .int) oX0_known (0, [some (.ref 5), none, none, none], [], (hX I F sd)) = pm_EV (pm_run mt (d + 4)) (some .int) oX0_known (7, [some (.ref 5), some (.int (xant ((F 6)))), some (.int 0), some (.int 0)], [], (hX I F sd)) := by
  refine Eq.trans (b := pm_EV (pm_run mt (d + 4)) (some .int) oX0_known (2, [some (.ref 5), none, none, none], [.int (xant ((F 6)))], (hX I F sd))) (pm_EV_cl 1 (call := pm_run mt (d + 4)) (d := (1, [some (.ref 5), none, none, none], [.ref 5], (hX I F sd))) (a := 26) (as := [.ref 5]) (hp := (hX I F sd)) (hp2 := (hX I F sd)) (i2 := 2) (ls := [some (.ref 5), none, none, none]) (rest := []) (r := some (.int (xant ((F 6))))) rfl rfl (sp_X0_reach_5 (d + 0) I F sd  g1)) ?_
  exact pm_EV_go 5 (d := (7, [some (.ref 5), some (.int (xant ((F 6)))), some (.int 0), some (.int 0)], [], (hX I F sd))) rfl
set_option maxRecDepth 100000 in
set_option maxHeartbeats 4000000 in
theorem tr_X0_known_5_7 (d : Nat) (I : Nat → Int32) (F : Nat → Nat → Int32) (sd : Int64) (x1 : Int32) (x2 : Int32) (x3 : Int32) : pm_EV (pm_run mt (d + 4)) (some .int) oX0_known (7, [some (.ref 5), some (.int x1), some (.int x2), some (.int x3)], [], (hX I F sd)) = (if x3 < ((F 6) 22) then (if (bI (xhas x1 (hcell ((F 6)) (16 + x3)))) = 0 then pm_EV (pm_run mt (d + 4)) (some .int) oX0_known (7, [some (.ref 5), some (.int x1), some (.int x2), some (.int (x3 + 1))], [], (hX I F sd)) else pm_EV (pm_run mt (d + 4)) (some .int) oX0_known (7, [some (.ref 5), some (.int x1), some (.int (x2 ||| ((1 : Int32) <<< (x3 &&& 31)))), some (.int (x3 + 1))], [], (hX I F sd))) else some (some (.int x2), (hX I F sd))) := by
  refine Eq.trans (b := pm_EV (pm_run mt (d + 4)) (some .int) oX0_known (10, [some (.ref 5), some (.int x1), some (.int x2), some (.int x3)], [.int ((F 6) 22), .int x3], (hX I F sd))) (pm_EV_cl 2 (call := pm_run mt (d + 4)) (d := (9, [some (.ref 5), some (.int x1), some (.int x2), some (.int x3)], [.ref 5, .int x3], (hX I F sd))) (a := 8) (as := [.ref 5]) (hp := (hX I F sd)) (hp2 := (hX I F sd)) (i2 := 10) (ls := [some (.ref 5), some (.int x1), some (.int x2), some (.int x3)]) (rest := [.int x3]) (r := some (.int ((F 6) 22))) rfl rfl (sp_X0_things_5 (d + 3) I F sd  )) ?_
  refine Eq.trans (pm_EV_at 0 (d := (10, [some (.ref 5), some (.int x1), some (.int x2), some (.int x3)], [.int ((F 6) 22), .int x3], (hX I F sd))) (x := if x3 < ((F 6) 22) then .inl (11, [some (.ref 5), some (.int x1), some (.int x2), some (.int x3)], [], (hX I F sd)) else .inl (25, [some (.ref 5), some (.int x1), some (.int x2), some (.int x3)], [], (hX I F sd))) rfl rfl) ?_
  refine pm_rc (fun p1 => ?_) (fun p1 => ?_)
  · show pm_EV (pm_run mt (d + 4)) (some .int) oX0_known (11, [some (.ref 5), some (.int x1), some (.int x2), some (.int x3)], [], (hX I F sd)) = _
    refine Eq.trans (b := pm_EV (pm_run mt (d + 4)) (some .int) oX0_known (15, [some (.ref 5), some (.int x1), some (.int x2), some (.int x3)], [.int (hcell ((F 6)) (16 + x3)), .int x1], (hX I F sd))) (pm_EV_cl 3 (call := pm_run mt (d + 4)) (d := (14, [some (.ref 5), some (.int x1), some (.int x2), some (.int x3)], [.int x3, .ref 5, .int x1], (hX I F sd))) (a := 20) (as := [.ref 5, .int x3]) (hp := (hX I F sd)) (hp2 := (hX I F sd)) (i2 := 15) (ls := [some (.ref 5), some (.int x1), some (.int x2), some (.int x3)]) (rest := [.int x1]) (r := some (.int (hcell ((F 6)) (16 + x3)))) rfl rfl (sp_X0_placeOf_5 (d + 2) I F sd x3 )) ?_
    refine Eq.trans (b := pm_EV (pm_run mt (d + 4)) (some .int) oX0_known (16, [some (.ref 5), some (.int x1), some (.int x2), some (.int x3)], [.int (bI (xhas x1 (hcell ((F 6)) (16 + x3))))], (hX I F sd))) (pm_EV_cl 0 (call := pm_run mt (d + 4)) (d := (15, [some (.ref 5), some (.int x1), some (.int x2), some (.int x3)], [.int (hcell ((F 6)) (16 + x3)), .int x1], (hX I F sd))) (a := 103) (as := [.int x1, .int (hcell ((F 6)) (16 + x3))]) (hp := (hX I F sd)) (hp2 := (hX I F sd)) (i2 := 16) (ls := [some (.ref 5), some (.int x1), some (.int x2), some (.int x3)]) (rest := []) (r := some (.int (bI (xhas x1 (hcell ((F 6)) (16 + x3)))))) rfl rfl (sp_X7_has (d + 2) I F sd x1 (hcell ((F 6)) (16 + x3)) )) ?_
    refine Eq.trans (pm_EV_at 0 (d := (16, [some (.ref 5), some (.int x1), some (.int x2), some (.int x3)], [.int (bI (xhas x1 (hcell ((F 6)) (16 + x3))))], (hX I F sd))) (x := if (bI (xhas x1 (hcell ((F 6)) (16 + x3)))) = 0 then .inl (23, [some (.ref 5), some (.int x1), some (.int x2), some (.int x3)], [], (hX I F sd)) else .inl (17, [some (.ref 5), some (.int x1), some (.int x2), some (.int x3)], [], (hX I F sd))) rfl rfl) ?_
    refine pm_rc (fun p2 => ?_) (fun p2 => ?_)
    · show pm_EV (pm_run mt (d + 4)) (some .int) oX0_known (23, [some (.ref 5), some (.int x1), some (.int x2), some (.int x3)], [], (hX I F sd)) = _
      exact pm_EV_go 2 (d := (7, [some (.ref 5), some (.int x1), some (.int x2), some (.int (x3 + 1))], [], (hX I F sd))) rfl
    · show pm_EV (pm_run mt (d + 4)) (some .int) oX0_known (17, [some (.ref 5), some (.int x1), some (.int x2), some (.int x3)], [], (hX I F sd)) = _
      exact pm_EV_go 8 (d := (7, [some (.ref 5), some (.int x1), some (.int (x2 ||| ((1 : Int32) <<< (x3 &&& 31)))), some (.int (x3 + 1))], [], (hX I F sd))) rfl
  · show pm_EV (pm_run mt (d + 4)) (some .int) oX0_known (25, [some (.ref 5), some (.int x1), some (.int x2), some (.int x3)], [], (hX I F sd)) = _
    exact pm_EV_at 1 (d := (26, [some (.ref 5), some (.int x1), some (.int x2), some (.int x3)], [.int x2], (hX I F sd))) rfl rfl
set_option maxRecDepth 100000 in
set_option maxHeartbeats 4000000 in
theorem en_X0_known_5 (d : Nat) (I : Nat → Int32) (F : Nat → Nat → Int32) (sd : Int64) : pm_run mt (d + 5) 28 [.ref 5] (hX I F sd) = pm_EV (pm_run mt (d + 4)) (some .int) oX0_known (0, [some (.ref 5), none, none, none], [], (hX I F sd)) := rfl
set_option maxRecDepth 100000 in
set_option maxHeartbeats 4000000 in
theorem sp_X0_known_5 (d : Nat) (I : Nat → Int32) (F : Nat → Nat → Int32) (sd : Int64) (h1 : inr (F 6 23) 10 = true) : pm_run mt (d + 5) 28 [.ref 5] (hX I F sd) = some (some (.int (xknown (F 6))), (hX I F sd)) := by
  rw [en_X0_known_5, tr_X0_known_5_0 _ _ _ _ h1]
  have key : ∀ (m k : Nat), k + m = (F 6 22).toNatClampNeg → pm_EV (pm_run mt (d + 4)) (some .int) oX0_known (7, [some (.ref 5), some (.int (xant (F 6))), some (.int (xknS (xant (F 6)) (F 6) k)), some (.int (nI k))], [], hX I F sd) = some (some (.int (xknown (F 6))), hX I F sd) := by
    intro m
    induction m with
    | zero =>
      intro k hk
      have hb := cl_bd (F 6 22)
      rw [tr_X0_known_5_7, if_neg (fun h => by rw [cl_lt (by omega)] at h; omega), xknown, ← hk]
      rfl
    | succ m ih =>
      intro k hk
      have hb := cl_bd (F 6 22)
      have hi := ih (k + 1) (by omega)
      rw [tr_X0_known_5_7, if_pos ((cl_lt (by omega)).mpr (by omega)), nI_p1]
      simp only [bI_0]
      rw [xknS] at hi
      cases c2 : xhas (xant (F 6)) (hcell (F 6) (16 + nI k))
      · rw [if_pos rfl]
        rw [c2, if_neg (by decide)] at hi
        exact hi
      · rw [if_neg (by decide)]
        rw [c2, if_pos rfl] at hi
        exact hi
  exact key _ 0 (Nat.zero_add _)
set_option maxRecDepth 100000 in
set_option maxHeartbeats 4000000 in
theorem tr_X0_astray_5_0 (d : Nat) (I : Nat → Int32) (F : Nat → Nat → Int32) (sd : Int64) (q : Int32) (g1 : inr ((F 6) 23) 10 = true) : pm_EV (pm_run mt (d + 4)) (some .int) oX0_astray (0, [some (.ref 5), some (.int q), none, none, none], [], (hX I F sd)) = pm_EV (pm_run mt (d + 4)) (some .int) oX0_astray (9, [some (.ref 5), some (.int q), some (.int (xant ((F 6)))), some (.int (hcell ((F 6)) (16 + q))), some (.int 0)], [], (hX I F sd)) := by
  refine Eq.trans (b := pm_EV (pm_run mt (d + 4)) (some .int) oX0_astray (2, [some (.ref 5), some (.int q), none, none, none], [.int (xant ((F 6)))], (hX I F sd))) (pm_EV_cl 1 (call := pm_run mt (d + 4)) (d := (1, [some (.ref 5), some (.int q), none, none, none], [.ref 5], (hX I F sd))) (a := 26) (as := [.ref 5]) (hp := (hX I F sd)) (hp2 := (hX I F sd)) (i2 := 2) (ls := [some (.ref 5), some (.int q), none, none, none]) (rest := []) (r := some (.int (xant ((F 6))))) rfl rfl (sp_X0_reach_5 (d + 0) I F sd  g1)) ?_
  refine Eq.trans (b := pm_EV (pm_run mt (d + 4)) (some .int) oX0_astray (6, [some (.ref 5), some (.int q), some (.int (xant ((F 6)))), none, none], [.int (hcell ((F 6)) (16 + q))], (hX I F sd))) (pm_EV_cl 3 (call := pm_run mt (d + 4)) (d := (5, [some (.ref 5), some (.int q), some (.int (xant ((F 6)))), none, none], [.int q, .ref 5], (hX I F sd))) (a := 20) (as := [.ref 5, .int q]) (hp := (hX I F sd)) (hp2 := (hX I F sd)) (i2 := 6) (ls := [some (.ref 5), some (.int q), some (.int (xant ((F 6)))), none, none]) (rest := []) (r := some (.int (hcell ((F 6)) (16 + q)))) rfl rfl (sp_X0_placeOf_5 (d + 2) I F sd q )) ?_
  exact pm_EV_go 3 (d := (9, [some (.ref 5), some (.int q), some (.int (xant ((F 6)))), some (.int (hcell ((F 6)) (16 + q))), some (.int 0)], [], (hX I F sd))) rfl
set_option maxRecDepth 100000 in
set_option maxHeartbeats 4000000 in
theorem tr_X0_astray_5_9 (d : Nat) (I : Nat → Int32) (F : Nat → Nat → Int32) (sd : Int64) (q : Int32) (x2 : Int32) (x3 : Int32) (x4 : Int32) : pm_EV (pm_run mt (d + 4)) (some .int) oX0_astray (9, [some (.ref 5), some (.int q), some (.int x2), some (.int x3), some (.int x4)], [], (hX I F sd)) = (if x4 < 10 then (if (bI (xhas x2 (x3 - x4))) = 0 then (if (bI (xhas x2 (x3 + x4))) = 0 then pm_EV (pm_run mt (d + 4)) (some .int) oX0_astray (9, [some (.ref 5), some (.int q), some (.int x2), some (.int x3), some (.int (x4 + 1))], [], (hX I F sd)) else some (some (.int x4), (hX I F sd))) else some (some (.int x4), (hX I F sd))) else some (some (.int (-9)), (hX I F sd))) := by
  refine Eq.trans (pm_EV_at 2 (d := (11, [some (.ref 5), some (.int q), some (.int x2), some (.int x3), some (.int x4)], [.int 10, .int x4], (hX I F sd))) (x := if x4 < 10 then .inl (12, [some (.ref 5), some (.int q), some (.int x2), some (.int x3), some (.int x4)], [], (hX I F sd)) else .inl (28, [some (.ref 5), some (.int q), some (.int x2), some (.int x3), some (.int x4)], [], (hX I F sd))) rfl rfl) ?_
  refine pm_rc (fun p1 => ?_) (fun p1 => ?_)
  · show pm_EV (pm_run mt (d + 4)) (some .int) oX0_astray (12, [some (.ref 5), some (.int q), some (.int x2), some (.int x3), some (.int x4)], [], (hX I F sd)) = _
    refine Eq.trans (b := pm_EV (pm_run mt (d + 4)) (some .int) oX0_astray (17, [some (.ref 5), some (.int q), some (.int x2), some (.int x3), some (.int x4)], [.int (bI (xhas x2 (x3 - x4)))], (hX I F sd))) (pm_EV_cl 4 (call := pm_run mt (d + 4)) (d := (16, [some (.ref 5), some (.int q), some (.int x2), some (.int x3), some (.int x4)], [.int (x3 - x4), .int x2], (hX I F sd))) (a := 103) (as := [.int x2, .int (x3 - x4)]) (hp := (hX I F sd)) (hp2 := (hX I F sd)) (i2 := 17) (ls := [some (.ref 5), some (.int q), some (.int x2), some (.int x3), some (.int x4)]) (rest := []) (r := some (.int (bI (xhas x2 (x3 - x4))))) rfl rfl (sp_X7_has (d + 2) I F sd x2 (x3 - x4) )) ?_
    refine Eq.trans (pm_EV_at 0 (d := (17, [some (.ref 5), some (.int q), some (.int x2), some (.int x3), some (.int x4)], [.int (bI (xhas x2 (x3 - x4)))], (hX I F sd))) (x := if (bI (xhas x2 (x3 - x4))) = 0 then .inl (18, [some (.ref 5), some (.int q), some (.int x2), some (.int x3), some (.int x4)], [], (hX I F sd)) else .inl (24, [some (.ref 5), some (.int q), some (.int x2), some (.int x3), some (.int x4)], [], (hX I F sd))) rfl rfl) ?_
    refine pm_rc (fun p2 => ?_) (fun p2 => ?_)
    · show pm_EV (pm_run mt (d + 4)) (some .int) oX0_astray (18, [some (.ref 5), some (.int q), some (.int x2), some (.int x3), some (.int x4)], [], (hX I F sd)) = _
      refine Eq.trans (b := pm_EV (pm_run mt (d + 4)) (some .int) oX0_astray (23, [some (.ref 5), some (.int q), some (.int x2), some (.int x3), some (.int x4)], [.int (bI (xhas x2 (x3 + x4)))], (hX I F sd))) (pm_EV_cl 4 (call := pm_run mt (d + 4)) (d := (22, [some (.ref 5), some (.int q), some (.int x2), some (.int x3), some (.int x4)], [.int (x3 + x4), .int x2], (hX I F sd))) (a := 103) (as := [.int x2, .int (x3 + x4)]) (hp := (hX I F sd)) (hp2 := (hX I F sd)) (i2 := 23) (ls := [some (.ref 5), some (.int q), some (.int x2), some (.int x3), some (.int x4)]) (rest := []) (r := some (.int (bI (xhas x2 (x3 + x4))))) rfl rfl (sp_X7_has (d + 2) I F sd x2 (x3 + x4) )) ?_
      refine Eq.trans (pm_EV_at 0 (d := (23, [some (.ref 5), some (.int q), some (.int x2), some (.int x3), some (.int x4)], [.int (bI (xhas x2 (x3 + x4)))], (hX I F sd))) (x := if (bI (xhas x2 (x3 + x4))) = 0 then .inl (26, [some (.ref 5), some (.int q), some (.int x2), some (.int x3), some (.int x4)], [], (hX I F sd)) else .inl (24, [some (.ref 5), some (.int q), some (.int x2), some (.int x3), some (.int x4)], [], (hX I F sd))) rfl rfl) ?_
      refine pm_rc (fun p3 => ?_) (fun p3 => ?_)
      · show pm_EV (pm_run mt (d + 4)) (some .int) oX0_astray (26, [some (.ref 5), some (.int q), some (.int x2), some (.int x3), some (.int x4)], [], (hX I F sd)) = _
        exact pm_EV_go 2 (d := (9, [some (.ref 5), some (.int q), some (.int x2), some (.int x3), some (.int (x4 + 1))], [], (hX I F sd))) rfl
      · show pm_EV (pm_run mt (d + 4)) (some .int) oX0_astray (24, [some (.ref 5), some (.int q), some (.int x2), some (.int x3), some (.int x4)], [], (hX I F sd)) = _
        exact pm_EV_at 1 (d := (25, [some (.ref 5), some (.int q), some (.int x2), some (.int x3), some (.int x4)], [.int x4], (hX I F sd))) rfl rfl
    · show pm_EV (pm_run mt (d + 4)) (some .int) oX0_astray (24, [some (.ref 5), some (.int q), some (.int x2), some (.int x3), some (.int x4)], [], (hX I F sd)) = _
      exact pm_EV_at 1 (d := (25, [some (.ref 5), some (.int q), some (.int x2), some (.int x3), some (.int x4)], [.int x4], (hX I F sd))) rfl rfl
  · show pm_EV (pm_run mt (d + 4)) (some .int) oX0_astray (28, [some (.ref 5), some (.int q), some (.int x2), some (.int x3), some (.int x4)], [], (hX I F sd)) = _
    exact pm_EV_at 1 (d := (29, [some (.ref 5), some (.int q), some (.int x2), some (.int x3), some (.int x4)], [.int (-9)], (hX I F sd))) rfl rfl
set_option maxRecDepth 100000 in
set_option maxHeartbeats 4000000 in
theorem en_X0_astray_5 (d : Nat) (I : Nat → Int32) (F : Nat → Nat → Int32) (sd : Int64) (q : Int32) : pm_run mt (d + 5) 29 [.ref 5, .int q] (hX I F sd) = pm_EV (pm_run mt (d + 4)) (some .int) oX0_astray (0, [some (.ref 5), some (.int q), none, none, none], [], (hX I F sd)) := rfl
set_option maxRecDepth 100000 in
set_option maxHeartbeats 4000000 in
theorem sp_X0_astray_5 (d : Nat) (I : Nat → Int32) (F : Nat → Nat → Int32) (sd : Int64) (q : Int32) (h1 : inr (F 6 23) 10 = true) : pm_run mt (d + 5) 29 [.ref 5, .int q] (hX I F sd) = some (some (.int (xastL (xant (F 6)) (hcell (F 6) (16 + q)) 10 0)), (hX I F sd)) := by
  rw [en_X0_astray_5, tr_X0_astray_5_0 _ _ _ _ _ h1]
  have key : ∀ (m k : Nat), k + m = 10 → pm_EV (pm_run mt (d + 4)) (some .int) oX0_astray (9, [some (.ref 5), some (.int q), some (.int (xant (F 6))), some (.int (hcell (F 6) (16 + q))), some (.int (nI k))], [], hX I F sd) = some (some (.int (xastL (xant (F 6)) (hcell (F 6) (16 + q)) m k)), hX I F sd) := by
    intro m
    induction m with
    | zero =>
      intro k hk
      obtain rfl : k = 10 := by omega
      rw [tr_X0_astray_5_9, if_neg (by decide), xastL]
    | succ m ih =>
      intro k hk
      rw [tr_X0_astray_5_9, if_pos (by rw [show (10 : Int32) = nI 10 from rfl, nI_ltI (by omega) (by decide)]; omega), nI_p1, xastL]
      simp only [bI_0]
      cases c1 : xhas (xant (F 6)) (hcell (F 6) (16 + q) - nI k) <;> cases c2 : xhas (xant (F 6)) (hcell (F 6) (16 + q) + nI k) <;> simp only [Bool.false_eq_true, Bool.true_eq_false, if_true, if_false]
      exact ih _ (by omega)
  exact key 10 0 rfl
