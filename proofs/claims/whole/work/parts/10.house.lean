/-! the class: its house, method by method -/
def hcell (f : Nat → Int32) (q : Int32) : Int32 := if q < 0 then 0 else if q < 28 then f q.toNatClampNeg else 0
def hset (f : Nat → Int32) (q v : Int32) : Nat → Int32 := if q < 0 then f else if q < 28 then upd f q.toNatClampNeg v else f
def inr (q n : Int32) : Bool := !decide (q < 0) && decide (q < n)
def xhas (b q : Int32) : Bool := inr q 10 && !decide ((b >>> (q &&& 31)) &&& 1 = 0)
theorem cl_lt {x : Int32} {k : Nat} (hk : k < 2 ^ 31) : nI k < x ↔ k < x.toNatClampNeg := by
  rcases Int32.lt_or_le x 0 with h | h
  · have h1 : x.toNatClampNeg = 0 := by
      rw [Int32.lt_iff_toInt_lt, Int32.toInt_zero] at h
      rw [Int32.toNatClampNeg]
      omega
    rw [h1]
    constructor
    · intro h2
      rw [Int32.lt_iff_toInt_lt, nI_toInt hk] at h2
      rw [Int32.lt_iff_toInt_lt, Int32.toInt_zero] at h
      omega
    · intro h2; omega
  · obtain ⟨j, hj, rfl⟩ := nI_of (Int32.not_lt.mpr h)
    rw [nI_ltI hk hj, nI_clamp hj]
theorem cl_bd (x : Int32) : x.toNatClampNeg < 2 ^ 31 := by
  rcases Int32.lt_or_le x 0 with h | h
  · rw [Int32.lt_iff_toInt_lt, Int32.toInt_zero] at h
    rw [Int32.toNatClampNeg]
    omega
  · obtain ⟨j, hj, rfl⟩ := nI_of (Int32.not_lt.mpr h)
    rw [nI_clamp hj]
    exact hj
theorem nI_p1 (k : Nat) : nI k + 1 = nI (k + 1) := nI_1 k
set_option maxRecDepth 100000 in
set_option maxHeartbeats 4000000 in
theorem tr_X7_isPlace_0 (d : Nat) (I : Nat → Int32) (F : Nat → Nat → Int32) (sd : Int64) (q : Int32) : pm_EV (pm_run mt (d + 0)) (some .boolean) oX7_isPlace (0, [some (.int q)], [], (hX I F sd)) = (if q < 0 then some (some (.int 0), (hX I F sd)) else (if q < 10 then some (some (.int 1), (hX I F sd)) else some (some (.int 0), (hX I F sd)))) := by
  refine Eq.trans (pm_EV_at 1 (d := (1, [some (.int q)], [.int q], (hX I F sd))) (x := if q < 0 then .inl (7, [some (.int q)], [], (hX I F sd)) else .inl (2, [some (.int q)], [], (hX I F sd))) rfl rfl) ?_
  refine pm_rc (fun p1 => ?_) (fun p1 => ?_)
  · show pm_EV (pm_run mt (d + 0)) (some .boolean) oX7_isPlace (7, [some (.int q)], [], (hX I F sd)) = _
    exact pm_EV_at 1 (d := (8, [some (.int q)], [.int 0], (hX I F sd))) rfl rfl
  · show pm_EV (pm_run mt (d + 0)) (some .boolean) oX7_isPlace (2, [some (.int q)], [], (hX I F sd)) = _
    refine Eq.trans (pm_EV_at 2 (d := (4, [some (.int q)], [.int 10, .int q], (hX I F sd))) (x := if q < 10 then .inl (5, [some (.int q)], [], (hX I F sd)) else .inl (7, [some (.int q)], [], (hX I F sd))) rfl rfl) ?_
    refine pm_rc (fun p2 => ?_) (fun p2 => ?_)
    · show pm_EV (pm_run mt (d + 0)) (some .boolean) oX7_isPlace (5, [some (.int q)], [], (hX I F sd)) = _
      exact pm_EV_at 2 (d := (8, [some (.int q)], [.int 1], (hX I F sd))) rfl rfl
    · show pm_EV (pm_run mt (d + 0)) (some .boolean) oX7_isPlace (7, [some (.int q)], [], (hX I F sd)) = _
      exact pm_EV_at 1 (d := (8, [some (.int q)], [.int 0], (hX I F sd))) rfl rfl
set_option maxRecDepth 100000 in
set_option maxHeartbeats 4000000 in
theorem en_X7_isPlace (d : Nat) (I : Nat → Int32) (F : Nat → Nat → Int32) (sd : Int64) (q : Int32) : pm_run mt (d + 1) 102 [.int q] (hX I F sd) = pm_EV (pm_run mt (d + 0)) (some .boolean) oX7_isPlace (0, [some (.int q)], [], (hX I F sd)) := rfl
set_option maxRecDepth 100000 in
set_option maxHeartbeats 4000000 in
theorem sp_X7_isPlace (d : Nat) (I : Nat → Int32) (F : Nat → Nat → Int32) (sd : Int64) (q : Int32) : pm_run mt (d + 1) 102 [.int q] (hX I F sd) = some (some (.int (bI (inr q 10))), (hX I F sd)) := by
  rw [en_X7_isPlace, tr_X7_isPlace_0]
  unfold inr bI
  by_cases e1 : q < 0
  · simp [e1]
  · by_cases e2 : q < 10 <;> simp [e1, e2]
set_option maxRecDepth 100000 in
set_option maxHeartbeats 4000000 in
theorem tr_X7_has_0 (d : Nat) (I : Nat → Int32) (F : Nat → Nat → Int32) (sd : Int64) (b : Int32) (q : Int32) : pm_EV (pm_run mt (d + 1)) (some .boolean) oX7_has (0, [some (.int b), some (.int q)], [], (hX I F sd)) = (if (bI (inr q 10)) = 0 then some (some (.int 0), (hX I F sd)) else (if ((b >>> (q &&& 31)) &&& (1 : Int32)) = 0 then some (some (.int 0), (hX I F sd)) else some (some (.int 1), (hX I F sd)))) := by
  refine Eq.trans (b := pm_EV (pm_run mt (d + 1)) (some .boolean) oX7_has (2, [some (.int b), some (.int q)], [.int (bI (inr q 10))], (hX I F sd))) (pm_EV_cl 1 (call := pm_run mt (d + 1)) (d := (1, [some (.int b), some (.int q)], [.int q], (hX I F sd))) (a := 102) (as := [.int q]) (hp := (hX I F sd)) (hp2 := (hX I F sd)) (i2 := 2) (ls := [some (.int b), some (.int q)]) (rest := []) (r := some (.int (bI (inr q 10)))) rfl rfl (sp_X7_isPlace (d + 0) I F sd q )) ?_
  refine Eq.trans (pm_EV_at 0 (d := (2, [some (.int b), some (.int q)], [.int (bI (inr q 10))], (hX I F sd))) (x := if (bI (inr q 10)) = 0 then .inl (11, [some (.int b), some (.int q)], [], (hX I F sd)) else .inl (3, [some (.int b), some (.int q)], [], (hX I F sd))) rfl rfl) ?_
  refine pm_rc (fun p1 => ?_) (fun p1 => ?_)
  · show pm_EV (pm_run mt (d + 1)) (some .boolean) oX7_has (11, [some (.int b), some (.int q)], [], (hX I F sd)) = _
    exact pm_EV_at 1 (d := (12, [some (.int b), some (.int q)], [.int 0], (hX I F sd))) rfl rfl
  · show pm_EV (pm_run mt (d + 1)) (some .boolean) oX7_has (3, [some (.int b), some (.int q)], [], (hX I F sd)) = _
    refine Eq.trans (pm_EV_at 5 (d := (8, [some (.int b), some (.int q)], [.int ((b >>> (q &&& 31)) &&& (1 : Int32))], (hX I F sd))) (x := if ((b >>> (q &&& 31)) &&& (1 : Int32)) = 0 then .inl (11, [some (.int b), some (.int q)], [], (hX I F sd)) else .inl (9, [some (.int b), some (.int q)], [], (hX I F sd))) rfl rfl) ?_
    refine pm_rc (fun p2 => ?_) (fun p2 => ?_)
    · show pm_EV (pm_run mt (d + 1)) (some .boolean) oX7_has (11, [some (.int b), some (.int q)], [], (hX I F sd)) = _
      exact pm_EV_at 1 (d := (12, [some (.int b), some (.int q)], [.int 0], (hX I F sd))) rfl rfl
    · show pm_EV (pm_run mt (d + 1)) (some .boolean) oX7_has (9, [some (.int b), some (.int q)], [], (hX I F sd)) = _
      exact pm_EV_at 2 (d := (12, [some (.int b), some (.int q)], [.int 1], (hX I F sd))) rfl rfl
set_option maxRecDepth 100000 in
set_option maxHeartbeats 4000000 in
theorem en_X7_has (d : Nat) (I : Nat → Int32) (F : Nat → Nat → Int32) (sd : Int64) (b : Int32) (q : Int32) : pm_run mt (d + 2) 103 [.int b, .int q] (hX I F sd) = pm_EV (pm_run mt (d + 1)) (some .boolean) oX7_has (0, [some (.int b), some (.int q)], [], (hX I F sd)) := rfl
set_option maxRecDepth 100000 in
set_option maxHeartbeats 4000000 in
theorem sp_X7_has (d : Nat) (I : Nat → Int32) (F : Nat → Nat → Int32) (sd : Int64) (b : Int32) (q : Int32) : pm_run mt (d + 2) 103 [.int b, .int q] (hX I F sd) = some (some (.int (bI (xhas b q))), (hX I F sd)) := by
  rw [en_X7_has, tr_X7_has_0]
  simp only [bI_0]
  unfold xhas
  cases e1 : inr q 10
  · rw [if_pos rfl]; rfl
  · rw [if_neg (by decide)]
    by_cases e2 : b >>> (q &&& 31) &&& 1 = 0
    · rw [if_pos e2]; simp [e2, bI]
    · rw [if_neg e2]; simp [e2, bI]
set_option maxRecDepth 100000 in
set_option maxHeartbeats 4000000 in
theorem tr_X0_cell_3_0 (d : Nat) (I : Nat → Int32) (F : Nat → Nat → Int32) (sd : Int64) (q : Int32) (g1 : (¬ (q < 0)) → (q < 28) → pm_in q 28 = true) : pm_EV (pm_run mt (d + 0)) (some .int) oX0_cell (0, [some (.ref 3), some (.int q)], [], (hX I F sd)) = (if q < 0 then some (some (.int 0), (hX I F sd)) else (if q < 28 then some (some (.int ((F 4) q.toNatClampNeg)), (hX I F sd)) else some (some (.int 0), (hX I F sd)))) := by
  refine Eq.trans (pm_EV_at 1 (d := (1, [some (.ref 3), some (.int q)], [.int q], (hX I F sd))) (x := if q < 0 then .inl (10, [some (.ref 3), some (.int q)], [], (hX I F sd)) else .inl (2, [some (.ref 3), some (.int q)], [], (hX I F sd))) rfl rfl) ?_
  refine pm_rc (fun p1 => ?_) (fun p1 => ?_)
  · show pm_EV (pm_run mt (d + 0)) (some .int) oX0_cell (10, [some (.ref 3), some (.int q)], [], (hX I F sd)) = _
    exact pm_EV_at 1 (d := (11, [some (.ref 3), some (.int q)], [.int 0], (hX I F sd))) rfl rfl
  · show pm_EV (pm_run mt (d + 0)) (some .int) oX0_cell (2, [some (.ref 3), some (.int q)], [], (hX I F sd)) = _
    refine Eq.trans (pm_EV_at 2 (d := (4, [some (.ref 3), some (.int q)], [.int 28, .int q], (hX I F sd))) (x := if q < 28 then .inl (5, [some (.ref 3), some (.int q)], [], (hX I F sd)) else .inl (10, [some (.ref 3), some (.int q)], [], (hX I F sd))) rfl rfl) ?_
    refine pm_rc (fun p2 => ?_) (fun p2 => ?_)
    · show pm_EV (pm_run mt (d + 0)) (some .int) oX0_cell (5, [some (.ref 3), some (.int q)], [], (hX I F sd)) = _
      refine Eq.trans (b := pm_EV (pm_run mt (d + 0)) (some .int) oX0_cell (9, [some (.ref 3), some (.int q)], [.int ((F 4) q.toNatClampNeg)], (hX I F sd))) (pm_EV_gd 3 (d := (8, [some (.ref 3), some (.int q)], [.int q, .ref 4], (hX I F sd))) (c1 := (9, [some (.ref 3), some (.int q)], [.int ((F 4) q.toNatClampNeg)], (hX I F sd))) rfl rfl (⟨rfl, g1 p1 p2⟩)) ?_
      exact pm_EV_at 1 (d := (11, [some (.ref 3), some (.int q)], [.int ((F 4) q.toNatClampNeg)], (hX I F sd))) rfl rfl
    · show pm_EV (pm_run mt (d + 0)) (some .int) oX0_cell (10, [some (.ref 3), some (.int q)], [], (hX I F sd)) = _
      exact pm_EV_at 1 (d := (11, [some (.ref 3), some (.int q)], [.int 0], (hX I F sd))) rfl rfl
set_option maxRecDepth 100000 in
set_option maxHeartbeats 4000000 in
theorem en_X0_cell_3 (d : Nat) (I : Nat → Int32) (F : Nat → Nat → Int32) (sd : Int64) (q : Int32) : pm_run mt (d + 1) 0 [.ref 3, .int q] (hX I F sd) = pm_EV (pm_run mt (d + 0)) (some .int) oX0_cell (0, [some (.ref 3), some (.int q)], [], (hX I F sd)) := rfl
set_option maxRecDepth 100000 in
set_option maxHeartbeats 4000000 in
theorem sp_X0_cell_3 (d : Nat) (I : Nat → Int32) (F : Nat → Nat → Int32) (sd : Int64) (q : Int32) : pm_run mt (d + 1) 0 [.ref 3, .int q] (hX I F sd) = some (some (.int (hcell (F 4) q)), (hX I F sd)) := by
  rw [en_X0_cell_3, tr_X0_cell_3_0 _ _ _ _ _ (fun a b => pm_in_lt rfl (by decide) a b)]
  unfold hcell
  by_cases e1 : q < 0
  · simp only [e1, if_true]
  · by_cases e2 : q < 28 <;> simp only [e1, e2, if_true, if_false]
set_option maxRecDepth 100000 in
set_option maxHeartbeats 4000000 in
theorem tr_X0_set_3_0 (d : Nat) (I : Nat → Int32) (F : Nat → Nat → Int32) (sd : Int64) (q : Int32) (v : Int32) (g1 : (¬ (q < 0)) → (q < 28) → pm_in q 28 = true) : pm_EV (pm_run mt (d + 0)) none oX0_set (0, [some (.ref 3), some (.int q), some (.int v)], [], (hX I F sd)) = (if q < 0 then some (none, (hX I F sd)) else (if q < 28 then some (none, (hX I (uF F 4 (upd (F 4) q.toNatClampNeg v)) sd)) else some (none, (hX I F sd)))) := by
  refine Eq.trans (pm_EV_at 1 (d := (1, [some (.ref 3), some (.int q), some (.int v)], [.int q], (hX I F sd))) (x := if q < 0 then .inl (10, [some (.ref 3), some (.int q), some (.int v)], [], (hX I F sd)) else .inl (2, [some (.ref 3), some (.int q), some (.int v)], [], (hX I F sd))) rfl rfl) ?_
  refine pm_rc (fun p1 => ?_) (fun p1 => ?_)
  · show pm_EV (pm_run mt (d + 0)) none oX0_set (10, [some (.ref 3), some (.int q), some (.int v)], [], (hX I F sd)) = _
    exact pm_EV_at 0 (d := (10, [some (.ref 3), some (.int q), some (.int v)], [], (hX I F sd))) rfl rfl
  · show pm_EV (pm_run mt (d + 0)) none oX0_set (2, [some (.ref 3), some (.int q), some (.int v)], [], (hX I F sd)) = _
    refine Eq.trans (pm_EV_at 2 (d := (4, [some (.ref 3), some (.int q), some (.int v)], [.int 28, .int q], (hX I F sd))) (x := if q < 28 then .inl (5, [some (.ref 3), some (.int q), some (.int v)], [], (hX I F sd)) else .inl (10, [some (.ref 3), some (.int q), some (.int v)], [], (hX I F sd))) rfl rfl) ?_
    refine pm_rc (fun p2 => ?_) (fun p2 => ?_)
    · show pm_EV (pm_run mt (d + 0)) none oX0_set (5, [some (.ref 3), some (.int q), some (.int v)], [], (hX I F sd)) = _
      refine Eq.trans (b := pm_EV (pm_run mt (d + 0)) none oX0_set (10, [some (.ref 3), some (.int q), some (.int v)], [], ((hX I F sd)).set 4 (.inl (0, 28, .inl (upd (F 4) q.toNatClampNeg v))))) (pm_EV_gd 4 (d := (9, [some (.ref 3), some (.int q), some (.int v)], [.int v, .int q, .ref 4], (hX I F sd))) (c1 := (10, [some (.ref 3), some (.int q), some (.int v)], [], ((hX I F sd)).set 4 (.inl (0, 28, .inl (upd (F 4) q.toNatClampNeg v))))) rfl rfl ⟨rfl, g1 p1 p2⟩) ?_
      refine Eq.trans (b := pm_EV (pm_run mt (d + 0)) none oX0_set (10, [some (.ref 3), some (.int q), some (.int v)], [], (hX I (uF F 4 (upd (F 4) q.toNatClampNeg v)) sd))) (congrArg (fun hz => pm_EV (pm_run mt (d + 0)) none oX0_set (10, [some (.ref 3), some (.int q), some (.int v)], [], hz)) (hX_s4 I F sd (upd (F 4) q.toNatClampNeg v))) ?_
      exact pm_EV_at 0 (d := (10, [some (.ref 3), some (.int q), some (.int v)], [], (hX I (uF F 4 (upd (F 4) q.toNatClampNeg v)) sd))) rfl rfl
    · show pm_EV (pm_run mt (d + 0)) none oX0_set (10, [some (.ref 3), some (.int q), some (.int v)], [], (hX I F sd)) = _
      exact pm_EV_at 0 (d := (10, [some (.ref 3), some (.int q), some (.int v)], [], (hX I F sd))) rfl rfl
set_option maxRecDepth 100000 in
set_option maxHeartbeats 4000000 in
theorem en_X0_set_3 (d : Nat) (I : Nat → Int32) (F : Nat → Nat → Int32) (sd : Int64) (q : Int32) (v : Int32) : pm_run mt (d + 1) 1 [.ref 3, .int q, .int v] (hX I F sd) = pm_EV (pm_run mt (d + 0)) none oX0_set (0, [some (.ref 3), some (.int q), some (.int v)], [], (hX I F sd)) := rfl
set_option maxRecDepth 100000 in
set_option maxHeartbeats 4000000 in
theorem sp_X0_set_3 (d : Nat) (I : Nat → Int32) (F : Nat → Nat → Int32) (sd : Int64) (q : Int32) (v : Int32) : pm_run mt (d + 1) 1 [.ref 3, .int q, .int v] (hX I F sd) = some (none, (hX I (uF F 4 (hset (F 4) q v)) sd)) := by
  rw [en_X0_set_3, tr_X0_set_3_0 _ _ _ _ _ _ (fun a b => pm_in_lt rfl (by decide) a b)]
  unfold hset
  by_cases e1 : q < 0
  · simp only [e1, if_true]
    rfl
  · by_cases e2 : q < 28 <;> simp only [e1, e2, if_true, if_false] <;> rfl
set_option maxRecDepth 100000 in
set_option maxHeartbeats 4000000 in
theorem tr_X0_add_3_0 (d : Nat) (I : Nat → Int32) (F : Nat → Nat → Int32) (sd : Int64) (q : Int32) (v : Int32) : pm_EV (pm_run mt (d + 1)) none oX0_add (0, [some (.ref 3), some (.int q), some (.int v)], [], (hX I F sd)) = some (none, (hX I (uF F 4 (hset ((F 4)) q ((hcell ((F 4)) q) + v))) sd)) := by
  refine Eq.trans (b := pm_EV (pm_run mt (d + 1)) none oX0_add (5, [some (.ref 3), some (.int q), some (.int v)], [.int (hcell ((F 4)) q), .int q, .ref 3], (hX I F sd))) (pm_EV_cl 4 (call := pm_run mt (d + 1)) (d := (4, [some (.ref 3), some (.int q), some (.int v)], [.int q, .ref 3, .int q, .ref 3], (hX I F sd))) (a := 0) (as := [.ref 3, .int q]) (hp := (hX I F sd)) (hp2 := (hX I F sd)) (i2 := 5) (ls := [some (.ref 3), some (.int q), some (.int v)]) (rest := [.int q, .ref 3]) (r := some (.int (hcell ((F 4)) q))) rfl rfl (sp_X0_cell_3 (d + 0) I F sd q )) ?_
  refine Eq.trans (b := pm_EV (pm_run mt (d + 1)) none oX0_add (8, [some (.ref 3), some (.int q), some (.int v)], [], (hX I (uF F 4 (hset ((F 4)) q ((hcell ((F 4)) q) + v))) sd))) (pm_EV_cl 2 (call := pm_run mt (d + 1)) (d := (7, [some (.ref 3), some (.int q), some (.int v)], [.int ((hcell ((F 4)) q) + v), .int q, .ref 3], (hX I F sd))) (a := 1) (as := [.ref 3, .int q, .int ((hcell ((F 4)) q) + v)]) (hp := (hX I F sd)) (hp2 := (hX I (uF F 4 (hset ((F 4)) q ((hcell ((F 4)) q) + v))) sd)) (i2 := 8) (ls := [some (.ref 3), some (.int q), some (.int v)]) (rest := []) (r := none) rfl rfl (sp_X0_set_3 (d + 0) I F sd q ((hcell ((F 4)) q) + v) )) ?_
  exact pm_EV_at 0 (d := (8, [some (.ref 3), some (.int q), some (.int v)], [], (hX I (uF F 4 (hset ((F 4)) q ((hcell ((F 4)) q) + v))) sd))) rfl rfl
set_option maxRecDepth 100000 in
set_option maxHeartbeats 4000000 in
theorem en_X0_add_3 (d : Nat) (I : Nat → Int32) (F : Nat → Nat → Int32) (sd : Int64) (q : Int32) (v : Int32) : pm_run mt (d + 2) 2 [.ref 3, .int q, .int v] (hX I F sd) = pm_EV (pm_run mt (d + 1)) none oX0_add (0, [some (.ref 3), some (.int q), some (.int v)], [], (hX I F sd)) := rfl
set_option maxRecDepth 100000 in
set_option maxHeartbeats 4000000 in
theorem sp_X0_add_3 (d : Nat) (I : Nat → Int32) (F : Nat → Nat → Int32) (sd : Int64) (q : Int32) (v : Int32) : pm_run mt (d + 2) 2 [.ref 3, .int q, .int v] (hX I F sd) = some (none, (hX I (uF F 4 (hset (F 4) q (hcell (F 4) q + v))) sd)) := by
  rw [en_X0_add_3, tr_X0_add_3_0]
set_option maxRecDepth 100000 in
set_option maxHeartbeats 4000000 in
theorem tr_X0_foods_3_0 (d : Nat) (I : Nat → Int32) (F : Nat → Nat → Int32) (sd : Int64) : pm_EV (pm_run mt (d + 0)) (some .int) oX0_foods (0, [some (.ref 3)], [], (hX I F sd)) = some (some (.int ((F 4) 21)), (hX I F sd)) := by
  exact pm_EV_at 4 (d := (4, [some (.ref 3)], [.int ((F 4) 21)], (hX I F sd))) rfl rfl
set_option maxRecDepth 100000 in
set_option maxHeartbeats 4000000 in
theorem en_X0_foods_3 (d : Nat) (I : Nat → Int32) (F : Nat → Nat → Int32) (sd : Int64) : pm_run mt (d + 1) 7 [.ref 3] (hX I F sd) = pm_EV (pm_run mt (d + 0)) (some .int) oX0_foods (0, [some (.ref 3)], [], (hX I F sd)) := rfl
set_option maxRecDepth 100000 in
set_option maxHeartbeats 4000000 in
theorem sp_X0_foods_3 (d : Nat) (I : Nat → Int32) (F : Nat → Nat → Int32) (sd : Int64) : pm_run mt (d + 1) 7 [.ref 3] (hX I F sd) = some (some (.int (F 4 21)), (hX I F sd)) := by
  rw [en_X0_foods_3, tr_X0_foods_3_0]
set_option maxRecDepth 100000 in
set_option maxHeartbeats 4000000 in
theorem tr_X0_things_3_0 (d : Nat) (I : Nat → Int32) (F : Nat → Nat → Int32) (sd : Int64) : pm_EV (pm_run mt (d + 0)) (some .int) oX0_things (0, [some (.ref 3)], [], (hX I F sd)) = some (some (.int ((F 4) 22)), (hX I F sd)) := by
  exact pm_EV_at 4 (d := (4, [some (.ref 3)], [.int ((F 4) 22)], (hX I F sd))) rfl rfl
set_option maxRecDepth 100000 in
set_option maxHeartbeats 4000000 in
theorem en_X0_things_3 (d : Nat) (I : Nat → Int32) (F : Nat → Nat → Int32) (sd : Int64) : pm_run mt (d + 1) 8 [.ref 3] (hX I F sd) = pm_EV (pm_run mt (d + 0)) (some .int) oX0_things (0, [some (.ref 3)], [], (hX I F sd)) := rfl
set_option maxRecDepth 100000 in
set_option maxHeartbeats 4000000 in
theorem sp_X0_things_3 (d : Nat) (I : Nat → Int32) (F : Nat → Nat → Int32) (sd : Int64) : pm_run mt (d + 1) 8 [.ref 3] (hX I F sd) = some (some (.int (F 4 22)), (hX I F sd)) := by
  rw [en_X0_things_3, tr_X0_things_3_0]
set_option maxRecDepth 100000 in
set_option maxHeartbeats 4000000 in
theorem tr_X0_skirting_3_0 (d : Nat) (I : Nat → Int32) (F : Nat → Nat → Int32) (sd : Int64) : pm_EV (pm_run mt (d + 0)) (some .int) oX0_skirting (0, [some (.ref 3)], [], (hX I F sd)) = some (some (.int ((F 4) 23)), (hX I F sd)) := by
  exact pm_EV_at 4 (d := (4, [some (.ref 3)], [.int ((F 4) 23)], (hX I F sd))) rfl rfl
set_option maxRecDepth 100000 in
set_option maxHeartbeats 4000000 in
theorem en_X0_skirting_3 (d : Nat) (I : Nat → Int32) (F : Nat → Nat → Int32) (sd : Int64) : pm_run mt (d + 1) 9 [.ref 3] (hX I F sd) = pm_EV (pm_run mt (d + 0)) (some .int) oX0_skirting (0, [some (.ref 3)], [], (hX I F sd)) := rfl
set_option maxRecDepth 100000 in
set_option maxHeartbeats 4000000 in
theorem sp_X0_skirting_3 (d : Nat) (I : Nat → Int32) (F : Nat → Nat → Int32) (sd : Int64) : pm_run mt (d + 1) 9 [.ref 3] (hX I F sd) = some (some (.int (F 4 23)), (hX I F sd)) := by
  rw [en_X0_skirting_3, tr_X0_skirting_3_0]
set_option maxRecDepth 100000 in
set_option maxHeartbeats 4000000 in
theorem tr_X0_goodwill_3_0 (d : Nat) (I : Nat → Int32) (F : Nat → Nat → Int32) (sd : Int64) : pm_EV (pm_run mt (d + 0)) (some .int) oX0_goodwill (0, [some (.ref 3)], [], (hX I F sd)) = some (some (.int ((F 4) 24)), (hX I F sd)) := by
  exact pm_EV_at 4 (d := (4, [some (.ref 3)], [.int ((F 4) 24)], (hX I F sd))) rfl rfl
set_option maxRecDepth 100000 in
set_option maxHeartbeats 4000000 in
theorem en_X0_goodwill_3 (d : Nat) (I : Nat → Int32) (F : Nat → Nat → Int32) (sd : Int64) : pm_run mt (d + 1) 10 [.ref 3] (hX I F sd) = pm_EV (pm_run mt (d + 0)) (some .int) oX0_goodwill (0, [some (.ref 3)], [], (hX I F sd)) := rfl
set_option maxRecDepth 100000 in
set_option maxHeartbeats 4000000 in
theorem sp_X0_goodwill_3 (d : Nat) (I : Nat → Int32) (F : Nat → Nat → Int32) (sd : Int64) : pm_run mt (d + 1) 10 [.ref 3] (hX I F sd) = some (some (.int (F 4 24)), (hX I F sd)) := by
  rw [en_X0_goodwill_3, tr_X0_goodwill_3_0]
set_option maxRecDepth 100000 in
set_option maxHeartbeats 4000000 in
theorem tr_X0_pins_3_0 (d : Nat) (I : Nat → Int32) (F : Nat → Nat → Int32) (sd : Int64) : pm_EV (pm_run mt (d + 0)) (some .int) oX0_pins (0, [some (.ref 3)], [], (hX I F sd)) = some (some (.int ((F 4) 25)), (hX I F sd)) := by
  exact pm_EV_at 4 (d := (4, [some (.ref 3)], [.int ((F 4) 25)], (hX I F sd))) rfl rfl
set_option maxRecDepth 100000 in
set_option maxHeartbeats 4000000 in
theorem en_X0_pins_3 (d : Nat) (I : Nat → Int32) (F : Nat → Nat → Int32) (sd : Int64) : pm_run mt (d + 1) 11 [.ref 3] (hX I F sd) = pm_EV (pm_run mt (d + 0)) (some .int) oX0_pins (0, [some (.ref 3)], [], (hX I F sd)) := rfl
set_option maxRecDepth 100000 in
set_option maxHeartbeats 4000000 in
theorem sp_X0_pins_3 (d : Nat) (I : Nat → Int32) (F : Nat → Nat → Int32) (sd : Int64) : pm_run mt (d + 1) 11 [.ref 3] (hX I F sd) = some (some (.int (F 4 25)), (hX I F sd)) := by
  rw [en_X0_pins_3, tr_X0_pins_3_0]
set_option maxRecDepth 100000 in
set_option maxHeartbeats 4000000 in
theorem tr_X0_powder_3_0 (d : Nat) (I : Nat → Int32) (F : Nat → Nat → Int32) (sd : Int64) : pm_EV (pm_run mt (d + 0)) (some .int) oX0_powder (0, [some (.ref 3)], [], (hX I F sd)) = some (some (.int ((F 4) 26)), (hX I F sd)) := by
  exact pm_EV_at 4 (d := (4, [some (.ref 3)], [.int ((F 4) 26)], (hX I F sd))) rfl rfl
set_option maxRecDepth 100000 in
set_option maxHeartbeats 4000000 in
theorem en_X0_powder_3 (d : Nat) (I : Nat → Int32) (F : Nat → Nat → Int32) (sd : Int64) : pm_run mt (d + 1) 12 [.ref 3] (hX I F sd) = pm_EV (pm_run mt (d + 0)) (some .int) oX0_powder (0, [some (.ref 3)], [], (hX I F sd)) := rfl
set_option maxRecDepth 100000 in
set_option maxHeartbeats 4000000 in
theorem sp_X0_powder_3 (d : Nat) (I : Nat → Int32) (F : Nat → Nat → Int32) (sd : Int64) : pm_run mt (d + 1) 12 [.ref 3] (hX I F sd) = some (some (.int (F 4 26)), (hX I F sd)) := by
  rw [en_X0_powder_3, tr_X0_powder_3_0]
set_option maxRecDepth 100000 in
set_option maxHeartbeats 4000000 in
theorem tr_X0_quartersGone_3_0 (d : Nat) (I : Nat → Int32) (F : Nat → Nat → Int32) (sd : Int64) : pm_EV (pm_run mt (d + 0)) (some .int) oX0_quartersGone (0, [some (.ref 3)], [], (hX I F sd)) = some (some (.int ((F 4) 27)), (hX I F sd)) := by
  exact pm_EV_at 4 (d := (4, [some (.ref 3)], [.int ((F 4) 27)], (hX I F sd))) rfl rfl
set_option maxRecDepth 100000 in
set_option maxHeartbeats 4000000 in
theorem en_X0_quartersGone_3 (d : Nat) (I : Nat → Int32) (F : Nat → Nat → Int32) (sd : Int64) : pm_run mt (d + 1) 13 [.ref 3] (hX I F sd) = pm_EV (pm_run mt (d + 0)) (some .int) oX0_quartersGone (0, [some (.ref 3)], [], (hX I F sd)) := rfl
set_option maxRecDepth 100000 in
set_option maxHeartbeats 4000000 in
theorem sp_X0_quartersGone_3 (d : Nat) (I : Nat → Int32) (F : Nat → Nat → Int32) (sd : Int64) : pm_run mt (d + 1) 13 [.ref 3] (hX I F sd) = some (some (.int (F 4 27)), (hX I F sd)) := by
  rw [en_X0_quartersGone_3, tr_X0_quartersGone_3_0]
set_option maxRecDepth 100000 in
set_option maxHeartbeats 4000000 in
theorem tr_X0_hasFood_3_0 (d : Nat) (I : Nat → Int32) (F : Nat → Nat → Int32) (sd : Int64) (q : Int32) : pm_EV (pm_run mt (d + 1)) (some .boolean) oX0_hasFood (0, [some (.ref 3), some (.int q)], [], (hX I F sd)) = (if q < 0 then some (some (.int 0), (hX I F sd)) else (if q < ((F 4) 21) then some (some (.int 1), (hX I F sd)) else some (some (.int 0), (hX I F sd)))) := by
  refine Eq.trans (pm_EV_at 1 (d := (1, [some (.ref 3), some (.int q)], [.int q], (hX I F sd))) (x := if q < 0 then .inl (8, [some (.ref 3), some (.int q)], [], (hX I F sd)) else .inl (2, [some (.ref 3), some (.int q)], [], (hX I F sd))) rfl rfl) ?_
  refine pm_rc (fun p1 => ?_) (fun p1 => ?_)
  · show pm_EV (pm_run mt (d + 1)) (some .boolean) oX0_hasFood (8, [some (.ref 3), some (.int q)], [], (hX I F sd)) = _
    exact pm_EV_at 1 (d := (9, [some (.ref 3), some (.int q)], [.int 0], (hX I F sd))) rfl rfl
  · show pm_EV (pm_run mt (d + 1)) (some .boolean) oX0_hasFood (2, [some (.ref 3), some (.int q)], [], (hX I F sd)) = _
    refine Eq.trans (b := pm_EV (pm_run mt (d + 1)) (some .boolean) oX0_hasFood (5, [some (.ref 3), some (.int q)], [.int ((F 4) 21), .int q], (hX I F sd))) (pm_EV_cl 2 (call := pm_run mt (d + 1)) (d := (4, [some (.ref 3), some (.int q)], [.ref 3, .int q], (hX I F sd))) (a := 7) (as := [.ref 3]) (hp := (hX I F sd)) (hp2 := (hX I F sd)) (i2 := 5) (ls := [some (.ref 3), some (.int q)]) (rest := [.int q]) (r := some (.int ((F 4) 21))) rfl rfl (sp_X0_foods_3 (d + 0) I F sd  )) ?_
    refine Eq.trans (pm_EV_at 0 (d := (5, [some (.ref 3), some (.int q)], [.int ((F 4) 21), .int q], (hX I F sd))) (x := if q < ((F 4) 21) then .inl (6, [some (.ref 3), some (.int q)], [], (hX I F sd)) else .inl (8, [some (.ref 3), some (.int q)], [], (hX I F sd))) rfl rfl) ?_
    refine pm_rc (fun p2 => ?_) (fun p2 => ?_)
    · show pm_EV (pm_run mt (d + 1)) (some .boolean) oX0_hasFood (6, [some (.ref 3), some (.int q)], [], (hX I F sd)) = _
      exact pm_EV_at 2 (d := (9, [some (.ref 3), some (.int q)], [.int 1], (hX I F sd))) rfl rfl
    · show pm_EV (pm_run mt (d + 1)) (some .boolean) oX0_hasFood (8, [some (.ref 3), some (.int q)], [], (hX I F sd)) = _
      exact pm_EV_at 1 (d := (9, [some (.ref 3), some (.int q)], [.int 0], (hX I F sd))) rfl rfl
set_option maxRecDepth 100000 in
set_option maxHeartbeats 4000000 in
theorem en_X0_hasFood_3 (d : Nat) (I : Nat → Int32) (F : Nat → Nat → Int32) (sd : Int64) (q : Int32) : pm_run mt (d + 2) 14 [.ref 3, .int q] (hX I F sd) = pm_EV (pm_run mt (d + 1)) (some .boolean) oX0_hasFood (0, [some (.ref 3), some (.int q)], [], (hX I F sd)) := rfl
set_option maxRecDepth 100000 in
set_option maxHeartbeats 4000000 in
theorem sp_X0_hasFood_3 (d : Nat) (I : Nat → Int32) (F : Nat → Nat → Int32) (sd : Int64) (q : Int32) : pm_run mt (d + 2) 14 [.ref 3, .int q] (hX I F sd) = some (some (.int (bI (inr q (F 4 21)))), (hX I F sd)) := by
  rw [en_X0_hasFood_3, tr_X0_hasFood_3_0]
  unfold inr bI
  by_cases e1 : q < 0
  · simp [e1]
  · by_cases e2 : q < F 4 21 <;> simp [e1, e2]
set_option maxRecDepth 100000 in
set_option maxHeartbeats 4000000 in
theorem tr_X0_hasThing_3_0 (d : Nat) (I : Nat → Int32) (F : Nat → Nat → Int32) (sd : Int64) (q : Int32) : pm_EV (pm_run mt (d + 1)) (some .boolean) oX0_hasThing (0, [some (.ref 3), some (.int q)], [], (hX I F sd)) = (if q < 0 then some (some (.int 0), (hX I F sd)) else (if q < ((F 4) 22) then some (some (.int 1), (hX I F sd)) else some (some (.int 0), (hX I F sd)))) := by
  refine Eq.trans (pm_EV_at 1 (d := (1, [some (.ref 3), some (.int q)], [.int q], (hX I F sd))) (x := if q < 0 then .inl (8, [some (.ref 3), some (.int q)], [], (hX I F sd)) else .inl (2, [some (.ref 3), some (.int q)], [], (hX I F sd))) rfl rfl) ?_
  refine pm_rc (fun p1 => ?_) (fun p1 => ?_)
  · show pm_EV (pm_run mt (d + 1)) (some .boolean) oX0_hasThing (8, [some (.ref 3), some (.int q)], [], (hX I F sd)) = _
    exact pm_EV_at 1 (d := (9, [some (.ref 3), some (.int q)], [.int 0], (hX I F sd))) rfl rfl
  · show pm_EV (pm_run mt (d + 1)) (some .boolean) oX0_hasThing (2, [some (.ref 3), some (.int q)], [], (hX I F sd)) = _
    refine Eq.trans (b := pm_EV (pm_run mt (d + 1)) (some .boolean) oX0_hasThing (5, [some (.ref 3), some (.int q)], [.int ((F 4) 22), .int q], (hX I F sd))) (pm_EV_cl 2 (call := pm_run mt (d + 1)) (d := (4, [some (.ref 3), some (.int q)], [.ref 3, .int q], (hX I F sd))) (a := 8) (as := [.ref 3]) (hp := (hX I F sd)) (hp2 := (hX I F sd)) (i2 := 5) (ls := [some (.ref 3), some (.int q)]) (rest := [.int q]) (r := some (.int ((F 4) 22))) rfl rfl (sp_X0_things_3 (d + 0) I F sd  )) ?_
    refine Eq.trans (pm_EV_at 0 (d := (5, [some (.ref 3), some (.int q)], [.int ((F 4) 22), .int q], (hX I F sd))) (x := if q < ((F 4) 22) then .inl (6, [some (.ref 3), some (.int q)], [], (hX I F sd)) else .inl (8, [some (.ref 3), some (.int q)], [], (hX I F sd))) rfl rfl) ?_
    refine pm_rc (fun p2 => ?_) (fun p2 => ?_)
    · show pm_EV (pm_run mt (d + 1)) (some .boolean) oX0_hasThing (6, [some (.ref 3), some (.int q)], [], (hX I F sd)) = _
      exact pm_EV_at 2 (d := (9, [some (.ref 3), some (.int q)], [.int 1], (hX I F sd))) rfl rfl
    · show pm_EV (pm_run mt (d + 1)) (some .boolean) oX0_hasThing (8, [some (.ref 3), some (.int q)], [], (hX I F sd)) = _
      exact pm_EV_at 1 (d := (9, [some (.ref 3), some (.int q)], [.int 0], (hX I F sd))) rfl rfl
set_option maxRecDepth 100000 in
set_option maxHeartbeats 4000000 in
theorem en_X0_hasThing_3 (d : Nat) (I : Nat → Int32) (F : Nat → Nat → Int32) (sd : Int64) (q : Int32) : pm_run mt (d + 2) 15 [.ref 3, .int q] (hX I F sd) = pm_EV (pm_run mt (d + 1)) (some .boolean) oX0_hasThing (0, [some (.ref 3), some (.int q)], [], (hX I F sd)) := rfl
set_option maxRecDepth 100000 in
set_option maxHeartbeats 4000000 in
theorem sp_X0_hasThing_3 (d : Nat) (I : Nat → Int32) (F : Nat → Nat → Int32) (sd : Int64) (q : Int32) : pm_run mt (d + 2) 15 [.ref 3, .int q] (hX I F sd) = some (some (.int (bI (inr q (F 4 22)))), (hX I F sd)) := by
  rw [en_X0_hasThing_3, tr_X0_hasThing_3_0]
  unfold inr bI
  by_cases e1 : q < 0
  · simp [e1]
  · by_cases e2 : q < F 4 22 <;> simp [e1, e2]
set_option maxRecDepth 100000 in
set_option maxHeartbeats 4000000 in
theorem tr_X0_kind_3_0 (d : Nat) (I : Nat → Int32) (F : Nat → Nat → Int32) (sd : Int64) (q : Int32) : pm_EV (pm_run mt (d + 1)) (some .int) oX0_kind (0, [some (.ref 3), some (.int q)], [], (hX I F sd)) = some (some (.int (hcell ((F 4)) (0 + q))), (hX I F sd)) := by
  refine Eq.trans (b := pm_EV (pm_run mt (d + 1)) (some .int) oX0_kind (5, [some (.ref 3), some (.int q)], [.int (hcell ((F 4)) (0 + q))], (hX I F sd))) (pm_EV_cl 4 (call := pm_run mt (d + 1)) (d := (4, [some (.ref 3), some (.int q)], [.int (0 + q), .ref 3], (hX I F sd))) (a := 0) (as := [.ref 3, .int (0 + q)]) (hp := (hX I F sd)) (hp2 := (hX I F sd)) (i2 := 5) (ls := [some (.ref 3), some (.int q)]) (rest := []) (r := some (.int (hcell ((F 4)) (0 + q)))) rfl rfl (sp_X0_cell_3 (d + 0) I F sd (0 + q) )) ?_
  exact pm_EV_at 0 (d := (5, [some (.ref 3), some (.int q)], [.int (hcell ((F 4)) (0 + q))], (hX I F sd))) rfl rfl
set_option maxRecDepth 100000 in
set_option maxHeartbeats 4000000 in
theorem en_X0_kind_3 (d : Nat) (I : Nat → Int32) (F : Nat → Nat → Int32) (sd : Int64) (q : Int32) : pm_run mt (d + 2) 16 [.ref 3, .int q] (hX I F sd) = pm_EV (pm_run mt (d + 1)) (some .int) oX0_kind (0, [some (.ref 3), some (.int q)], [], (hX I F sd)) := rfl
set_option maxRecDepth 100000 in
set_option maxHeartbeats 4000000 in
theorem sp_X0_kind_3 (d : Nat) (I : Nat → Int32) (F : Nat → Nat → Int32) (sd : Int64) (q : Int32) : pm_run mt (d + 2) 16 [.ref 3, .int q] (hX I F sd) = some (some (.int (hcell (F 4) (0 + q))), (hX I F sd)) := by
  rw [en_X0_kind_3, tr_X0_kind_3_0]
set_option maxRecDepth 100000 in
set_option maxHeartbeats 4000000 in
theorem tr_X0_inLarder_3_0 (d : Nat) (I : Nat → Int32) (F : Nat → Nat → Int32) (sd : Int64) (q : Int32) : pm_EV (pm_run mt (d + 1)) (some .int) oX0_inLarder (0, [some (.ref 3), some (.int q)], [], (hX I F sd)) = some (some (.int (hcell ((F 4)) (4 + q))), (hX I F sd)) := by
  refine Eq.trans (b := pm_EV (pm_run mt (d + 1)) (some .int) oX0_inLarder (5, [some (.ref 3), some (.int q)], [.int (hcell ((F 4)) (4 + q))], (hX I F sd))) (pm_EV_cl 4 (call := pm_run mt (d + 1)) (d := (4, [some (.ref 3), some (.int q)], [.int (4 + q), .ref 3], (hX I F sd))) (a := 0) (as := [.ref 3, .int (4 + q)]) (hp := (hX I F sd)) (hp2 := (hX I F sd)) (i2 := 5) (ls := [some (.ref 3), some (.int q)]) (rest := []) (r := some (.int (hcell ((F 4)) (4 + q)))) rfl rfl (sp_X0_cell_3 (d + 0) I F sd (4 + q) )) ?_
  exact pm_EV_at 0 (d := (5, [some (.ref 3), some (.int q)], [.int (hcell ((F 4)) (4 + q))], (hX I F sd))) rfl rfl
set_option maxRecDepth 100000 in
set_option maxHeartbeats 4000000 in
theorem en_X0_inLarder_3 (d : Nat) (I : Nat → Int32) (F : Nat → Nat → Int32) (sd : Int64) (q : Int32) : pm_run mt (d + 2) 17 [.ref 3, .int q] (hX I F sd) = pm_EV (pm_run mt (d + 1)) (some .int) oX0_inLarder (0, [some (.ref 3), some (.int q)], [], (hX I F sd)) := rfl
set_option maxRecDepth 100000 in
set_option maxHeartbeats 4000000 in
theorem sp_X0_inLarder_3 (d : Nat) (I : Nat → Int32) (F : Nat → Nat → Int32) (sd : Int64) (q : Int32) : pm_run mt (d + 2) 17 [.ref 3, .int q] (hX I F sd) = some (some (.int (hcell (F 4) (4 + q))), (hX I F sd)) := by
  rw [en_X0_inLarder_3, tr_X0_inLarder_3_0]
set_option maxRecDepth 100000 in
set_option maxHeartbeats 4000000 in
theorem tr_X0_onFloor_3_0 (d : Nat) (I : Nat → Int32) (F : Nat → Nat → Int32) (sd : Int64) (q : Int32) : pm_EV (pm_run mt (d + 1)) (some .int) oX0_onFloor (0, [some (.ref 3), some (.int q)], [], (hX I F sd)) = some (some (.int (hcell ((F 4)) (8 + q))), (hX I F sd)) := by
  refine Eq.trans (b := pm_EV (pm_run mt (d + 1)) (some .int) oX0_onFloor (5, [some (.ref 3), some (.int q)], [.int (hcell ((F 4)) (8 + q))], (hX I F sd))) (pm_EV_cl 4 (call := pm_run mt (d + 1)) (d := (4, [some (.ref 3), some (.int q)], [.int (8 + q), .ref 3], (hX I F sd))) (a := 0) (as := [.ref 3, .int (8 + q)]) (hp := (hX I F sd)) (hp2 := (hX I F sd)) (i2 := 5) (ls := [some (.ref 3), some (.int q)]) (rest := []) (r := some (.int (hcell ((F 4)) (8 + q)))) rfl rfl (sp_X0_cell_3 (d + 0) I F sd (8 + q) )) ?_
  exact pm_EV_at 0 (d := (5, [some (.ref 3), some (.int q)], [.int (hcell ((F 4)) (8 + q))], (hX I F sd))) rfl rfl
set_option maxRecDepth 100000 in
set_option maxHeartbeats 4000000 in
theorem en_X0_onFloor_3 (d : Nat) (I : Nat → Int32) (F : Nat → Nat → Int32) (sd : Int64) (q : Int32) : pm_run mt (d + 2) 18 [.ref 3, .int q] (hX I F sd) = pm_EV (pm_run mt (d + 1)) (some .int) oX0_onFloor (0, [some (.ref 3), some (.int q)], [], (hX I F sd)) := rfl
set_option maxRecDepth 100000 in
set_option maxHeartbeats 4000000 in
theorem sp_X0_onFloor_3 (d : Nat) (I : Nat → Int32) (F : Nat → Nat → Int32) (sd : Int64) (q : Int32) : pm_run mt (d + 2) 18 [.ref 3, .int q] (hX I F sd) = some (some (.int (hcell (F 4) (8 + q))), (hX I F sd)) := by
  rw [en_X0_onFloor_3, tr_X0_onFloor_3_0]
set_option maxRecDepth 100000 in
set_option maxHeartbeats 4000000 in
theorem tr_X0_newlyPut_3_0 (d : Nat) (I : Nat → Int32) (F : Nat → Nat → Int32) (sd : Int64) (q : Int32) : pm_EV (pm_run mt (d + 1)) (some .int) oX0_newlyPut (0, [some (.ref 3), some (.int q)], [], (hX I F sd)) = some (some (.int (hcell ((F 4)) (12 + q))), (hX I F sd)) := by
  refine Eq.trans (b := pm_EV (pm_run mt (d + 1)) (some .int) oX0_newlyPut (5, [some (.ref 3), some (.int q)], [.int (hcell ((F 4)) (12 + q))], (hX I F sd))) (pm_EV_cl 4 (call := pm_run mt (d + 1)) (d := (4, [some (.ref 3), some (.int q)], [.int (12 + q), .ref 3], (hX I F sd))) (a := 0) (as := [.ref 3, .int (12 + q)]) (hp := (hX I F sd)) (hp2 := (hX I F sd)) (i2 := 5) (ls := [some (.ref 3), some (.int q)]) (rest := []) (r := some (.int (hcell ((F 4)) (12 + q)))) rfl rfl (sp_X0_cell_3 (d + 0) I F sd (12 + q) )) ?_
  exact pm_EV_at 0 (d := (5, [some (.ref 3), some (.int q)], [.int (hcell ((F 4)) (12 + q))], (hX I F sd))) rfl rfl
set_option maxRecDepth 100000 in
set_option maxHeartbeats 4000000 in
theorem en_X0_newlyPut_3 (d : Nat) (I : Nat → Int32) (F : Nat → Nat → Int32) (sd : Int64) (q : Int32) : pm_run mt (d + 2) 19 [.ref 3, .int q] (hX I F sd) = pm_EV (pm_run mt (d + 1)) (some .int) oX0_newlyPut (0, [some (.ref 3), some (.int q)], [], (hX I F sd)) := rfl
set_option maxRecDepth 100000 in
set_option maxHeartbeats 4000000 in
theorem sp_X0_newlyPut_3 (d : Nat) (I : Nat → Int32) (F : Nat → Nat → Int32) (sd : Int64) (q : Int32) : pm_run mt (d + 2) 19 [.ref 3, .int q] (hX I F sd) = some (some (.int (hcell (F 4) (12 + q))), (hX I F sd)) := by
  rw [en_X0_newlyPut_3, tr_X0_newlyPut_3_0]
set_option maxRecDepth 100000 in
set_option maxHeartbeats 4000000 in
theorem tr_X0_placeOf_3_0 (d : Nat) (I : Nat → Int32) (F : Nat → Nat → Int32) (sd : Int64) (q : Int32) : pm_EV (pm_run mt (d + 1)) (some .int) oX0_placeOf (0, [some (.ref 3), some (.int q)], [], (hX I F sd)) = some (some (.int (hcell ((F 4)) (16 + q))), (hX I F sd)) := by
  refine Eq.trans (b := pm_EV (pm_run mt (d + 1)) (some .int) oX0_placeOf (5, [some (.ref 3), some (.int q)], [.int (hcell ((F 4)) (16 + q))], (hX I F sd))) (pm_EV_cl 4 (call := pm_run mt (d + 1)) (d := (4, [some (.ref 3), some (.int q)], [.int (16 + q), .ref 3], (hX I F sd))) (a := 0) (as := [.ref 3, .int (16 + q)]) (hp := (hX I F sd)) (hp2 := (hX I F sd)) (i2 := 5) (ls := [some (.ref 3), some (.int q)]) (rest := []) (r := some (.int (hcell ((F 4)) (16 + q)))) rfl rfl (sp_X0_cell_3 (d + 0) I F sd (16 + q) )) ?_
  exact pm_EV_at 0 (d := (5, [some (.ref 3), some (.int q)], [.int (hcell ((F 4)) (16 + q))], (hX I F sd))) rfl rfl
set_option maxRecDepth 100000 in
set_option maxHeartbeats 4000000 in
theorem en_X0_placeOf_3 (d : Nat) (I : Nat → Int32) (F : Nat → Nat → Int32) (sd : Int64) (q : Int32) : pm_run mt (d + 2) 20 [.ref 3, .int q] (hX I F sd) = pm_EV (pm_run mt (d + 1)) (some .int) oX0_placeOf (0, [some (.ref 3), some (.int q)], [], (hX I F sd)) := rfl
set_option maxRecDepth 100000 in
set_option maxHeartbeats 4000000 in
theorem sp_X0_placeOf_3 (d : Nat) (I : Nat → Int32) (F : Nat → Nat → Int32) (sd : Int64) (q : Int32) : pm_run mt (d + 2) 20 [.ref 3, .int q] (hX I F sd) = some (some (.int (hcell (F 4) (16 + q))), (hX I F sd)) := by
  rw [en_X0_placeOf_3, tr_X0_placeOf_3_0]
set_option maxRecDepth 100000 in
set_option maxHeartbeats 4000000 in
theorem tr_X0_cell_5_0 (d : Nat) (I : Nat → Int32) (F : Nat → Nat → Int32) (sd : Int64) (q : Int32) (g1 : (¬ (q < 0)) → (q < 28) → pm_in q 28 = true) : pm_EV (pm_run mt (d + 0)) (some .int) oX0_cell (0, [some (.ref 5), some (.int q)], [], (hX I F sd)) = (if q < 0 then some (some (.int 0), (hX I F sd)) else (if q < 28 then some (some (.int ((F 6) q.toNatClampNeg)), (hX I F sd)) else some (some (.int 0), (hX I F sd)))) := by
  refine Eq.trans (pm_EV_at 1 (d := (1, [some (.ref 5), some (.int q)], [.int q], (hX I F sd))) (x := if q < 0 then .inl (10, [some (.ref 5), some (.int q)], [], (hX I F sd)) else .inl (2, [some (.ref 5), some (.int q)], [], (hX I F sd))) rfl rfl) ?_
  refine pm_rc (fun p1 => ?_) (fun p1 => ?_)
  · show pm_EV (pm_run mt (d + 0)) (some .int) oX0_cell (10, [some (.ref 5), some (.int q)], [], (hX I F sd)) = _
    exact pm_EV_at 1 (d := (11, [some (.ref 5), some (.int q)], [.int 0], (hX I F sd))) rfl rfl
  · show pm_EV (pm_run mt (d + 0)) (some .int) oX0_cell (2, [some (.ref 5), some (.int q)], [], (hX I F sd)) = _
    refine Eq.trans (pm_EV_at 2 (d := (4, [some (.ref 5), some (.int q)], [.int 28, .int q], (hX I F sd))) (x := if q < 28 then .inl (5, [some (.ref 5), some (.int q)], [], (hX I F sd)) else .inl (10, [some (.ref 5), some (.int q)], [], (hX I F sd))) rfl rfl) ?_
    refine pm_rc (fun p2 => ?_) (fun p2 => ?_)
    · show pm_EV (pm_run mt (d + 0)) (some .int) oX0_cell (5, [some (.ref 5), some (.int q)], [], (hX I F sd)) = _
      refine Eq.trans (b := pm_EV (pm_run mt (d + 0)) (some .int) oX0_cell (9, [some (.ref 5), some (.int q)], [.int ((F 6) q.toNatClampNeg)], (hX I F sd))) (pm_EV_gd 3 (d := (8, [some (.ref 5), some (.int q)], [.int q, .ref 6], (hX I F sd))) (c1 := (9, [some (.ref 5), some (.int q)], [.int ((F 6) q.toNatClampNeg)], (hX I F sd))) rfl rfl (⟨rfl, g1 p1 p2⟩)) ?_
      exact pm_EV_at 1 (d := (11, [some (.ref 5), some (.int q)], [.int ((F 6) q.toNatClampNeg)], (hX I F sd))) rfl rfl
    · show pm_EV (pm_run mt (d + 0)) (some .int) oX0_cell (10, [some (.ref 5), some (.int q)], [], (hX I F sd)) = _
      exact pm_EV_at 1 (d := (11, [some (.ref 5), some (.int q)], [.int 0], (hX I F sd))) rfl rfl
set_option maxRecDepth 100000 in
set_option maxHeartbeats 4000000 in
theorem en_X0_cell_5 (d : Nat) (I : Nat → Int32) (F : Nat → Nat → Int32) (sd : Int64) (q : Int32) : pm_run mt (d + 1) 0 [.ref 5, .int q] (hX I F sd) = pm_EV (pm_run mt (d + 0)) (some .int) oX0_cell (0, [some (.ref 5), some (.int q)], [], (hX I F sd)) := rfl
set_option maxRecDepth 100000 in
set_option maxHeartbeats 4000000 in
theorem sp_X0_cell_5 (d : Nat) (I : Nat → Int32) (F : Nat → Nat → Int32) (sd : Int64) (q : Int32) : pm_run mt (d + 1) 0 [.ref 5, .int q] (hX I F sd) = some (some (.int (hcell (F 6) q)), (hX I F sd)) := by
  rw [en_X0_cell_5, tr_X0_cell_5_0 _ _ _ _ _ (fun a b => pm_in_lt rfl (by decide) a b)]
  unfold hcell
  by_cases e1 : q < 0
  · simp only [e1, if_true]
  · by_cases e2 : q < 28 <;> simp only [e1, e2, if_true, if_false]
set_option maxRecDepth 100000 in
set_option maxHeartbeats 4000000 in
theorem tr_X0_set_5_0 (d : Nat) (I : Nat → Int32) (F : Nat → Nat → Int32) (sd : Int64) (q : Int32) (v : Int32) (g1 : (¬ (q < 0)) → (q < 28) → pm_in q 28 = true) : pm_EV (pm_run mt (d + 0)) none oX0_set (0, [some (.ref 5), some (.int q), some (.int v)], [], (hX I F sd)) = (if q < 0 then some (none, (hX I F sd)) else (if q < 28 then some (none, (hX I (uF F 6 (upd (F 6) q.toNatClampNeg v)) sd)) else some (none, (hX I F sd)))) := by
  refine Eq.trans (pm_EV_at 1 (d := (1, [some (.ref 5), some (.int q), some (.int v)], [.int q], (hX I F sd))) (x := if q < 0 then .inl (10, [some (.ref 5), some (.int q), some (.int v)], [], (hX I F sd)) else .inl (2, [some (.ref 5), some (.int q), some (.int v)], [], (hX I F sd))) rfl rfl) ?_
  refine pm_rc (fun p1 => ?_) (fun p1 => ?_)
  · show pm_EV (pm_run mt (d + 0)) none oX0_set (10, [some (.ref 5), some (.int q), some (.int v)], [], (hX I F sd)) = _
    exact pm_EV_at 0 (d := (10, [some (.ref 5), some (.int q), some (.int v)], [], (hX I F sd))) rfl rfl
  · show pm_EV (pm_run mt (d + 0)) none oX0_set (2, [some (.ref 5), some (.int q), some (.int v)], [], (hX I F sd)) = _
    refine Eq.trans (pm_EV_at 2 (d := (4, [some (.ref 5), some (.int q), some (.int v)], [.int 28, .int q], (hX I F sd))) (x := if q < 28 then .inl (5, [some (.ref 5), some (.int q), some (.int v)], [], (hX I F sd)) else .inl (10, [some (.ref 5), some (.int q), some (.int v)], [], (hX I F sd))) rfl rfl) ?_
    refine pm_rc (fun p2 => ?_) (fun p2 => ?_)
    · show pm_EV (pm_run mt (d + 0)) none oX0_set (5, [some (.ref 5), some (.int q), some (.int v)], [], (hX I F sd)) = _
      refine Eq.trans (b := pm_EV (pm_run mt (d + 0)) none oX0_set (10, [some (.ref 5), some (.int q), some (.int v)], [], ((hX I F sd)).set 6 (.inl (0, 28, .inl (upd (F 6) q.toNatClampNeg v))))) (pm_EV_gd 4 (d := (9, [some (.ref 5), some (.int q), some (.int v)], [.int v, .int q, .ref 6], (hX I F sd))) (c1 := (10, [some (.ref 5), some (.int q), some (.int v)], [], ((hX I F sd)).set 6 (.inl (0, 28, .inl (upd (F 6) q.toNatClampNeg v))))) rfl rfl ⟨rfl, g1 p1 p2⟩) ?_
      refine Eq.trans (b := pm_EV (pm_run mt (d + 0)) none oX0_set (10, [some (.ref 5), some (.int q), some (.int v)], [], (hX I (uF F 6 (upd (F 6) q.toNatClampNeg v)) sd))) (congrArg (fun hz => pm_EV (pm_run mt (d + 0)) none oX0_set (10, [some (.ref 5), some (.int q), some (.int v)], [], hz)) (hX_s6 I F sd (upd (F 6) q.toNatClampNeg v))) ?_
      exact pm_EV_at 0 (d := (10, [some (.ref 5), some (.int q), some (.int v)], [], (hX I (uF F 6 (upd (F 6) q.toNatClampNeg v)) sd))) rfl rfl
    · show pm_EV (pm_run mt (d + 0)) none oX0_set (10, [some (.ref 5), some (.int q), some (.int v)], [], (hX I F sd)) = _
      exact pm_EV_at 0 (d := (10, [some (.ref 5), some (.int q), some (.int v)], [], (hX I F sd))) rfl rfl
set_option maxRecDepth 100000 in
set_option maxHeartbeats 4000000 in
theorem en_X0_set_5 (d : Nat) (I : Nat → Int32) (F : Nat → Nat → Int32) (sd : Int64) (q : Int32) (v : Int32) : pm_run mt (d + 1) 1 [.ref 5, .int q, .int v] (hX I F sd) = pm_EV (pm_run mt (d + 0)) none oX0_set (0, [some (.ref 5), some (.int q), some (.int v)], [], (hX I F sd)) := rfl
set_option maxRecDepth 100000 in
set_option maxHeartbeats 4000000 in
theorem sp_X0_set_5 (d : Nat) (I : Nat → Int32) (F : Nat → Nat → Int32) (sd : Int64) (q : Int32) (v : Int32) : pm_run mt (d + 1) 1 [.ref 5, .int q, .int v] (hX I F sd) = some (none, (hX I (uF F 6 (hset (F 6) q v)) sd)) := by
  rw [en_X0_set_5, tr_X0_set_5_0 _ _ _ _ _ _ (fun a b => pm_in_lt rfl (by decide) a b)]
  unfold hset
  by_cases e1 : q < 0
  · simp only [e1, if_true]
    rfl
  · by_cases e2 : q < 28 <;> simp only [e1, e2, if_true, if_false] <;> rfl
set_option maxRecDepth 100000 in
set_option maxHeartbeats 4000000 in
theorem tr_X0_add_5_0 (d : Nat) (I : Nat → Int32) (F : Nat → Nat → Int32) (sd : Int64) (q : Int32) (v : Int32) : pm_EV (pm_run mt (d + 1)) none oX0_add (0, [some (.ref 5), some (.int q), some (.int v)], [], (hX I F sd)) = some (none, (hX I (uF F 6 (hset ((F 6)) q ((hcell ((F 6)) q) + v))) sd)) := by
  refine Eq.trans (b := pm_EV (pm_run mt (d + 1)) none oX0_add (5, [some (.ref 5), some (.int q), some (.int v)], [.int (hcell ((F 6)) q), .int q, .ref 5], (hX I F sd))) (pm_EV_cl 4 (call := pm_run mt (d + 1)) (d := (4, [some (.ref 5), some (.int q), some (.int v)], [.int q, .ref 5, .int q, .ref 5], (hX I F sd))) (a := 0) (as := [.ref 5, .int q]) (hp := (hX I F sd)) (hp2 := (hX I F sd)) (i2 := 5) (ls := [some (.ref 5), some (.int q), some (.int v)]) (rest := [.int q, .ref 5]) (r := some (.int (hcell ((F 6)) q))) rfl rfl (sp_X0_cell_5 (d + 0) I F sd q )) ?_
  refine Eq.trans (b := pm_EV (pm_run mt (d + 1)) none oX0_add (8, [some (.ref 5), some (.int q), some (.int v)], [], (hX I (uF F 6 (hset ((F 6)) q ((hcell ((F 6)) q) + v))) sd))) (pm_EV_cl 2 (call := pm_run mt (d + 1)) (d := (7, [some (.ref 5), some (.int q), some (.int v)], [.int ((hcell ((F 6)) q) + v), .int q, .ref 5], (hX I F sd))) (a := 1) (as := [.ref 5, .int q, .int ((hcell ((F 6)) q) + v)]) (hp := (hX I F sd)) (hp2 := (hX I (uF F 6 (hset ((F 6)) q ((hcell ((F 6)) q) + v))) sd)) (i2 := 8) (ls := [some (.ref 5), some (.int q), some (.int v)]) (rest := []) (r := none) rfl rfl (sp_X0_set_5 (d + 0) I F sd q ((hcell ((F 6)) q) + v) )) ?_
  exact pm_EV_at 0 (d := (8, [some (.ref 5), some (.int q), some (.int v)], [], (hX I (uF F 6 (hset ((F 6)) q ((hcell ((F 6)) q) + v))) sd))) rfl rfl
set_option maxRecDepth 100000 in
set_option maxHeartbeats 4000000 in
theorem en_X0_add_5 (d : Nat) (I : Nat → Int32) (F : Nat → Nat → Int32) (sd : Int64) (q : Int32) (v : Int32) : pm_run mt (d + 2) 2 [.ref 5, .int q, .int v] (hX I F sd) = pm_EV (pm_run mt (d + 1)) none oX0_add (0, [some (.ref 5), some (.int q), some (.int v)], [], (hX I F sd)) := rfl
set_option maxRecDepth 100000 in
set_option maxHeartbeats 4000000 in
theorem sp_X0_add_5 (d : Nat) (I : Nat → Int32) (F : Nat → Nat → Int32) (sd : Int64) (q : Int32) (v : Int32) : pm_run mt (d + 2) 2 [.ref 5, .int q, .int v] (hX I F sd) = some (none, (hX I (uF F 6 (hset (F 6) q (hcell (F 6) q + v))) sd)) := by
  rw [en_X0_add_5, tr_X0_add_5_0]
set_option maxRecDepth 100000 in
set_option maxHeartbeats 4000000 in
theorem tr_X0_foods_5_0 (d : Nat) (I : Nat → Int32) (F : Nat → Nat → Int32) (sd : Int64) : pm_EV (pm_run mt (d + 0)) (some .int) oX0_foods (0, [some (.ref 5)], [], (hX I F sd)) = some (some (.int ((F 6) 21)), (hX I F sd)) := by
  exact pm_EV_at 4 (d := (4, [some (.ref 5)], [.int ((F 6) 21)], (hX I F sd))) rfl rfl
set_option maxRecDepth 100000 in
set_option maxHeartbeats 4000000 in
theorem en_X0_foods_5 (d : Nat) (I : Nat → Int32) (F : Nat → Nat → Int32) (sd : Int64) : pm_run mt (d + 1) 7 [.ref 5] (hX I F sd) = pm_EV (pm_run mt (d + 0)) (some .int) oX0_foods (0, [some (.ref 5)], [], (hX I F sd)) := rfl
set_option maxRecDepth 100000 in
set_option maxHeartbeats 4000000 in
theorem sp_X0_foods_5 (d : Nat) (I : Nat → Int32) (F : Nat → Nat → Int32) (sd : Int64) : pm_run mt (d + 1) 7 [.ref 5] (hX I F sd) = some (some (.int (F 6 21)), (hX I F sd)) := by
  rw [en_X0_foods_5, tr_X0_foods_5_0]
set_option maxRecDepth 100000 in
set_option maxHeartbeats 4000000 in
theorem tr_X0_things_5_0 (d : Nat) (I : Nat → Int32) (F : Nat → Nat → Int32) (sd : Int64) : pm_EV (pm_run mt (d + 0)) (some .int) oX0_things (0, [some (.ref 5)], [], (hX I F sd)) = some (some (.int ((F 6) 22)), (hX I F sd)) := by
  exact pm_EV_at 4 (d := (4, [some (.ref 5)], [.int ((F 6) 22)], (hX I F sd))) rfl rfl
set_option maxRecDepth 100000 in
set_option maxHeartbeats 4000000 in
theorem en_X0_things_5 (d : Nat) (I : Nat → Int32) (F : Nat → Nat → Int32) (sd : Int64) : pm_run mt (d + 1) 8 [.ref 5] (hX I F sd) = pm_EV (pm_run mt (d + 0)) (some .int) oX0_things (0, [some (.ref 5)], [], (hX I F sd)) := rfl
set_option maxRecDepth 100000 in
set_option maxHeartbeats 4000000 in
theorem sp_X0_things_5 (d : Nat) (I : Nat → Int32) (F : Nat → Nat → Int32) (sd : Int64) : pm_run mt (d + 1) 8 [.ref 5] (hX I F sd) = some (some (.int (F 6 22)), (hX I F sd)) := by
  rw [en_X0_things_5, tr_X0_things_5_0]
set_option maxRecDepth 100000 in
set_option maxHeartbeats 4000000 in
theorem tr_X0_skirting_5_0 (d : Nat) (I : Nat → Int32) (F : Nat → Nat → Int32) (sd : Int64) : pm_EV (pm_run mt (d + 0)) (some .int) oX0_skirting (0, [some (.ref 5)], [], (hX I F sd)) = some (some (.int ((F 6) 23)), (hX I F sd)) := by
  exact pm_EV_at 4 (d := (4, [some (.ref 5)], [.int ((F 6) 23)], (hX I F sd))) rfl rfl
set_option maxRecDepth 100000 in
set_option maxHeartbeats 4000000 in
theorem en_X0_skirting_5 (d : Nat) (I : Nat → Int32) (F : Nat → Nat → Int32) (sd : Int64) : pm_run mt (d + 1) 9 [.ref 5] (hX I F sd) = pm_EV (pm_run mt (d + 0)) (some .int) oX0_skirting (0, [some (.ref 5)], [], (hX I F sd)) := rfl
set_option maxRecDepth 100000 in
set_option maxHeartbeats 4000000 in
theorem sp_X0_skirting_5 (d : Nat) (I : Nat → Int32) (F : Nat → Nat → Int32) (sd : Int64) : pm_run mt (d + 1) 9 [.ref 5] (hX I F sd) = some (some (.int (F 6 23)), (hX I F sd)) := by
  rw [en_X0_skirting_5, tr_X0_skirting_5_0]
set_option maxRecDepth 100000 in
set_option maxHeartbeats 4000000 in
theorem tr_X0_goodwill_5_0 (d : Nat) (I : Nat → Int32) (F : Nat → Nat → Int32) (sd : Int64) : pm_EV (pm_run mt (d + 0)) (some .int) oX0_goodwill (0, [some (.ref 5)], [], (hX I F sd)) = some (some (.int ((F 6) 24)), (hX I F sd)) := by
  exact pm_EV_at 4 (d := (4, [some (.ref 5)], [.int ((F 6) 24)], (hX I F sd))) rfl rfl
set_option maxRecDepth 100000 in
set_option maxHeartbeats 4000000 in
theorem en_X0_goodwill_5 (d : Nat) (I : Nat → Int32) (F : Nat → Nat → Int32) (sd : Int64) : pm_run mt (d + 1) 10 [.ref 5] (hX I F sd) = pm_EV (pm_run mt (d + 0)) (some .int) oX0_goodwill (0, [some (.ref 5)], [], (hX I F sd)) := rfl
set_option maxRecDepth 100000 in
set_option maxHeartbeats 4000000 in
theorem sp_X0_goodwill_5 (d : Nat) (I : Nat → Int32) (F : Nat → Nat → Int32) (sd : Int64) : pm_run mt (d + 1) 10 [.ref 5] (hX I F sd) = some (some (.int (F 6 24)), (hX I F sd)) := by
  rw [en_X0_goodwill_5, tr_X0_goodwill_5_0]
set_option maxRecDepth 100000 in
set_option maxHeartbeats 4000000 in
theorem tr_X0_pins_5_0 (d : Nat) (I : Nat → Int32) (F : Nat → Nat → Int32) (sd : Int64) : pm_EV (pm_run mt (d + 0)) (some .int) oX0_pins (0, [some (.ref 5)], [], (hX I F sd)) = some (some (.int ((F 6) 25)), (hX I F sd)) := by
  exact pm_EV_at 4 (d := (4, [some (.ref 5)], [.int ((F 6) 25)], (hX I F sd))) rfl rfl
set_option maxRecDepth 100000 in
set_option maxHeartbeats 4000000 in
theorem en_X0_pins_5 (d : Nat) (I : Nat → Int32) (F : Nat → Nat → Int32) (sd : Int64) : pm_run mt (d + 1) 11 [.ref 5] (hX I F sd) = pm_EV (pm_run mt (d + 0)) (some .int) oX0_pins (0, [some (.ref 5)], [], (hX I F sd)) := rfl
set_option maxRecDepth 100000 in
set_option maxHeartbeats 4000000 in
theorem sp_X0_pins_5 (d : Nat) (I : Nat → Int32) (F : Nat → Nat → Int32) (sd : Int64) : pm_run mt (d + 1) 11 [.ref 5] (hX I F sd) = some (some (.int (F 6 25)), (hX I F sd)) := by
  rw [en_X0_pins_5, tr_X0_pins_5_0]
set_option maxRecDepth 100000 in
set_option maxHeartbeats 4000000 in
theorem tr_X0_powder_5_0 (d : Nat) (I : Nat → Int32) (F : Nat → Nat → Int32) (sd : Int64) : pm_EV (pm_run mt (d + 0)) (some .int) oX0_powder (0, [some (.ref 5)], [], (hX I F sd)) = some (some (.int ((F 6) 26)), (hX I F sd)) := by
  exact pm_EV_at 4 (d := (4, [some (.ref 5)], [.int ((F 6) 26)], (hX I F sd))) rfl rfl
set_option maxRecDepth 100000 in
set_option maxHeartbeats 4000000 in
theorem en_X0_powder_5 (d : Nat) (I : Nat → Int32) (F : Nat → Nat → Int32) (sd : Int64) : pm_run mt (d + 1) 12 [.ref 5] (hX I F sd) = pm_EV (pm_run mt (d + 0)) (some .int) oX0_powder (0, [some (.ref 5)], [], (hX I F sd)) := rfl
set_option maxRecDepth 100000 in
set_option maxHeartbeats 4000000 in
theorem sp_X0_powder_5 (d : Nat) (I : Nat → Int32) (F : Nat → Nat → Int32) (sd : Int64) : pm_run mt (d + 1) 12 [.ref 5] (hX I F sd) = some (some (.int (F 6 26)), (hX I F sd)) := by
  rw [en_X0_powder_5, tr_X0_powder_5_0]
set_option maxRecDepth 100000 in
set_option maxHeartbeats 4000000 in
theorem tr_X0_quartersGone_5_0 (d : Nat) (I : Nat → Int32) (F : Nat → Nat → Int32) (sd : Int64) : pm_EV (pm_run mt (d + 0)) (some .int) oX0_quartersGone (0, [some (.ref 5)], [], (hX I F sd)) = some (some (.int ((F 6) 27)), (hX I F sd)) := by
  exact pm_EV_at 4 (d := (4, [some (.ref 5)], [.int ((F 6) 27)], (hX I F sd))) rfl rfl
set_option maxRecDepth 100000 in
set_option maxHeartbeats 4000000 in
theorem en_X0_quartersGone_5 (d : Nat) (I : Nat → Int32) (F : Nat → Nat → Int32) (sd : Int64) : pm_run mt (d + 1) 13 [.ref 5] (hX I F sd) = pm_EV (pm_run mt (d + 0)) (some .int) oX0_quartersGone (0, [some (.ref 5)], [], (hX I F sd)) := rfl
set_option maxRecDepth 100000 in
set_option maxHeartbeats 4000000 in
theorem sp_X0_quartersGone_5 (d : Nat) (I : Nat → Int32) (F : Nat → Nat → Int32) (sd : Int64) : pm_run mt (d + 1) 13 [.ref 5] (hX I F sd) = some (some (.int (F 6 27)), (hX I F sd)) := by
  rw [en_X0_quartersGone_5, tr_X0_quartersGone_5_0]
set_option maxRecDepth 100000 in
set_option maxHeartbeats 4000000 in
theorem tr_X0_hasFood_5_0 (d : Nat) (I : Nat → Int32) (F : Nat → Nat → Int32) (sd : Int64) (q : Int32) : pm_EV (pm_run mt (d + 1)) (some .boolean) oX0_hasFood (0, [some (.ref 5), some (.int q)], [], (hX I F sd)) = (if q < 0 then some (some (.int 0), (hX I F sd)) else (if q < ((F 6) 21) then some (some (.int 1), (hX I F sd)) else some (some (.int 0), (hX I F sd)))) := by
  refine Eq.trans (pm_EV_at 1 (d := (1, [some (.ref 5), some (.int q)], [.int q], (hX I F sd))) (x := if q < 0 then .inl (8, [some (.ref 5), some (.int q)], [], (hX I F sd)) else .inl (2, [some (.ref 5), some (.int q)], [], (hX I F sd))) rfl rfl) ?_
  refine pm_rc (fun p1 => ?_) (fun p1 => ?_)
  · show pm_EV (pm_run mt (d + 1)) (some .boolean) oX0_hasFood (8, [some (.ref 5), some (.int q)], [], (hX I F sd)) = _
    exact pm_EV_at 1 (d := (9, [some (.ref 5), some (.int q)], [.int 0], (hX I F sd))) rfl rfl
  · show pm_EV (pm_run mt (d + 1)) (some .boolean) oX0_hasFood (2, [some (.ref 5), some (.int q)], [], (hX I F sd)) = _
    refine Eq.trans (b := pm_EV (pm_run mt (d + 1)) (some .boolean) oX0_hasFood (5, [some (.ref 5), some (.int q)], [.int ((F 6) 21), .int q], (hX I F sd))) (pm_EV_cl 2 (call := pm_run mt (d + 1)) (d := (4, [some (.ref 5), some (.int q)], [.ref 5, .int q], (hX I F sd))) (a := 7) (as := [.ref 5]) (hp := (hX I F sd)) (hp2 := (hX I F sd)) (i2 := 5) (ls := [some (.ref 5), some (.int q)]) (rest := [.int q]) (r := some (.int ((F 6) 21))) rfl rfl (sp_X0_foods_5 (d + 0) I F sd  )) ?_
    refine Eq.trans (pm_EV_at 0 (d := (5, [some (.ref 5), some (.int q)], [.int ((F 6) 21), .int q], (hX I F sd))) (x := if q < ((F 6) 21) then .inl (6, [some (.ref 5), some (.int q)], [], (hX I F sd)) else .inl (8, [some (.ref 5), some (.int q)], [], (hX I F sd))) rfl rfl) ?_
    refine pm_rc (fun p2 => ?_) (fun p2 => ?_)
    · show pm_EV (pm_run mt (d + 1)) (some .boolean) oX0_hasFood (6, [some (.ref 5), some (.int q)], [], (hX I F sd)) = _
      exact pm_EV_at 2 (d := (9, [some (.ref 5), some (.int q)], [.int 1], (hX I F sd))) rfl rfl
    · show pm_EV (pm_run mt (d + 1)) (some .boolean) oX0_hasFood (8, [some (.ref 5), some (.int q)], [], (hX I F sd)) = _
      exact pm_EV_at 1 (d := (9, [some (.ref 5), some (.int q)], [.int 0], (hX I F sd))) rfl rfl
set_option maxRecDepth 100000 in
set_option maxHeartbeats 4000000 in
theorem en_X0_hasFood_5 (d : Nat) (I : Nat → Int32) (F : Nat → Nat → Int32) (sd : Int64) (q : Int32) : pm_run mt (d + 2) 14 [.ref 5, .int q] (hX I F sd) = pm_EV (pm_run mt (d + 1)) (some .boolean) oX0_hasFood (0, [some (.ref 5), some (.int q)], [], (hX I F sd)) := rfl
set_option maxRecDepth 100000 in
set_option maxHeartbeats 4000000 in
theorem sp_X0_hasFood_5 (d : Nat) (I : Nat → Int32) (F : Nat → Nat → Int32) (sd : Int64) (q : Int32) : pm_run mt (d + 2) 14 [.ref 5, .int q] (hX I F sd) = some (some (.int (bI (inr q (F 6 21)))), (hX I F sd)) := by
  rw [en_X0_hasFood_5, tr_X0_hasFood_5_0]
  unfold inr bI
  by_cases e1 : q < 0
  · simp [e1]
  · by_cases e2 : q < F 6 21 <;> simp [e1, e2]
set_option maxRecDepth 100000 in
set_option maxHeartbeats 4000000 in
theorem tr_X0_hasThing_5_0 (d : Nat) (I : Nat → Int32) (F : Nat → Nat → Int32) (sd : Int64) (q : Int32) : pm_EV (pm_run mt (d + 1)) (some .boolean) oX0_hasThing (0, [some (.ref 5), some (.int q)], [], (hX I F sd)) = (if q < 0 then some (some (.int 0), (hX I F sd)) else (if q < ((F 6) 22) then some (some (.int 1), (hX I F sd)) else some (some (.int 0), (hX I F sd)))) := by
  refine Eq.trans (pm_EV_at 1 (d := (1, [some (.ref 5), some (.int q)], [.int q], (hX I F sd))) (x := if q < 0 then .inl (8, [some (.ref 5), some (.int q)], [], (hX I F sd)) else .inl (2, [some (.ref 5), some (.int q)], [], (hX I F sd))) rfl rfl) ?_
  refine pm_rc (fun p1 => ?_) (fun p1 => ?_)
  · show pm_EV (pm_run mt (d + 1)) (some .boolean) oX0_hasThing (8, [some (.ref 5), some (.int q)], [], (hX I F sd)) = _
    exact pm_EV_at 1 (d := (9, [some (.ref 5), some (.int q)], [.int 0], (hX I F sd))) rfl rfl
  · show pm_EV (pm_run mt (d + 1)) (some .boolean) oX0_hasThing (2, [some (.ref 5), some (.int q)], [], (hX I F sd)) = _
    refine Eq.trans (b := pm_EV (pm_run mt (d + 1)) (some .boolean) oX0_hasThing (5, [some (.ref 5), some (.int q)], [.int ((F 6) 22), .int q], (hX I F sd))) (pm_EV_cl 2 (call := pm_run mt (d + 1)) (d := (4, [some (.ref 5), some (.int q)], [.ref 5, .int q], (hX I F sd))) (a := 8) (as := [.ref 5]) (hp := (hX I F sd)) (hp2 := (hX I F sd)) (i2 := 5) (ls := [some (.ref 5), some (.int q)]) (rest := [.int q]) (r := some (.int ((F 6) 22))) rfl rfl (sp_X0_things_5 (d + 0) I F sd  )) ?_
    refine Eq.trans (pm_EV_at 0 (d := (5, [some (.ref 5), some (.int q)], [.int ((F 6) 22), .int q], (hX I F sd))) (x := if q < ((F 6) 22) then .inl (6, [some (.ref 5), some (.int q)], [], (hX I F sd)) else .inl (8, [some (.ref 5), some (.int q)], [], (hX I F sd))) rfl rfl) ?_
    refine pm_rc (fun p2 => ?_) (fun p2 => ?_)
    · show pm_EV (pm_run mt (d + 1)) (some .boolean) oX0_hasThing (6, [some (.ref 5), some (.int q)], [], (hX I F sd)) = _
      exact pm_EV_at 2 (d := (9, [some (.ref 5), some (.int q)], [.int 1], (hX I F sd))) rfl rfl
    · show pm_EV (pm_run mt (d + 1)) (some .boolean) oX0_hasThing (8, [some (.ref 5), some (.int q)], [], (hX I F sd)) = _
      exact pm_EV_at 1 (d := (9, [some (.ref 5), some (.int q)], [.int 0], (hX I F sd))) rfl rfl
set_option maxRecDepth 100000 in
set_option maxHeartbeats 4000000 in
theorem en_X0_hasThing_5 (d : Nat) (I : Nat → Int32) (F : Nat → Nat → Int32) (sd : Int64) (q : Int32) : pm_run mt (d + 2) 15 [.ref 5, .int q] (hX I F sd) = pm_EV (pm_run mt (d + 1)) (some .boolean) oX0_hasThing (0, [some (.ref 5), some (.int q)], [], (hX I F sd)) := rfl
set_option maxRecDepth 100000 in
set_option maxHeartbeats 4000000 in
theorem sp_X0_hasThing_5 (d : Nat) (I : Nat → Int32) (F : Nat → Nat → Int32) (sd : Int64) (q : Int32) : pm_run mt (d + 2) 15 [.ref 5, .int q] (hX I F sd) = some (some (.int (bI (inr q (F 6 22)))), (hX I F sd)) := by
  rw [en_X0_hasThing_5, tr_X0_hasThing_5_0]
  unfold inr bI
  by_cases e1 : q < 0
  · simp [e1]
  · by_cases e2 : q < F 6 22 <;> simp [e1, e2]
set_option maxRecDepth 100000 in
set_option maxHeartbeats 4000000 in
theorem tr_X0_kind_5_0 (d : Nat) (I : Nat → Int32) (F : Nat → Nat → Int32) (sd : Int64) (q : Int32) : pm_EV (pm_run mt (d + 1)) (some .int) oX0_kind (0, [some (.ref 5), some (.int q)], [], (hX I F sd)) = some (some (.int (hcell ((F 6)) (0 + q))), (hX I F sd)) := by
  refine Eq.trans (b := pm_EV (pm_run mt (d + 1)) (some .int) oX0_kind (5, [some (.ref 5), some (.int q)], [.int (hcell ((F 6)) (0 + q))], (hX I F sd))) (pm_EV_cl 4 (call := pm_run mt (d + 1)) (d := (4, [some (.ref 5), some (.int q)], [.int (0 + q), .ref 5], (hX I F sd))) (a := 0) (as := [.ref 5, .int (0 + q)]) (hp := (hX I F sd)) (hp2 := (hX I F sd)) (i2 := 5) (ls := [some (.ref 5), some (.int q)]) (rest := []) (r := some (.int (hcell ((F 6)) (0 + q)))) rfl rfl (sp_X0_cell_5 (d + 0) I F sd (0 + q) )) ?_
  exact pm_EV_at 0 (d := (5, [some (.ref 5), some (.int q)], [.int (hcell ((F 6)) (0 + q))], (hX I F sd))) rfl rfl
set_option maxRecDepth 100000 in
set_option maxHeartbeats 4000000 in
theorem en_X0_kind_5 (d : Nat) (I : Nat → Int32) (F : Nat → Nat → Int32) (sd : Int64) (q : Int32) : pm_run mt (d + 2) 16 [.ref 5, .int q] (hX I F sd) = pm_EV (pm_run mt (d + 1)) (some .int) oX0_kind (0, [some (.ref 5), some (.int q)], [], (hX I F sd)) := rfl
set_option maxRecDepth 100000 in
set_option maxHeartbeats 4000000 in
theorem sp_X0_kind_5 (d : Nat) (I : Nat → Int32) (F : Nat → Nat → Int32) (sd : Int64) (q : Int32) : pm_run mt (d + 2) 16 [.ref 5, .int q] (hX I F sd) = some (some (.int (hcell (F 6) (0 + q))), (hX I F sd)) := by
  rw [en_X0_kind_5, tr_X0_kind_5_0]
set_option maxRecDepth 100000 in
set_option maxHeartbeats 4000000 in
theorem tr_X0_inLarder_5_0 (d : Nat) (I : Nat → Int32) (F : Nat → Nat → Int32) (sd : Int64) (q : Int32) : pm_EV (pm_run mt (d + 1)) (some .int) oX0_inLarder (0, [some (.ref 5), some (.int q)], [], (hX I F sd)) = some (some (.int (hcell ((F 6)) (4 + q))), (hX I F sd)) := by
  refine Eq.trans (b := pm_EV (pm_run mt (d + 1)) (some .int) oX0_inLarder (5, [some (.ref 5), some (.int q)], [.int (hcell ((F 6)) (4 + q))], (hX I F sd))) (pm_EV_cl 4 (call := pm_run mt (d + 1)) (d := (4, [some (.ref 5), some (.int q)], [.int (4 + q), .ref 5], (hX I F sd))) (a := 0) (as := [.ref 5, .int (4 + q)]) (hp := (hX I F sd)) (hp2 := (hX I F sd)) (i2 := 5) (ls := [some (.ref 5), some (.int q)]) (rest := []) (r := some (.int (hcell ((F 6)) (4 + q)))) rfl rfl (sp_X0_cell_5 (d + 0) I F sd (4 + q) )) ?_
  exact pm_EV_at 0 (d := (5, [some (.ref 5), some (.int q)], [.int (hcell ((F 6)) (4 + q))], (hX I F sd))) rfl rfl
set_option maxRecDepth 100000 in
set_option maxHeartbeats 4000000 in
theorem en_X0_inLarder_5 (d : Nat) (I : Nat → Int32) (F : Nat → Nat → Int32) (sd : Int64) (q : Int32) : pm_run mt (d + 2) 17 [.ref 5, .int q] (hX I F sd) = pm_EV (pm_run mt (d + 1)) (some .int) oX0_inLarder (0, [some (.ref 5), some (.int q)], [], (hX I F sd)) := rfl
set_option maxRecDepth 100000 in
set_option maxHeartbeats 4000000 in
theorem sp_X0_inLarder_5 (d : Nat) (I : Nat → Int32) (F : Nat → Nat → Int32) (sd : Int64) (q : Int32) : pm_run mt (d + 2) 17 [.ref 5, .int q] (hX I F sd) = some (some (.int (hcell (F 6) (4 + q))), (hX I F sd)) := by
  rw [en_X0_inLarder_5, tr_X0_inLarder_5_0]
set_option maxRecDepth 100000 in
set_option maxHeartbeats 4000000 in
theorem tr_X0_onFloor_5_0 (d : Nat) (I : Nat → Int32) (F : Nat → Nat → Int32) (sd : Int64) (q : Int32) : pm_EV (pm_run mt (d + 1)) (some .int) oX0_onFloor (0, [some (.ref 5), some (.int q)], [], (hX I F sd)) = some (some (.int (hcell ((F 6)) (8 + q))), (hX I F sd)) := by
  refine Eq.trans (b := pm_EV (pm_run mt (d + 1)) (some .int) oX0_onFloor (5, [some (.ref 5), some (.int q)], [.int (hcell ((F 6)) (8 + q))], (hX I F sd))) (pm_EV_cl 4 (call := pm_run mt (d + 1)) (d := (4, [some (.ref 5), some (.int q)], [.int (8 + q), .ref 5], (hX I F sd))) (a := 0) (as := [.ref 5, .int (8 + q)]) (hp := (hX I F sd)) (hp2 := (hX I F sd)) (i2 := 5) (ls := [some (.ref 5), some (.int q)]) (rest := []) (r := some (.int (hcell ((F 6)) (8 + q)))) rfl rfl (sp_X0_cell_5 (d + 0) I F sd (8 + q) )) ?_
  exact pm_EV_at 0 (d := (5, [some (.ref 5), some (.int q)], [.int (hcell ((F 6)) (8 + q))], (hX I F sd))) rfl rfl
set_option maxRecDepth 100000 in
set_option maxHeartbeats 4000000 in
theorem en_X0_onFloor_5 (d : Nat) (I : Nat → Int32) (F : Nat → Nat → Int32) (sd : Int64) (q : Int32) : pm_run mt (d + 2) 18 [.ref 5, .int q] (hX I F sd) = pm_EV (pm_run mt (d + 1)) (some .int) oX0_onFloor (0, [some (.ref 5), some (.int q)], [], (hX I F sd)) := rfl
set_option maxRecDepth 100000 in
set_option maxHeartbeats 4000000 in
theorem sp_X0_onFloor_5 (d : Nat) (I : Nat → Int32) (F : Nat → Nat → Int32) (sd : Int64) (q : Int32) : pm_run mt (d + 2) 18 [.ref 5, .int q] (hX I F sd) = some (some (.int (hcell (F 6) (8 + q))), (hX I F sd)) := by
  rw [en_X0_onFloor_5, tr_X0_onFloor_5_0]
set_option maxRecDepth 100000 in
set_option maxHeartbeats 4000000 in
theorem tr_X0_newlyPut_5_0 (d : Nat) (I : Nat → Int32) (F : Nat → Nat → Int32) (sd : Int64) (q : Int32) : pm_EV (pm_run mt (d + 1)) (some .int) oX0_newlyPut (0, [some (.ref 5), some (.int q)], [], (hX I F sd)) = some (some (.int (hcell ((F 6)) (12 + q))), (hX I F sd)) := by
  refine Eq.trans (b := pm_EV (pm_run mt (d + 1)) (some .int) oX0_newlyPut (5, [some (.ref 5), some (.int q)], [.int (hcell ((F 6)) (12 + q))], (hX I F sd))) (pm_EV_cl 4 (call := pm_run mt (d + 1)) (d := (4, [some (.ref 5), some (.int q)], [.int (12 + q), .ref 5], (hX I F sd))) (a := 0) (as := [.ref 5, .int (12 + q)]) (hp := (hX I F sd)) (hp2 := (hX I F sd)) (i2 := 5) (ls := [some (.ref 5), some (.int q)]) (rest := []) (r := some (.int (hcell ((F 6)) (12 + q)))) rfl rfl (sp_X0_cell_5 (d + 0) I F sd (12 + q) )) ?_
  exact pm_EV_at 0 (d := (5, [some (.ref 5), some (.int q)], [.int (hcell ((F 6)) (12 + q))], (hX I F sd))) rfl rfl
set_option maxRecDepth 100000 in
set_option maxHeartbeats 4000000 in
theorem en_X0_newlyPut_5 (d : Nat) (I : Nat → Int32) (F : Nat → Nat → Int32) (sd : Int64) (q : Int32) : pm_run mt (d + 2) 19 [.ref 5, .int q] (hX I F sd) = pm_EV (pm_run mt (d + 1)) (some .int) oX0_newlyPut (0, [some (.ref 5), some (.int q)], [], (hX I F sd)) := rfl
set_option maxRecDepth 100000 in
set_option maxHeartbeats 4000000 in
theorem sp_X0_newlyPut_5 (d : Nat) (I : Nat → Int32) (F : Nat → Nat → Int32) (sd : Int64) (q : Int32) : pm_run mt (d + 2) 19 [.ref 5, .int q] (hX I F sd) = some (some (.int (hcell (F 6) (12 + q))), (hX I F sd)) := by
  rw [en_X0_newlyPut_5, tr_X0_newlyPut_5_0]
set_option maxRecDepth 100000 in
set_option maxHeartbeats 4000000 in
theorem tr_X0_placeOf_5_0 (d : Nat) (I : Nat → Int32) (F : Nat → Nat → Int32) (sd : Int64) (q : Int32) : pm_EV (pm_run mt (d + 1)) (some .int) oX0_placeOf (0, [some (.ref 5), some (.int q)], [], (hX I F sd)) = some (some (.int (hcell ((F 6)) (16 + q))), (hX I F sd)) := by
  refine Eq.trans (b := pm_EV (pm_run mt (d + 1)) (some .int) oX0_placeOf (5, [some (.ref 5), some (.int q)], [.int (hcell ((F 6)) (16 + q))], (hX I F sd))) (pm_EV_cl 4 (call := pm_run mt (d + 1)) (d := (4, [some (.ref 5), some (.int q)], [.int (16 + q), .ref 5], (hX I F sd))) (a := 0) (as := [.ref 5, .int (16 + q)]) (hp := (hX I F sd)) (hp2 := (hX I F sd)) (i2 := 5) (ls := [some (.ref 5), some (.int q)]) (rest := []) (r := some (.int (hcell ((F 6)) (16 + q)))) rfl rfl (sp_X0_cell_5 (d + 0) I F sd (16 + q) )) ?_
  exact pm_EV_at 0 (d := (5, [some (.ref 5), some (.int q)], [.int (hcell ((F 6)) (16 + q))], (hX I F sd))) rfl rfl
set_option maxRecDepth 100000 in
set_option maxHeartbeats 4000000 in
theorem en_X0_placeOf_5 (d : Nat) (I : Nat → Int32) (F : Nat → Nat → Int32) (sd : Int64) (q : Int32) : pm_run mt (d + 2) 20 [.ref 5, .int q] (hX I F sd) = pm_EV (pm_run mt (d + 1)) (some .int) oX0_placeOf (0, [some (.ref 5), some (.int q)], [], (hX I F sd)) := rfl
set_option maxRecDepth 100000 in
set_option maxHeartbeats 4000000 in
theorem sp_X0_placeOf_5 (d : Nat) (I : Nat → Int32) (F : Nat → Nat → Int32) (sd : Int64) (q : Int32) : pm_run mt (d + 2) 20 [.ref 5, .int q] (hX I F sd) = some (some (.int (hcell (F 6) (16 + q))), (hX I F sd)) := by
  rw [en_X0_placeOf_5, tr_X0_placeOf_5_0]
def hworth (f : Nat → Int32) (q m : Int32) : Int32 := if hcell f (0 + q) = 1 then 2 * (hcell f (8 + q) + m) else if hcell f (0 + q) = 2 then (hcell f (8 + q) + m) / 2 else hcell f (8 + q) + m
def hgr (f : Nat → Int32) (q : Int32) : Int32 := if hcell f (0 + q) = 3 then 10 else 1
def hdueS (f : Nat → Int32) : Nat → Int32
  | 0 => 0
  | k + 1 => hdueS f k + hcell f (12 + nI k)
def hdue (f : Nat → Int32) : Int32 := hdueS f (f 21).toNatClampNeg / 10
def hlackS (f : Nat → Int32) : Nat → Int32
  | 0 => hdue f
  | k + 1 => hlackS f k - hworth f (nI k) 0
def hshort (f : Nat → Int32) : Int32 := if 0 < hlackS f (f 21).toNatClampNeg then hlackS f (f 21).toNatClampNeg else 0
set_option maxRecDepth 100000 in
set_option maxHeartbeats 4000000 in
theorem tr_X0_worthWith_3_0 (d : Nat) (I : Nat → Int32) (F : Nat → Nat → Int32) (sd : Int64) (q : Int32) (m : Int32) : pm_EV (pm_run mt (d + 1)) (some .int) oX0_worthWith (0, [some (.ref 3), some (.int q), some (.int m), none], [], (hX I F sd)) = (if (hcell ((F 4)) (0 + q)) = 1 then some (some (.int (2 * ((hcell ((F 4)) (8 + q)) + m))), (hX I F sd)) else (if (hcell ((F 4)) (0 + q)) = 2 then some (some (.int (((hcell ((F 4)) (8 + q)) + m) / 2)), (hX I F sd)) else some (some (.int ((hcell ((F 4)) (8 + q)) + m)), (hX I F sd)))) := by
  refine Eq.trans (b := pm_EV (pm_run mt (d + 1)) (some .int) oX0_worthWith (5, [some (.ref 3), some (.int q), some (.int m), none], [.int (hcell ((F 4)) (8 + q))], (hX I F sd))) (pm_EV_cl 4 (call := pm_run mt (d + 1)) (d := (4, [some (.ref 3), some (.int q), some (.int m), none], [.int (8 + q), .ref 3], (hX I F sd))) (a := 0) (as := [.ref 3, .int (8 + q)]) (hp := (hX I F sd)) (hp2 := (hX I F sd)) (i2 := 5) (ls := [some (.ref 3), some (.int q), some (.int m), none]) (rest := []) (r := some (.int (hcell ((F 4)) (8 + q)))) rfl rfl (sp_X0_cell_3 (d + 0) I F sd (8 + q) )) ?_
  refine Eq.trans (b := pm_EV (pm_run mt (d + 1)) (some .int) oX0_worthWith (13, [some (.ref 3), some (.int q), some (.int m), some (.int ((hcell ((F 4)) (8 + q)) + m))], [.int (hcell ((F 4)) (0 + q))], (hX I F sd))) (pm_EV_cl 7 (call := pm_run mt (d + 1)) (d := (12, [some (.ref 3), some (.int q), some (.int m), some (.int ((hcell ((F 4)) (8 + q)) + m))], [.int (0 + q), .ref 3], (hX I F sd))) (a := 0) (as := [.ref 3, .int (0 + q)]) (hp := (hX I F sd)) (hp2 := (hX I F sd)) (i2 := 13) (ls := [some (.ref 3), some (.int q), some (.int m), some (.int ((hcell ((F 4)) (8 + q)) + m))]) (rest := []) (r := some (.int (hcell ((F 4)) (0 + q)))) rfl rfl (sp_X0_cell_3 (d + 0) I F sd (0 + q) )) ?_
  refine Eq.trans (pm_EV_at 0 (d := (13, [some (.ref 3), some (.int q), some (.int m), some (.int ((hcell ((F 4)) (8 + q)) + m))], [.int (hcell ((F 4)) (0 + q))], (hX I F sd))) (x := if (hcell ((F 4)) (0 + q)) = 1 then .inl (14, [some (.ref 3), some (.int q), some (.int m), some (.int ((hcell ((F 4)) (8 + q)) + m))], [], (hX I F sd)) else if (hcell ((F 4)) (0 + q)) = 2 then .inl (18, [some (.ref 3), some (.int q), some (.int m), some (.int ((hcell ((F 4)) (8 + q)) + m))], [], (hX I F sd)) else .inl (22, [some (.ref 3), some (.int q), some (.int m), some (.int ((hcell ((F 4)) (8 + q)) + m))], [], (hX I F sd))) rfl rfl) ?_
  refine pm_rc (fun p1 => ?_) (fun p1 => ?_)
  · show pm_EV (pm_run mt (d + 1)) (some .int) oX0_worthWith (14, [some (.ref 3), some (.int q), some (.int m), some (.int ((hcell ((F 4)) (8 + q)) + m))], [], (hX I F sd)) = _
    exact pm_EV_at 3 (d := (17, [some (.ref 3), some (.int q), some (.int m), some (.int ((hcell ((F 4)) (8 + q)) + m))], [.int (2 * ((hcell ((F 4)) (8 + q)) + m))], (hX I F sd))) rfl rfl
  · refine pm_rc (fun p2 => ?_) (fun p2 => ?_)
    · show pm_EV (pm_run mt (d + 1)) (some .int) oX0_worthWith (18, [some (.ref 3), some (.int q), some (.int m), some (.int ((hcell ((F 4)) (8 + q)) + m))], [], (hX I F sd)) = _
      exact pm_EV_at 3 (d := (21, [some (.ref 3), some (.int q), some (.int m), some (.int ((hcell ((F 4)) (8 + q)) + m))], [.int (((hcell ((F 4)) (8 + q)) + m) / 2)], (hX I F sd))) rfl rfl
    · show pm_EV (pm_run mt (d + 1)) (some .int) oX0_worthWith (22, [some (.ref 3), some (.int q), some (.int m), some (.int ((hcell ((F 4)) (8 + q)) + m))], [], (hX I F sd)) = _
      exact pm_EV_at 1 (d := (23, [some (.ref 3), some (.int q), some (.int m), some (.int ((hcell ((F 4)) (8 + q)) + m))], [.int ((hcell ((F 4)) (8 + q)) + m)], (hX I F sd))) rfl rfl
set_option maxRecDepth 100000 in
set_option maxHeartbeats 4000000 in
theorem en_X0_worthWith_3 (d : Nat) (I : Nat → Int32) (F : Nat → Nat → Int32) (sd : Int64) (q : Int32) (m : Int32) : pm_run mt (d + 2) 22 [.ref 3, .int q, .int m] (hX I F sd) = pm_EV (pm_run mt (d + 1)) (some .int) oX0_worthWith (0, [some (.ref 3), some (.int q), some (.int m), none], [], (hX I F sd)) := rfl
set_option maxRecDepth 100000 in
set_option maxHeartbeats 4000000 in
theorem sp_X0_worthWith_3 (d : Nat) (I : Nat → Int32) (F : Nat → Nat → Int32) (sd : Int64) (q : Int32) (m : Int32) : pm_run mt (d + 2) 22 [.ref 3, .int q, .int m] (hX I F sd) = some (some (.int (hworth (F 4) q m)), (hX I F sd)) := by
  rw [en_X0_worthWith_3, tr_X0_worthWith_3_0]
  unfold hworth
  simp only [pm_pi]
set_option maxRecDepth 100000 in
set_option maxHeartbeats 4000000 in
theorem tr_X0_worth_3_0 (d : Nat) (I : Nat → Int32) (F : Nat → Nat → Int32) (sd : Int64) (q : Int32) : pm_EV (pm_run mt (d + 2)) (some .int) oX0_worth (0, [some (.ref 3), some (.int q)], [], (hX I F sd)) = some (some (.int (hworth ((F 4)) q 0)), (hX I F sd)) := by
  refine Eq.trans (b := pm_EV (pm_run mt (d + 2)) (some .int) oX0_worth (4, [some (.ref 3), some (.int q)], [.int (hworth ((F 4)) q 0)], (hX I F sd))) (pm_EV_cl 3 (call := pm_run mt (d + 2)) (d := (3, [some (.ref 3), some (.int q)], [.int 0, .int q, .ref 3], (hX I F sd))) (a := 22) (as := [.ref 3, .int q, .int 0]) (hp := (hX I F sd)) (hp2 := (hX I F sd)) (i2 := 4) (ls := [some (.ref 3), some (.int q)]) (rest := []) (r := some (.int (hworth ((F 4)) q 0))) rfl rfl (sp_X0_worthWith_3 (d + 0) I F sd q 0 )) ?_
  exact pm_EV_at 0 (d := (4, [some (.ref 3), some (.int q)], [.int (hworth ((F 4)) q 0)], (hX I F sd))) rfl rfl
set_option maxRecDepth 100000 in
set_option maxHeartbeats 4000000 in
theorem en_X0_worth_3 (d : Nat) (I : Nat → Int32) (F : Nat → Nat → Int32) (sd : Int64) (q : Int32) : pm_run mt (d + 3) 21 [.ref 3, .int q] (hX I F sd) = pm_EV (pm_run mt (d + 2)) (some .int) oX0_worth (0, [some (.ref 3), some (.int q)], [], (hX I F sd)) := rfl
set_option maxRecDepth 100000 in
set_option maxHeartbeats 4000000 in
theorem sp_X0_worth_3 (d : Nat) (I : Nat → Int32) (F : Nat → Nat → Int32) (sd : Int64) (q : Int32) : pm_run mt (d + 3) 21 [.ref 3, .int q] (hX I F sd) = some (some (.int (hworth (F 4) q 0)), (hX I F sd)) := by
  rw [en_X0_worth_3, tr_X0_worth_3_0]
set_option maxRecDepth 100000 in
set_option maxHeartbeats 4000000 in
theorem tr_X0_grainsAtOnce_3_0 (d : Nat) (I : Nat → Int32) (F : Nat → Nat → Int32) (sd : Int64) (q : Int32) : pm_EV (pm_run mt (d + 2)) (some .int) oX0_grainsAtOnce (0, [some (.ref 3), some (.int q)], [], (hX I F sd)) = (if (hcell ((F 4)) (0 + q)) = 3 then some (some (.int 10), (hX I F sd)) else some (some (.int 1), (hX I F sd))) := by
  refine Eq.trans (b := pm_EV (pm_run mt (d + 2)) (some .int) oX0_grainsAtOnce (3, [some (.ref 3), some (.int q)], [.int (hcell ((F 4)) (0 + q))], (hX I F sd))) (pm_EV_cl 2 (call := pm_run mt (d + 2)) (d := (2, [some (.ref 3), some (.int q)], [.int q, .ref 3], (hX I F sd))) (a := 16) (as := [.ref 3, .int q]) (hp := (hX I F sd)) (hp2 := (hX I F sd)) (i2 := 3) (ls := [some (.ref 3), some (.int q)]) (rest := []) (r := some (.int (hcell ((F 4)) (0 + q)))) rfl rfl (sp_X0_kind_3 (d + 0) I F sd q )) ?_
  refine Eq.trans (pm_EV_at 1 (d := (4, [some (.ref 3), some (.int q)], [.int 3, .int (hcell ((F 4)) (0 + q))], (hX I F sd))) (x := if (hcell ((F 4)) (0 + q)) = 3 then .inl (5, [some (.ref 3), some (.int q)], [], (hX I F sd)) else .inl (7, [some (.ref 3), some (.int q)], [], (hX I F sd))) rfl rfl) ?_
  refine pm_rc (fun p1 => ?_) (fun p1 => ?_)
  · show pm_EV (pm_run mt (d + 2)) (some .int) oX0_grainsAtOnce (5, [some (.ref 3), some (.int q)], [], (hX I F sd)) = _
    exact pm_EV_at 2 (d := (8, [some (.ref 3), some (.int q)], [.int 10], (hX I F sd))) rfl rfl
  · show pm_EV (pm_run mt (d + 2)) (some .int) oX0_grainsAtOnce (7, [some (.ref 3), some (.int q)], [], (hX I F sd)) = _
    exact pm_EV_at 1 (d := (8, [some (.ref 3), some (.int q)], [.int 1], (hX I F sd))) rfl rfl
set_option maxRecDepth 100000 in
set_option maxHeartbeats 4000000 in
theorem en_X0_grainsAtOnce_3 (d : Nat) (I : Nat → Int32) (F : Nat → Nat → Int32) (sd : Int64) (q : Int32) : pm_run mt (d + 3) 23 [.ref 3, .int q] (hX I F sd) = pm_EV (pm_run mt (d + 2)) (some .int) oX0_grainsAtOnce (0, [some (.ref 3), some (.int q)], [], (hX I F sd)) := rfl
set_option maxRecDepth 100000 in
set_option maxHeartbeats 4000000 in
theorem sp_X0_grainsAtOnce_3 (d : Nat) (I : Nat → Int32) (F : Nat → Nat → Int32) (sd : Int64) (q : Int32) : pm_run mt (d + 3) 23 [.ref 3, .int q] (hX I F sd) = some (some (.int (hgr (F 4) q)), (hX I F sd)) := by
  rw [en_X0_grainsAtOnce_3, tr_X0_grainsAtOnce_3_0]
  unfold hgr
  by_cases e1 : hcell (F 4) (0 + q) = 3 <;> simp only [e1, if_true, if_false]
set_option maxRecDepth 100000 in
set_option maxHeartbeats 4000000 in
theorem tr_X0_due_3_0 (d : Nat) (I : Nat → Int32) (F : Nat → Nat → Int32) (sd : Int64) : pm_EV (pm_run mt (d + 2)) (some .int) oX0_due (0, [some (.ref 3), none, none], [], (hX I F sd)) = pm_EV (pm_run mt (d + 2)) (some .int) oX0_due (4, [some (.ref 3), some (.int 0), some (.int 0)], [], (hX I F sd)) := by
  exact pm_EV_go 4 (d := (4, [some (.ref 3), some (.int 0), some (.int 0)], [], (hX I F sd))) rfl
set_option maxRecDepth 100000 in
set_option maxHeartbeats 4000000 in
theorem tr_X0_due_3_4 (d : Nat) (I : Nat → Int32) (F : Nat → Nat → Int32) (sd : Int64) (x1 : Int32) (x2 : Int32) : pm_EV (pm_run mt (d + 2)) (some .int) oX0_due (4, [some (.ref 3), some (.int x1), some (.int x2)], [], (hX I F sd)) = (if x2 < ((F 4) 21) then pm_EV (pm_run mt (d + 2)) (some .int) oX0_due (4, [some (.ref 3), some (.int (x1 + (hcell ((F 4)) (12 + x2)))), some (.int (x2 + 1))], [], (hX I F sd)) else some (some (.int (x1 / 10)), (hX I F sd))) := by
  refine Eq.trans (b := pm_EV (pm_run mt (d + 2)) (some .int) oX0_due (7, [some (.ref 3), some (.int x1), some (.int x2)], [.int ((F 4) 21), .int x2], (hX I F sd))) (pm_EV_cl 2 (call := pm_run mt (d + 2)) (d := (6, [some (.ref 3), some (.int x1), some (.int x2)], [.ref 3, .int x2], (hX I F sd))) (a := 7) (as := [.ref 3]) (hp := (hX I F sd)) (hp2 := (hX I F sd)) (i2 := 7) (ls := [some (.ref 3), some (.int x1), some (.int x2)]) (rest := [.int x2]) (r := some (.int ((F 4) 21))) rfl rfl (sp_X0_foods_3 (d + 1) I F sd  )) ?_
  refine Eq.trans (pm_EV_at 0 (d := (7, [some (.ref 3), some (.int x1), some (.int x2)], [.int ((F 4) 21), .int x2], (hX I F sd))) (x := if x2 < ((F 4) 21) then .inl (8, [some (.ref 3), some (.int x1), some (.int x2)], [], (hX I F sd)) else .inl (16, [some (.ref 3), some (.int x1), some (.int x2)], [], (hX I F sd))) rfl rfl) ?_
  refine pm_rc (fun p1 => ?_) (fun p1 => ?_)
  · show pm_EV (pm_run mt (d + 2)) (some .int) oX0_due (8, [some (.ref 3), some (.int x1), some (.int x2)], [], (hX I F sd)) = _
    refine Eq.trans (b := pm_EV (pm_run mt (d + 2)) (some .int) oX0_due (12, [some (.ref 3), some (.int x1), some (.int x2)], [.int (hcell ((F 4)) (12 + x2)), .int x1], (hX I F sd))) (pm_EV_cl 3 (call := pm_run mt (d + 2)) (d := (11, [some (.ref 3), some (.int x1), some (.int x2)], [.int x2, .ref 3, .int x1], (hX I F sd))) (a := 19) (as := [.ref 3, .int x2]) (hp := (hX I F sd)) (hp2 := (hX I F sd)) (i2 := 12) (ls := [some (.ref 3), some (.int x1), some (.int x2)]) (rest := [.int x1]) (r := some (.int (hcell ((F 4)) (12 + x2)))) rfl rfl (sp_X0_newlyPut_3 (d + 0) I F sd x2 )) ?_
    exact pm_EV_go 4 (d := (4, [some (.ref 3), some (.int (x1 + (hcell ((F 4)) (12 + x2)))), some (.int (x2 + 1))], [], (hX I F sd))) rfl
  · show pm_EV (pm_run mt (d + 2)) (some .int) oX0_due (16, [some (.ref 3), some (.int x1), some (.int x2)], [], (hX I F sd)) = _
    exact pm_EV_at 3 (d := (19, [some (.ref 3), some (.int x1), some (.int x2)], [.int (x1 / 10)], (hX I F sd))) rfl rfl
set_option maxRecDepth 100000 in
set_option maxHeartbeats 4000000 in
theorem en_X0_due_3 (d : Nat) (I : Nat → Int32) (F : Nat → Nat → Int32) (sd : Int64) : pm_run mt (d + 3) 24 [.ref 3] (hX I F sd) = pm_EV (pm_run mt (d + 2)) (some .int) oX0_due (0, [some (.ref 3), none, none], [], (hX I F sd)) := rfl
set_option maxRecDepth 100000 in
set_option maxHeartbeats 4000000 in
theorem sp_X0_due_3 (d : Nat) (I : Nat → Int32) (F : Nat → Nat → Int32) (sd : Int64) : pm_run mt (d + 3) 24 [.ref 3] (hX I F sd) = some (some (.int (hdue (F 4))), (hX I F sd)) := by
  rw [en_X0_due_3, tr_X0_due_3_0]
  have key : ∀ (m k : Nat), k + m = (F 4 21).toNatClampNeg → pm_EV (pm_run mt (d + 2)) (some .int) oX0_due (4, [some (.ref 3), some (.int (hdueS (F 4) k)), some (.int (nI k))], [], hX I F sd) = some (some (.int (hdue (F 4))), hX I F sd) := by
    intro m
    induction m with
    | zero =>
      intro k hk
      have hb := cl_bd (F 4 21)
      rw [tr_X0_due_3_4, if_neg (fun h => by rw [cl_lt (by omega)] at h; omega), hdue, ← hk]
      rfl
    | succ m ih =>
      intro k hk
      have hb := cl_bd (F 4 21)
      rw [tr_X0_due_3_4, if_pos ((cl_lt (by omega)).mpr (by omega)), nI_p1]
      exact ih (k + 1) (by omega)
  exact key _ 0 (Nat.zero_add _)
set_option maxRecDepth 100000 in
set_option maxHeartbeats 4000000 in
theorem tr_X0_shortBy_3_0 (d : Nat) (I : Nat → Int32) (F : Nat → Nat → Int32) (sd : Int64) : pm_EV (pm_run mt (d + 3)) (some .int) oX0_shortBy (0, [some (.ref 3), none, none], [], (hX I F sd)) = pm_EV (pm_run mt (d + 3)) (some .int) oX0_shortBy (5, [some (.ref 3), some (.int (hdue ((F 4)))), some (.int 0)], [], (hX I F sd)) := by
  refine Eq.trans (b := pm_EV (pm_run mt (d + 3)) (some .int) oX0_shortBy (2, [some (.ref 3), none, none], [.int (hdue ((F 4)))], (hX I F sd))) (pm_EV_cl 1 (call := pm_run mt (d + 3)) (d := (1, [some (.ref 3), none, none], [.ref 3], (hX I F sd))) (a := 24) (as := [.ref 3]) (hp := (hX I F sd)) (hp2 := (hX I F sd)) (i2 := 2) (ls := [some (.ref 3), none, none]) (rest := []) (r := some (.int (hdue ((F 4))))) rfl rfl (sp_X0_due_3 (d + 0) I F sd  )) ?_
  exact pm_EV_go 3 (d := (5, [some (.ref 3), some (.int (hdue ((F 4)))), some (.int 0)], [], (hX I F sd))) rfl
set_option maxRecDepth 100000 in
set_option maxHeartbeats 4000000 in
theorem tr_X0_shortBy_3_5 (d : Nat) (I : Nat → Int32) (F : Nat → Nat → Int32) (sd : Int64) (x1 : Int32) (x2 : Int32) : pm_EV (pm_run mt (d + 3)) (some .int) oX0_shortBy (5, [some (.ref 3), some (.int x1), some (.int x2)], [], (hX I F sd)) = (if x2 < ((F 4) 21) then pm_EV (pm_run mt (d + 3)) (some .int) oX0_shortBy (5, [some (.ref 3), some (.int (x1 - (hworth ((F 4)) x2 0))), some (.int (x2 + 1))], [], (hX I F sd)) else some (some (.int (if 0 < x1 then x1 else 0)), (hX I F sd))) := by
  refine Eq.trans (b := pm_EV (pm_run mt (d + 3)) (some .int) oX0_shortBy (8, [some (.ref 3), some (.int x1), some (.int x2)], [.int ((F 4) 21), .int x2], (hX I F sd))) (pm_EV_cl 2 (call := pm_run mt (d + 3)) (d := (7, [some (.ref 3), some (.int x1), some (.int x2)], [.ref 3, .int x2], (hX I F sd))) (a := 7) (as := [.ref 3]) (hp := (hX I F sd)) (hp2 := (hX I F sd)) (i2 := 8) (ls := [some (.ref 3), some (.int x1), some (.int x2)]) (rest := [.int x2]) (r := some (.int ((F 4) 21))) rfl rfl (sp_X0_foods_3 (d + 2) I F sd  )) ?_
  refine Eq.trans (pm_EV_at 0 (d := (8, [some (.ref 3), some (.int x1), some (.int x2)], [.int ((F 4) 21), .int x2], (hX I F sd))) (x := if x2 < ((F 4) 21) then .inl (9, [some (.ref 3), some (.int x1), some (.int x2)], [], (hX I F sd)) else .inl (17, [some (.ref 3), some (.int x1), some (.int x2)], [], (hX I F sd))) rfl rfl) ?_
  refine pm_rc (fun p1 => ?_) (fun p1 => ?_)
  · show pm_EV (pm_run mt (d + 3)) (some .int) oX0_shortBy (9, [some (.ref 3), some (.int x1), some (.int x2)], [], (hX I F sd)) = _
    refine Eq.trans (b := pm_EV (pm_run mt (d + 3)) (some .int) oX0_shortBy (13, [some (.ref 3), some (.int x1), some (.int x2)], [.int (hworth ((F 4)) x2 0), .int x1], (hX I F sd))) (pm_EV_cl 3 (call := pm_run mt (d + 3)) (d := (12, [some (.ref 3), some (.int x1), some (.int x2)], [.int x2, .ref 3, .int x1], (hX I F sd))) (a := 21) (as := [.ref 3, .int x2]) (hp := (hX I F sd)) (hp2 := (hX I F sd)) (i2 := 13) (ls := [some (.ref 3), some (.int x1), some (.int x2)]) (rest := [.int x1]) (r := some (.int (hworth ((F 4)) x2 0))) rfl rfl (sp_X0_worth_3 (d + 0) I F sd x2 )) ?_
    exact pm_EV_go 4 (d := (5, [some (.ref 3), some (.int (x1 - (hworth ((F 4)) x2 0))), some (.int (x2 + 1))], [], (hX I F sd))) rfl
  · show pm_EV (pm_run mt (d + 3)) (some .int) oX0_shortBy (17, [some (.ref 3), some (.int x1), some (.int x2)], [], (hX I F sd)) = _
    exact pm_EV_at 3 (d := (20, [some (.ref 3), some (.int x1), some (.int x2)], [.int (if 0 < x1 then x1 else 0)], (hX I F sd))) rfl rfl
set_option maxRecDepth 100000 in
set_option maxHeartbeats 4000000 in
theorem en_X0_shortBy_3 (d : Nat) (I : Nat → Int32) (F : Nat → Nat → Int32) (sd : Int64) : pm_run mt (d + 4) 25 [.ref 3] (hX I F sd) = pm_EV (pm_run mt (d + 3)) (some .int) oX0_shortBy (0, [some (.ref 3), none, none], [], (hX I F sd)) := rfl
set_option maxRecDepth 100000 in
set_option maxHeartbeats 4000000 in
theorem sp_X0_shortBy_3 (d : Nat) (I : Nat → Int32) (F : Nat → Nat → Int32) (sd : Int64) : pm_run mt (d + 4) 25 [.ref 3] (hX I F sd) = some (some (.int (hshort (F 4))), (hX I F sd)) := by
  rw [en_X0_shortBy_3, tr_X0_shortBy_3_0]
  have key : ∀ (m k : Nat), k + m = (F 4 21).toNatClampNeg → pm_EV (pm_run mt (d + 3)) (some .int) oX0_shortBy (5, [some (.ref 3), some (.int (hlackS (F 4) k)), some (.int (nI k))], [], hX I F sd) = some (some (.int (hshort (F 4))), hX I F sd) := by
    intro m
    induction m with
    | zero =>
      intro k hk
      have hb := cl_bd (F 4 21)
      rw [tr_X0_shortBy_3_5, if_neg (fun h => by rw [cl_lt (by omega)] at h; omega), hshort, ← hk]
      rfl
    | succ m ih =>
      intro k hk
      have hb := cl_bd (F 4 21)
      rw [tr_X0_shortBy_3_5, if_pos ((cl_lt (by omega)).mpr (by omega)), nI_p1]
      exact ih (k + 1) (by omega)
  exact key _ 0 (Nat.zero_add _)
set_option maxRecDepth 100000 in
set_option maxHeartbeats 4000000 in
theorem tr_X0_worthWith_5_0 (d : Nat) (I : Nat → Int32) (F : Nat → Nat → Int32) (sd : Int64) (q : Int32) (m : Int32) : pm_EV (pm_run mt (d + 1)) (some .int) oX0_worthWith (0, [some (.ref 5), some (.int q), some (.int m), none], [], (hX I F sd)) = (if (hcell ((F 6)) (0 + q)) = 1 then some (some (.int (2 * ((hcell ((F 6)) (8 + q)) + m))), (hX I F sd)) else (if (hcell ((F 6)) (0 + q)) = 2 then some (some (.int (((hcell ((F 6)) (8 + q)) + m) / 2)), (hX I F sd)) else some (some (.int ((hcell ((F 6)) (8 + q)) + m)), (hX I F sd)))) := by
  refine Eq.trans (b := pm_EV (pm_run mt (d + 1)) (some .int) oX0_worthWith (5, [some (.ref 5), some (.int q), some (.int m), none], [.int (hcell ((F 6)) (8 + q))], (hX I F sd))) (pm_EV_cl 4 (call := pm_run mt (d + 1)) (d := (4, [some (.ref 5), some (.int q), some (.int m), none], [.int (8 + q), .ref 5], (hX I F sd))) (a := 0) (as := [.ref 5, .int (8 + q)]) (hp := (hX I F sd)) (hp2 := (hX I F sd)) (i2 := 5) (ls := [some (.ref 5), some (.int q), some (.int m), none]) (rest := []) (r := some (.int (hcell ((F 6)) (8 + q)))) rfl rfl (sp_X0_cell_5 (d + 0) I F sd (8 + q) )) ?_
  refine Eq.trans (b := pm_EV (pm_run mt (d + 1)) (some .int) oX0_worthWith (13, [some (.ref 5), some (.int q), some (.int m), some (.int ((hcell ((F 6)) (8 + q)) + m))], [.int (hcell ((F 6)) (0 + q))], (hX I F sd))) (pm_EV_cl 7 (call := pm_run mt (d + 1)) (d := (12, [some (.ref 5), some (.int q), some (.int m), some (.int ((hcell ((F 6)) (8 + q)) + m))], [.int (0 + q), .ref 5], (hX I F sd))) (a := 0) (as := [.ref 5, .int (0 + q)]) (hp := (hX I F sd)) (hp2 := (hX I F sd)) (i2 := 13) (ls := [some (.ref 5), some (.int q), some (.int m), some (.int ((hcell ((F 6)) (8 + q)) + m))]) (rest := []) (r := some (.int (hcell ((F 6)) (0 + q)))) rfl rfl (sp_X0_cell_5 (d + 0) I F sd (0 + q) )) ?_
  refine Eq.trans (pm_EV_at 0 (d := (13, [some (.ref 5), some (.int q), some (.int m), some (.int ((hcell ((F 6)) (8 + q)) + m))], [.int (hcell ((F 6)) (0 + q))], (hX I F sd))) (x := if (hcell ((F 6)) (0 + q)) = 1 then .inl (14, [some (.ref 5), some (.int q), some (.int m), some (.int ((hcell ((F 6)) (8 + q)) + m))], [], (hX I F sd)) else if (hcell ((F 6)) (0 + q)) = 2 then .inl (18, [some (.ref 5), some (.int q), some (.int m), some (.int ((hcell ((F 6)) (8 + q)) + m))], [], (hX I F sd)) else .inl (22, [some (.ref 5), some (.int q), some (.int m), some (.int ((hcell ((F 6)) (8 + q)) + m))], [], (hX I F sd))) rfl rfl) ?_
  refine pm_rc (fun p1 => ?_) (fun p1 => ?_)
  · show pm_EV (pm_run mt (d + 1)) (some .int) oX0_worthWith (14, [some (.ref 5), some (.int q), some (.int m), some (.int ((hcell ((F 6)) (8 + q)) + m))], [], (hX I F sd)) = _
    exact pm_EV_at 3 (d := (17, [some (.ref 5), some (.int q), some (.int m), some (.int ((hcell ((F 6)) (8 + q)) + m))], [.int (2 * ((hcell ((F 6)) (8 + q)) + m))], (hX I F sd))) rfl rfl
  · refine pm_rc (fun p2 => ?_) (fun p2 => ?_)
    · show pm_EV (pm_run mt (d + 1)) (some .int) oX0_worthWith (18, [some (.ref 5), some (.int q), some (.int m), some (.int ((hcell ((F 6)) (8 + q)) + m))], [], (hX I F sd)) = _
      exact pm_EV_at 3 (d := (21, [some (.ref 5), some (.int q), some (.int m), some (.int ((hcell ((F 6)) (8 + q)) + m))], [.int (((hcell ((F 6)) (8 + q)) + m) / 2)], (hX I F sd))) rfl rfl
    · show pm_EV (pm_run mt (d + 1)) (some .int) oX0_worthWith (22, [some (.ref 5), some (.int q), some (.int m), some (.int ((hcell ((F 6)) (8 + q)) + m))], [], (hX I F sd)) = _
      exact pm_EV_at 1 (d := (23, [some (.ref 5), some (.int q), some (.int m), some (.int ((hcell ((F 6)) (8 + q)) + m))], [.int ((hcell ((F 6)) (8 + q)) + m)], (hX I F sd))) rfl rfl
set_option maxRecDepth 100000 in
set_option maxHeartbeats 4000000 in
theorem en_X0_worthWith_5 (d : Nat) (I : Nat → Int32) (F : Nat → Nat → Int32) (sd : Int64) (q : Int32) (m : Int32) : pm_run mt (d + 2) 22 [.ref 5, .int q, .int m] (hX I F sd) = pm_EV (pm_run mt (d + 1)) (some .int) oX0_worthWith (0, [some (.ref 5), some (.int q), some (.int m), none], [], (hX I F sd)) := rfl
set_option maxRecDepth 100000 in
set_option maxHeartbeats 4000000 in
theorem sp_X0_worthWith_5 (d : Nat) (I : Nat → Int32) (F : Nat → Nat → Int32) (sd : Int64) (q : Int32) (m : Int32) : pm_run mt (d + 2) 22 [.ref 5, .int q, .int m] (hX I F sd) = some (some (.int (hworth (F 6) q m)), (hX I F sd)) := by
  rw [en_X0_worthWith_5, tr_X0_worthWith_5_0]
  unfold hworth
  simp only [pm_pi]
set_option maxRecDepth 100000 in
set_option maxHeartbeats 4000000 in
theorem tr_X0_worth_5_0 (d : Nat) (I : Nat → Int32) (F : Nat → Nat → Int32) (sd : Int64) (q : Int32) : pm_EV (pm_run mt (d + 2)) (some .int) oX0_worth (0, [some (.ref 5), some (.int q)], [], (hX I F sd)) = some (some (.int (hworth ((F 6)) q 0)), (hX I F sd)) := by
  refine Eq.trans (b := pm_EV (pm_run mt (d + 2)) (some .int) oX0_worth (4, [some (.ref 5), some (.int q)], [.int (hworth ((F 6)) q 0)], (hX I F sd))) (pm_EV_cl 3 (call := pm_run mt (d + 2)) (d := (3, [some (.ref 5), some (.int q)], [.int 0, .int q, .ref 5], (hX I F sd))) (a := 22) (as := [.ref 5, .int q, .int 0]) (hp := (hX I F sd)) (hp2 := (hX I F sd)) (i2 := 4) (ls := [some (.ref 5), some (.int q)]) (rest := []) (r := some (.int (hworth ((F 6)) q 0))) rfl rfl (sp_X0_worthWith_5 (d + 0) I F sd q 0 )) ?_
  exact pm_EV_at 0 (d := (4, [some (.ref 5), some (.int q)], [.int (hworth ((F 6)) q 0)], (hX I F sd))) rfl rfl
set_option maxRecDepth 100000 in
set_option maxHeartbeats 4000000 in
theorem en_X0_worth_5 (d : Nat) (I : Nat → Int32) (F : Nat → Nat → Int32) (sd : Int64) (q : Int32) : pm_run mt (d + 3) 21 [.ref 5, .int q] (hX I F sd) = pm_EV (pm_run mt (d + 2)) (some .int) oX0_worth (0, [some (.ref 5), some (.int q)], [], (hX I F sd)) := rfl
set_option maxRecDepth 100000 in
set_option maxHeartbeats 4000000 in
theorem sp_X0_worth_5 (d : Nat) (I : Nat → Int32) (F : Nat → Nat → Int32) (sd : Int64) (q : Int32) : pm_run mt (d + 3) 21 [.ref 5, .int q] (hX I F sd) = some (some (.int (hworth (F 6) q 0)), (hX I F sd)) := by
  rw [en_X0_worth_5, tr_X0_worth_5_0]
set_option maxRecDepth 100000 in
set_option maxHeartbeats 4000000 in
theorem tr_X0_grainsAtOnce_5_0 (d : Nat) (I : Nat → Int32) (F : Nat → Nat → Int32) (sd : Int64) (q : Int32) : pm_EV (pm_run mt (d + 2)) (some .int) oX0_grainsAtOnce (0, [some (.ref 5), some (.int q)], [], (hX I F sd)) = (if (hcell ((F 6)) (0 + q)) = 3 then some (some (.int 10), (hX I F sd)) else some (some (.int 1), (hX I F sd))) := by
  refine Eq.trans (b := pm_EV (pm_run mt (d + 2)) (some .int) oX0_grainsAtOnce (3, [some (.ref 5), some (.int q)], [.int (hcell ((F 6)) (0 + q))], (hX I F sd))) (pm_EV_cl 2 (call := pm_run mt (d + 2)) (d := (2, [some (.ref 5), some (.int q)], [.int q, .ref 5], (hX I F sd))) (a := 16) (as := [.ref 5, .int q]) (hp := (hX I F sd)) (hp2 := (hX I F sd)) (i2 := 3) (ls := [some (.ref 5), some (.int q)]) (rest := []) (r := some (.int (hcell ((F 6)) (0 + q)))) rfl rfl (sp_X0_kind_5 (d + 0) I F sd q )) ?_
  refine Eq.trans (pm_EV_at 1 (d := (4, [some (.ref 5), some (.int q)], [.int 3, .int (hcell ((F 6)) (0 + q))], (hX I F sd))) (x := if (hcell ((F 6)) (0 + q)) = 3 then .inl (5, [some (.ref 5), some (.int q)], [], (hX I F sd)) else .inl (7, [some (.ref 5), some (.int q)], [], (hX I F sd))) rfl rfl) ?_
  refine pm_rc (fun p1 => ?_) (fun p1 => ?_)
  · show pm_EV (pm_run mt (d + 2)) (some .int) oX0_grainsAtOnce (5, [some (.ref 5), some (.int q)], [], (hX I F sd)) = _
    exact pm_EV_at 2 (d := (8, [some (.ref 5), some (.int q)], [.int 10], (hX I F sd))) rfl rfl
  · show pm_EV (pm_run mt (d + 2)) (some .int) oX0_grainsAtOnce (7, [some (.ref 5), some (.int q)], [], (hX I F sd)) = _
    exact pm_EV_at 1 (d := (8, [some (.ref 5), some (.int q)], [.int 1], (hX I F sd))) rfl rfl
set_option maxRecDepth 100000 in
set_option maxHeartbeats 4000000 in
theorem en_X0_grainsAtOnce_5 (d : Nat) (I : Nat → Int32) (F : Nat → Nat → Int32) (sd : Int64) (q : Int32) : pm_run mt (d + 3) 23 [.ref 5, .int q] (hX I F sd) = pm_EV (pm_run mt (d + 2)) (some .int) oX0_grainsAtOnce (0, [some (.ref 5), some (.int q)], [], (hX I F sd)) := rfl
set_option maxRecDepth 100000 in
set_option maxHeartbeats 4000000 in
theorem sp_X0_grainsAtOnce_5 (d : Nat) (I : Nat → Int32) (F : Nat → Nat → Int32) (sd : Int64) (q : Int32) : pm_run mt (d + 3) 23 [.ref 5, .int q] (hX I F sd) = some (some (.int (hgr (F 6) q)), (hX I F sd)) := by
  rw [en_X0_grainsAtOnce_5, tr_X0_grainsAtOnce_5_0]
  unfold hgr
  by_cases e1 : hcell (F 6) (0 + q) = 3 <;> simp only [e1, if_true, if_false]
set_option maxRecDepth 100000 in
set_option maxHeartbeats 4000000 in
theorem tr_X0_due_5_0 (d : Nat) (I : Nat → Int32) (F : Nat → Nat → Int32) (sd : Int64) : pm_EV (pm_run mt (d + 2)) (some .int) oX0_due (0, [some (.ref 5), none, none], [], (hX I F sd)) = pm_EV (pm_run mt (d + 2)) (some .int) oX0_due (4, [some (.ref 5), some (.int 0), some (.int 0)], [], (hX I F sd)) := by
  exact pm_EV_go 4 (d := (4, [some (.ref 5), some (.int 0), some (.int 0)], [], (hX I F sd))) rfl
set_option maxRecDepth 100000 in
set_option maxHeartbeats 4000000 in
theorem tr_X0_due_5_4 (d : Nat) (I : Nat → Int32) (F : Nat → Nat → Int32) (sd : Int64) (x1 : Int32) (x2 : Int32) : pm_EV (pm_run mt (d + 2)) (some .int) oX0_due (4, [some (.ref 5), some (.int x1), some (.int x2)], [], (hX I F sd)) = (if x2 < ((F 6) 21) then pm_EV (pm_run mt (d + 2)) (some .int) oX0_due (4, [some (.ref 5), some (.int (x1 + (hcell ((F 6)) (12 + x2)))), some (.int (x2 + 1))], [], (hX I F sd)) else some (some (.int (x1 / 10)), (hX I F sd))) := by
  refine Eq.trans (b := pm_EV (pm_run mt (d + 2)) (some .int) oX0_due (7, [some (.ref 5), some (.int x1), some (.int x2)], [.int ((F 6) 21), .int x2], (hX I F sd))) (pm_EV_cl 2 (call := pm_run mt (d + 2)) (d := (6, [some (.ref 5), some (.int x1), some (.int x2)], [.ref 5, .int x2], (hX I F sd))) (a := 7) (as := [.ref 5]) (hp := (hX I F sd)) (hp2 := (hX I F sd)) (i2 := 7) (ls := [some (.ref 5), some (.int x1), some (.int x2)]) (rest := [.int x2]) (r := some (.int ((F 6) 21))) rfl rfl (sp_X0_foods_5 (d + 1) I F sd  )) ?_
  refine Eq.trans (pm_EV_at 0 (d := (7, [some (.ref 5), some (.int x1), some (.int x2)], [.int ((F 6) 21), .int x2], (hX I F sd))) (x := if x2 < ((F 6) 21) then .inl (8, [some (.ref 5), some (.int x1), some (.int x2)], [], (hX I F sd)) else .inl (16, [some (.ref 5), some (.int x1), some (.int x2)], [], (hX I F sd))) rfl rfl) ?_
  refine pm_rc (fun p1 => ?_) (fun p1 => ?_)
  · show pm_EV (pm_run mt (d + 2)) (some .int) oX0_due (8, [some (.ref 5), some (.int x1), some (.int x2)], [], (hX I F sd)) = _
    refine Eq.trans (b := pm_EV (pm_run mt (d + 2)) (some .int) oX0_due (12, [some (.ref 5), some (.int x1), some (.int x2)], [.int (hcell ((F 6)) (12 + x2)), .int x1], (hX I F sd))) (pm_EV_cl 3 (call := pm_run mt (d + 2)) (d := (11, [some (.ref 5), some (.int x1), some (.int x2)], [.int x2, .ref 5, .int x1], (hX I F sd))) (a := 19) (as := [.ref 5, .int x2]) (hp := (hX I F sd)) (hp2 := (hX I F sd)) (i2 := 12) (ls := [some (.ref 5), some (.int x1), some (.int x2)]) (rest := [.int x1]) (r := some (.int (hcell ((F 6)) (12 + x2)))) rfl rfl (sp_X0_newlyPut_5 (d + 0) I F sd x2 )) ?_
    exact pm_EV_go 4 (d := (4, [some (.ref 5), some (.int (x1 + (hcell ((F 6)) (12 + x2)))), some (.int (x2 + 1))], [], (hX I F sd))) rfl
  · show pm_EV (pm_run mt (d + 2)) (some .int) oX0_due (16, [some (.ref 5), some (.int x1), some (.int x2)], [], (hX I F sd)) = _
    exact pm_EV_at 3 (d := (19, [some (.ref 5), some (.int x1), some (.int x2)], [.int (x1 / 10)], (hX I F sd))) rfl rfl
set_option maxRecDepth 100000 in
set_option maxHeartbeats 4000000 in
theorem en_X0_due_5 (d : Nat) (I : Nat → Int32) (F : Nat → Nat → Int32) (sd : Int64) : pm_run mt (d + 3) 24 [.ref 5] (hX I F sd) = pm_EV (pm_run mt (d + 2)) (some .int) oX0_due (0, [some (.ref 5), none, none], [], (hX I F sd)) := rfl
set_option maxRecDepth 100000 in
set_option maxHeartbeats 4000000 in
theorem sp_X0_due_5 (d : Nat) (I : Nat → Int32) (F : Nat → Nat → Int32) (sd : Int64) : pm_run mt (d + 3) 24 [.ref 5] (hX I F sd) = some (some (.int (hdue (F 6))), (hX I F sd)) := by
  rw [en_X0_due_5, tr_X0_due_5_0]
  have key : ∀ (m k : Nat), k + m = (F 6 21).toNatClampNeg → pm_EV (pm_run mt (d + 2)) (some .int) oX0_due (4, [some (.ref 5), some (.int (hdueS (F 6) k)), some (.int (nI k))], [], hX I F sd) = some (some (.int (hdue (F 6))), hX I F sd) := by
    intro m
    induction m with
    | zero =>
      intro k hk
      have hb := cl_bd (F 6 21)
      rw [tr_X0_due_5_4, if_neg (fun h => by rw [cl_lt (by omega)] at h; omega), hdue, ← hk]
      rfl
    | succ m ih =>
      intro k hk
      have hb := cl_bd (F 6 21)
      rw [tr_X0_due_5_4, if_pos ((cl_lt (by omega)).mpr (by omega)), nI_p1]
      exact ih (k + 1) (by omega)
  exact key _ 0 (Nat.zero_add _)
set_option maxRecDepth 100000 in
set_option maxHeartbeats 4000000 in
theorem tr_X0_shortBy_5_0 (d : Nat) (I : Nat → Int32) (F : Nat → Nat → Int32) (sd : Int64) : pm_EV (pm_run mt (d + 3)) (some .int) oX0_shortBy (0, [some (.ref 5), none, none], [], (hX I F sd)) = pm_EV (pm_run mt (d + 3)) (some .int) oX0_shortBy (5, [some (.ref 5), some (.int (hdue ((F 6)))), some (.int 0)], [], (hX I F sd)) := by
  refine Eq.trans (b := pm_EV (pm_run mt (d + 3)) (some .int) oX0_shortBy (2, [some (.ref 5), none, none], [.int (hdue ((F 6)))], (hX I F sd))) (pm_EV_cl 1 (call := pm_run mt (d + 3)) (d := (1, [some (.ref 5), none, none], [.ref 5], (hX I F sd))) (a := 24) (as := [.ref 5]) (hp := (hX I F sd)) (hp2 := (hX I F sd)) (i2 := 2) (ls := [some (.ref 5), none, none]) (rest := []) (r := some (.int (hdue ((F 6))))) rfl rfl (sp_X0_due_5 (d + 0) I F sd  )) ?_
  exact pm_EV_go 3 (d := (5, [some (.ref 5), some (.int (hdue ((F 6)))), some (.int 0)], [], (hX I F sd))) rfl
set_option maxRecDepth 100000 in
set_option maxHeartbeats 4000000 in
theorem tr_X0_shortBy_5_5 (d : Nat) (I : Nat → Int32) (F : Nat → Nat → Int32) (sd : Int64) (x1 : Int32) (x2 : Int32) : pm_EV (pm_run mt (d + 3)) (some .int) oX0_shortBy (5, [some (.ref 5), some (.int x1), some (.int x2)], [], (hX I F sd)) = (if x2 < ((F 6) 21) then pm_EV (pm_run mt (d + 3)) (some .int) oX0_shortBy (5, [some (.ref 5), some (.int (x1 - (hworth ((F 6)) x2 0))), some (.int (x2 + 1))], [], (hX I F sd)) else some (some (.int (if 0 < x1 then x1 else 0)), (hX I F sd))) := by
  refine Eq.trans (b := pm_EV (pm_run mt (d + 3)) (some .int) oX0_shortBy (8, [some (.ref 5), some (.int x1), some (.int x2)], [.int ((F 6) 21), .int x2], (hX I F sd))) (pm_EV_cl 2 (call := pm_run mt (d + 3)) (d := (7, [some (.ref 5), some (.int x1), some (.int x2)], [.ref 5, .int x2], (hX I F sd))) (a := 7) (as := [.ref 5]) (hp := (hX I F sd)) (hp2 := (hX I F sd)) (i2 := 8) (ls := [some (.ref 5), some (.int x1), some (.int x2)]) (rest := [.int x2]) (r := some (.int ((F 6) 21))) rfl rfl (sp_X0_foods_5 (d + 2) I F sd  )) ?_
  refine Eq.trans (pm_EV_at 0 (d := (8, [some (.ref 5), some (.int x1), some (.int x2)], [.int ((F 6) 21), .int x2], (hX I F sd))) (x := if x2 < ((F 6) 21) then .inl (9, [some (.ref 5), some (.int x1), some (.int x2)], [], (hX I F sd)) else .inl (17, [some (.ref 5), some (.int x1), some (.int x2)], [], (hX I F sd))) rfl rfl) ?_
  refine pm_rc (fun p1 => ?_) (fun p1 => ?_)
  · show pm_EV (pm_run mt (d + 3)) (some .int) oX0_shortBy (9, [some (.ref 5), some (.int x1), some (.int x2)], [], (hX I F sd)) = _
    refine Eq.trans (b := pm_EV (pm_run mt (d + 3)) (some .int) oX0_shortBy (13, [some (.ref 5), some (.int x1), some (.int x2)], [.int (hworth ((F 6)) x2 0), .int x1], (hX I F sd))) (pm_EV_cl 3 (call := pm_run mt (d + 3)) (d := (12, [some (.ref 5), some (.int x1), some (.int x2)], [.int x2, .ref 5, .int x1], (hX I F sd))) (a := 21) (as := [.ref 5, .int x2]) (hp := (hX I F sd)) (hp2 := (hX I F sd)) (i2 := 13) (ls := [some (.ref 5), some (.int x1), some (.int x2)]) (rest := [.int x1]) (r := some (.int (hworth ((F 6)) x2 0))) rfl rfl (sp_X0_worth_5 (d + 0) I F sd x2 )) ?_
    exact pm_EV_go 4 (d := (5, [some (.ref 5), some (.int (x1 - (hworth ((F 6)) x2 0))), some (.int (x2 + 1))], [], (hX I F sd))) rfl
  · show pm_EV (pm_run mt (d + 3)) (some .int) oX0_shortBy (17, [some (.ref 5), some (.int x1), some (.int x2)], [], (hX I F sd)) = _
    exact pm_EV_at 3 (d := (20, [some (.ref 5), some (.int x1), some (.int x2)], [.int (if 0 < x1 then x1 else 0)], (hX I F sd))) rfl rfl
set_option maxRecDepth 100000 in
set_option maxHeartbeats 4000000 in
theorem en_X0_shortBy_5 (d : Nat) (I : Nat → Int32) (F : Nat → Nat → Int32) (sd : Int64) : pm_run mt (d + 4) 25 [.ref 5] (hX I F sd) = pm_EV (pm_run mt (d + 3)) (some .int) oX0_shortBy (0, [some (.ref 5), none, none], [], (hX I F sd)) := rfl
set_option maxRecDepth 100000 in
set_option maxHeartbeats 4000000 in
theorem sp_X0_shortBy_5 (d : Nat) (I : Nat → Int32) (F : Nat → Nat → Int32) (sd : Int64) : pm_run mt (d + 4) 25 [.ref 5] (hX I F sd) = some (some (.int (hshort (F 6))), (hX I F sd)) := by
  rw [en_X0_shortBy_5, tr_X0_shortBy_5_0]
  have key : ∀ (m k : Nat), k + m = (F 6 21).toNatClampNeg → pm_EV (pm_run mt (d + 3)) (some .int) oX0_shortBy (5, [some (.ref 5), some (.int (hlackS (F 6) k)), some (.int (nI k))], [], hX I F sd) = some (some (.int (hshort (F 6))), hX I F sd) := by
    intro m
    induction m with
    | zero =>
      intro k hk
      have hb := cl_bd (F 6 21)
      rw [tr_X0_shortBy_5_5, if_neg (fun h => by rw [cl_lt (by omega)] at h; omega), hshort, ← hk]
      rfl
    | succ m ih =>
      intro k hk
      have hb := cl_bd (F 6 21)
      rw [tr_X0_shortBy_5_5, if_pos ((cl_lt (by omega)).mpr (by omega)), nI_p1]
      exact ih (k + 1) (by omega)
  exact key _ 0 (Nat.zero_add _)
