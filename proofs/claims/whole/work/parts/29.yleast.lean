/-! the reference: least, its loop -/
def ag21 (p q : Nat → Int32) : Prop := ∀ j, j < 21 → p j = q j
theorem plF_ag {K p q : Nat → Int32} {j : Nat} {x : Int32} (h : ag21 p q) (hj : j < 4) : ag21 (plF K p (nI j) x) (plF K q (nI j) x) := by
  intro i hi
  unfold plF
  rw [show (4 : Int32) = nI 4 from rfl, cl_add _ _ (by omega), nI_clamp (by omega), h j (by omega), h (4 + j) (by omega)]
  by_cases c : q j < pgr K (nI j) x
  · rw [if_pos c, if_pos c]; exact h i hi
  · rw [if_neg c, if_neg c]
    unfold upd
    rw [h i hi]
theorem pwS_ag {K p q : Nat → Int32} {s : Int32} (h : ag21 p q) : ∀ k, k ≤ 4 → pwS K p s k = pwS K q s k
  | 0, _ => rfl
  | k + 1, hk => by
    rw [pwS, pwS, pwS_ag h k (by omega)]
    unfold pworth
    rw [show (4 : Int32) = nI 4 from rfl, cl_add _ _ (by omega), h (4 + k) (by omega)]
theorem pdue_ag {p q : Nat → Int32} (h : ag21 p q) : pdue p = pdue q := by
  unfold pdue
  rw [h 8 (by decide), h 9 (by decide), h 10 (by decide), h 11 (by decide)]
theorem pwo_ag {K p q : Nat → Int32} {s n : Int32} (h : ag21 p q) (hn : inr n 5 = true) : pwo K p n s = pwo K q n s := by
  obtain ⟨k, hk, rfl⟩ := inr_nI (n := 5) (by decide) hn
  unfold pwo
  rw [nI_clamp (by omega), pwS_ag h k (by omega)]
theorem pshort_ag {K p q : Nat → Int32} {n : Int32} (h : ag21 p q) (hn : inr n 5 = true) : pshort K p n = pshort K q n := by
  unfold pshort
  rw [pdue_ag h, pwo_ag h hn]
theorem lvL_ag {K : Nat → Int32} {z n : Nat} (hn : n ≤ 4) : ∀ (m j : Nat) (p q : Nat → Int32) (s : Int32), j + m = n → ag21 p q → (lvL K z n m j p s).1 = (lvL K z n m j q s).1 ∧ ag21 (lvL K z n m j p s).2 (lvL K z n m j q s).2
  | 0, _, _, _, _, _, h => ⟨rfl, h⟩
  | m + 1, j, p, q, s, hj, h => by
    rw [lvL, lvL, h j (by omega)]
    have h2 := plF_ag (K := K) (x := lvD z n j) h (show j < 4 by omega)
    by_cases c : q j < pgr K (nI j) (lvD z n j)
    · rw [if_pos c, if_pos c]; exact ⟨rfl, h2⟩
    · rw [if_neg c, if_neg c]; exact lvL_ag hn m (j + 1) _ _ _ (by omega) h2
def leV (K p : Nat → Int32) (n z : Nat) : Int32 × (Nat → Int32) := lvL K z n n 0 p 0
def leT (K p : Nat → Int32) (n z : Nat) (b : Int32 × Int32) : Int32 × Int32 := if (leV K p n z).1 = -9 then b else if pshort K (leV K p n z).2 (nI n) = 0 then (if b.1 = -9 then ((leV K p n z).1, nI z) else if (leV K p n z).1 < b.1 then ((leV K p n z).1, nI z) else b) else b
def leL (K p : Nat → Int32) (n : Nat) : Nat → Int32 × Int32
  | 0 => (-9, -9)
  | z + 1 => leT K p n z (leL K p n z)
def leQ (K p q : Nat → Int32) (n : Nat) : Nat → Nat → Int32
  | 0 => q
  | z + 1 => (lvR K p (leQ K p q n z) (nI n) (nI z)).2
theorem ag_cpy (p q : Nat → Int32) : ag21 (va_cpy p q 0 0 21) p := fun _ hj => cpy_in hj
def leB (K p : Nat → Int32) (nf : Int32) : Int32 × Int32 := leL K p nf.toNatClampNeg (10 ^ nf.toNatClampNeg)
def leA (K p : Nat → Int32) (nf w : Int32) : Int32 := if inr w 2 = false then -2 else if w = 0 then (leB K p nf).1 else (leB K p nf).2
def le24 (K p : Nat → Int32) (nf w x : Int32) : Int32 := if inr w 2 = false then x else (leB K p nf).1
def le25 (K p : Nat → Int32) (nf w x : Int32) : Int32 := if inr w 2 = false then x else (leB K p nf).2
def le6 (K p q : Nat → Int32) (nf w : Int32) : Nat → Int32 := if inr w 2 = false then q else leQ K p q nf.toNatClampNeg (10 ^ nf.toNatClampNeg)
set_option maxRecDepth 100000 in
set_option maxHeartbeats 4000000 in
theorem tr_X8_least_0_0 (d : Nat) (I : Nat → Int32) (F : Nat → Nat → Int32) (sd : Int64) (w : Int32) : pm_EV (pm_run mt (d + 3)) (some .int) oX8_least (0, [some (.ref 0), some (.int w), none, none], [], (hY I F sd)) = (if (bI (lin ((w : Int32).toInt64) 0 1)) = 0 then some (some (.int (-2)), (hY (upd I 0 0) F sd)) else pm_EV (pm_run mt (d + 3)) (some .int) oX8_least (19, [some (.ref 0), some (.int w), some (.int 0), none], [], (hY (upd (upd (upd I 0 0) 24 (-9)) 25 (-9)) F sd))) := by
  refine Eq.trans (b := pm_EV (pm_run mt (d + 3)) (some .int) oX8_least (8, [some (.ref 0), some (.int w), none, none], [.int (bI (lin ((w : Int32).toInt64) 0 1))], (hY (upd I 0 0) F sd))) (pm_EV_cl 7 (call := pm_run mt (d + 3)) (d := (7, [some (.ref 0), some (.int w), none, none], [.long 1, .long 0, .long ((w : Int32).toInt64)], (hY (upd I 0 0) F sd))) (a := 106) (as := [.long ((w : Int32).toInt64), .long 0, .long 1]) (hp := (hY (upd I 0 0) F sd)) (hp2 := (hY (upd I 0 0) F sd)) (i2 := 8) (ls := [some (.ref 0), some (.int w), none, none]) (rest := []) (r := some (.int (bI (lin ((w : Int32).toInt64) 0 1)))) rfl rfl (sp_X8_in (d + 2) (upd I 0 0) F sd ((w : Int32).toInt64) 0 1 )) ?_
  refine Eq.trans (pm_EV_at 0 (d := (8, [some (.ref 0), some (.int w), none, none], [.int (bI (lin ((w : Int32).toInt64) 0 1))], (hY (upd I 0 0) F sd))) (x := if (bI (lin ((w : Int32).toInt64) 0 1)) = 0 then .inl (9, [some (.ref 0), some (.int w), none, none], [], (hY (upd I 0 0) F sd)) else .inl (11, [some (.ref 0), some (.int w), none, none], [], (hY (upd I 0 0) F sd))) rfl rfl) ?_
  refine pm_rc (fun p1 => ?_) (fun p1 => ?_)
  · show pm_EV (pm_run mt (d + 3)) (some .int) oX8_least (9, [some (.ref 0), some (.int w), none, none], [], (hY (upd I 0 0) F sd)) = _
    exact pm_EV_at 1 (d := (10, [some (.ref 0), some (.int w), none, none], [.int (-2)], (hY (upd I 0 0) F sd))) rfl rfl
  · show pm_EV (pm_run mt (d + 3)) (some .int) oX8_least (11, [some (.ref 0), some (.int w), none, none], [], (hY (upd I 0 0) F sd)) = _
    exact pm_EV_go 8 (d := (19, [some (.ref 0), some (.int w), some (.int 0), none], [], (hY (upd (upd (upd I 0 0) 24 (-9)) 25 (-9)) F sd))) rfl
set_option maxRecDepth 100000 in
set_option maxHeartbeats 4000000 in
theorem tr_X8_least_0_19 (d : Nat) (I : Nat → Int32) (F : Nat → Nat → Int32) (sd : Int64) (w : Int32) (x2 : Int32) (o3 : Option Value) (g1 : (x2 < (ypow 10 (I 5))) → inr ((I 5)) 5 = true) (g2 : (x2 < (ypow 10 (I 5))) → inr x2 100000 = true) (g3 : (x2 < (ypow 10 (I 5))) → (¬ (((lvR ((F 2)) ((F 5)) ((F 6)) ((I 5)) x2).1) = (-9))) → inr ((I 5)) 5 = true) : pm_EV (pm_run mt (d + 3)) (some .int) oX8_least (19, [some (.ref 0), some (.int w), some (.int x2), o3], [], (hY I F sd)) = (if x2 < (ypow 10 (I 5)) then (if ((lvR ((F 2)) ((F 5)) ((F 6)) ((I 5)) x2).1) = (-9) then pm_EV (pm_run mt (d + 3)) (some .int) oX8_least (19, [some (.ref 0), some (.int w), some (.int (x2 + 1)), some (.int ((lvR ((F 2)) ((F 5)) ((F 6)) ((I 5)) x2).1))], [], (hY I (uF F 6 ((lvR ((F 2)) ((F 5)) ((F 6)) ((I 5)) x2).2)) sd)) else (if (pshort ((F 2)) (((lvR ((F 2)) ((F 5)) ((F 6)) ((I 5)) x2).2)) ((I 5))) = 0 then (if (I 24) = (-9) then pm_EV (pm_run mt (d + 3)) (some .int) oX8_least (19, [some (.ref 0), some (.int w), some (.int (x2 + 1)), some (.int ((lvR ((F 2)) ((F 5)) ((F 6)) ((I 5)) x2).1))], [], (hY (upd (upd I 24 ((lvR ((F 2)) ((F 5)) ((F 6)) ((I 5)) x2).1)) 25 x2) (uF F 6 ((lvR ((F 2)) ((F 5)) ((F 6)) ((I 5)) x2).2)) sd)) else (if ((lvR ((F 2)) ((F 5)) ((F 6)) ((I 5)) x2).1) < (I 24) then pm_EV (pm_run mt (d + 3)) (some .int) oX8_least (19, [some (.ref 0), some (.int w), some (.int (x2 + 1)), some (.int ((lvR ((F 2)) ((F 5)) ((F 6)) ((I 5)) x2).1))], [], (hY (upd (upd I 24 ((lvR ((F 2)) ((F 5)) ((F 6)) ((I 5)) x2).1)) 25 x2) (uF F 6 ((lvR ((F 2)) ((F 5)) ((F 6)) ((I 5)) x2).2)) sd)) else pm_EV (pm_run mt (d + 3)) (some .int) oX8_least (19, [some (.ref 0), some (.int w), some (.int (x2 + 1)), some (.int ((lvR ((F 2)) ((F 5)) ((F 6)) ((I 5)) x2).1))], [], (hY I (uF F 6 ((lvR ((F 2)) ((F 5)) ((F 6)) ((I 5)) x2).2)) sd)))) else pm_EV (pm_run mt (d + 3)) (some .int) oX8_least (19, [some (.ref 0), some (.int w), some (.int (x2 + 1)), some (.int ((lvR ((F 2)) ((F 5)) ((F 6)) ((I 5)) x2).1))], [], (hY I (uF F 6 ((lvR ((F 2)) ((F 5)) ((F 6)) ((I 5)) x2).2)) sd)))) else (if w = 0 then some (some (.int (I 24)), (hY I F sd)) else some (some (.int (I 25)), (hY I F sd)))) := by
  refine Eq.trans (b := pm_EV (pm_run mt (d + 3)) (some .int) oX8_least (24, [some (.ref 0), some (.int w), some (.int x2), o3], [.int (ypow 10 (I 5)), .int x2], (hY I F sd))) (pm_EV_cl 4 (call := pm_run mt (d + 3)) (d := (23, [some (.ref 0), some (.int w), some (.int x2), o3], [.int (I 5), .int 10, .int x2], (hY I F sd))) (a := 109) (as := [.int 10, .int (I 5)]) (hp := (hY I F sd)) (hp2 := (hY I F sd)) (i2 := 24) (ls := [some (.ref 0), some (.int w), some (.int x2), o3]) (rest := [.int x2]) (r := some (.int (ypow 10 (I 5)))) rfl rfl (sp_X8_power (d + 2) I F sd 10 (I 5) )) ?_
  refine Eq.trans (pm_EV_at 0 (d := (24, [some (.ref 0), some (.int w), some (.int x2), o3], [.int (ypow 10 (I 5)), .int x2], (hY I F sd))) (x := if x2 < (ypow 10 (I 5)) then .inl (25, [some (.ref 0), some (.int w), some (.int x2), o3], [], (hY I F sd)) else .inl (53, [some (.ref 0), some (.int w), some (.int x2), o3], [], (hY I F sd))) rfl rfl) ?_
  refine pm_rc (fun p1 => ?_) (fun p1 => ?_)
  · show pm_EV (pm_run mt (d + 3)) (some .int) oX8_least (25, [some (.ref 0), some (.int w), some (.int x2), o3], [], (hY I F sd)) = _
    refine Eq.trans (b := pm_EV (pm_run mt (d + 3)) (some .int) oX8_least (28, [some (.ref 0), some (.int w), some (.int x2), o3], [.int ((lvR ((F 2)) ((F 5)) ((F 6)) ((I 5)) x2).1)], (hY I (uF F 6 ((lvR ((F 2)) ((F 5)) ((F 6)) ((I 5)) x2).2)) sd))) (pm_EV_cl 2 (call := pm_run mt (d + 3)) (d := (27, [some (.ref 0), some (.int w), some (.int x2), o3], [.int x2, .ref 0], (hY I F sd))) (a := 148) (as := [.ref 0, .int x2]) (hp := (hY I F sd)) (hp2 := (hY I (uF F 6 ((lvR ((F 2)) ((F 5)) ((F 6)) ((I 5)) x2).2)) sd)) (i2 := 28) (ls := [some (.ref 0), some (.int w), some (.int x2), o3]) (rest := []) (r := some (.int ((lvR ((F 2)) ((F 5)) ((F 6)) ((I 5)) x2).1))) rfl rfl (sp_X8_leaves_0 (d + 0) I F sd x2 (g1 p1) (g2 p1))) ?_
    refine Eq.trans (pm_EV_at 3 (d := (31, [some (.ref 0), some (.int w), some (.int x2), some (.int ((lvR ((F 2)) ((F 5)) ((F 6)) ((I 5)) x2).1))], [.int (-9), .int ((lvR ((F 2)) ((F 5)) ((F 6)) ((I 5)) x2).1)], (hY I (uF F 6 ((lvR ((F 2)) ((F 5)) ((F 6)) ((I 5)) x2).2)) sd))) (x := if ((lvR ((F 2)) ((F 5)) ((F 6)) ((I 5)) x2).1) = (-9) then .inl (51, [some (.ref 0), some (.int w), some (.int x2), some (.int ((lvR ((F 2)) ((F 5)) ((F 6)) ((I 5)) x2).1))], [], (hY I (uF F 6 ((lvR ((F 2)) ((F 5)) ((F 6)) ((I 5)) x2).2)) sd)) else .inl (32, [some (.ref 0), some (.int w), some (.int x2), some (.int ((lvR ((F 2)) ((F 5)) ((F 6)) ((I 5)) x2).1))], [], (hY I (uF F 6 ((lvR ((F 2)) ((F 5)) ((F 6)) ((I 5)) x2).2)) sd))) rfl rfl) ?_
    refine pm_rc (fun p2 => ?_) (fun p2 => ?_)
    · show pm_EV (pm_run mt (d + 3)) (some .int) oX8_least (51, [some (.ref 0), some (.int w), some (.int x2), some (.int ((lvR ((F 2)) ((F 5)) ((F 6)) ((I 5)) x2).1))], [], (hY I (uF F 6 ((lvR ((F 2)) ((F 5)) ((F 6)) ((I 5)) x2).2)) sd)) = _
      exact pm_EV_go 2 (d := (19, [some (.ref 0), some (.int w), some (.int (x2 + 1)), some (.int ((lvR ((F 2)) ((F 5)) ((F 6)) ((I 5)) x2).1))], [], (hY I (uF F 6 ((lvR ((F 2)) ((F 5)) ((F 6)) ((I 5)) x2).2)) sd))) rfl
    · show pm_EV (pm_run mt (d + 3)) (some .int) oX8_least (32, [some (.ref 0), some (.int w), some (.int x2), some (.int ((lvR ((F 2)) ((F 5)) ((F 6)) ((I 5)) x2).1))], [], (hY I (uF F 6 ((lvR ((F 2)) ((F 5)) ((F 6)) ((I 5)) x2).2)) sd)) = _
      refine Eq.trans (b := pm_EV (pm_run mt (d + 3)) (some .int) oX8_least (36, [some (.ref 0), some (.int w), some (.int x2), some (.int ((lvR ((F 2)) ((F 5)) ((F 6)) ((I 5)) x2).1))], [.int (pshort ((F 2)) (((lvR ((F 2)) ((F 5)) ((F 6)) ((I 5)) x2).2)) ((I 5)))], (hY I (uF F 6 ((lvR ((F 2)) ((F 5)) ((F 6)) ((I 5)) x2).2)) sd))) (pm_EV_cl 3 (call := pm_run mt (d + 3)) (d := (35, [some (.ref 0), some (.int w), some (.int x2), some (.int ((lvR ((F 2)) ((F 5)) ((F 6)) ((I 5)) x2).1))], [.ref 6, .ref 0], (hY I (uF F 6 ((lvR ((F 2)) ((F 5)) ((F 6)) ((I 5)) x2).2)) sd))) (a := 126) (as := [.ref 0, .ref 6]) (hp := (hY I (uF F 6 ((lvR ((F 2)) ((F 5)) ((F 6)) ((I 5)) x2).2)) sd)) (hp2 := (hY I (uF F 6 ((lvR ((F 2)) ((F 5)) ((F 6)) ((I 5)) x2).2)) sd)) (i2 := 36) (ls := [some (.ref 0), some (.int w), some (.int x2), some (.int ((lvR ((F 2)) ((F 5)) ((F 6)) ((I 5)) x2).1))]) (rest := []) (r := some (.int (pshort ((F 2)) (((lvR ((F 2)) ((F 5)) ((F 6)) ((I 5)) x2).2)) ((I 5))))) rfl rfl (sp_X8_shortOf_0_6 (d + 0) I (uF F 6 ((lvR ((F 2)) ((F 5)) ((F 6)) ((I 5)) x2).2)) sd  (g3 p1 p2))) ?_
      refine Eq.trans (pm_EV_at 0 (d := (36, [some (.ref 0), some (.int w), some (.int x2), some (.int ((lvR ((F 2)) ((F 5)) ((F 6)) ((I 5)) x2).1))], [.int (pshort ((F 2)) (((lvR ((F 2)) ((F 5)) ((F 6)) ((I 5)) x2).2)) ((I 5)))], (hY I (uF F 6 ((lvR ((F 2)) ((F 5)) ((F 6)) ((I 5)) x2).2)) sd))) (x := if (pshort ((F 2)) (((lvR ((F 2)) ((F 5)) ((F 6)) ((I 5)) x2).2)) ((I 5))) = 0 then .inl (37, [some (.ref 0), some (.int w), some (.int x2), some (.int ((lvR ((F 2)) ((F 5)) ((F 6)) ((I 5)) x2).1))], [], (hY I (uF F 6 ((lvR ((F 2)) ((F 5)) ((F 6)) ((I 5)) x2).2)) sd)) else .inl (51, [some (.ref 0), some (.int w), some (.int x2), some (.int ((lvR ((F 2)) ((F 5)) ((F 6)) ((I 5)) x2).1))], [], (hY I (uF F 6 ((lvR ((F 2)) ((F 5)) ((F 6)) ((I 5)) x2).2)) sd))) rfl rfl) ?_
      refine pm_rc (fun p3 => ?_) (fun p3 => ?_)
      · show pm_EV (pm_run mt (d + 3)) (some .int) oX8_least (37, [some (.ref 0), some (.int w), some (.int x2), some (.int ((lvR ((F 2)) ((F 5)) ((F 6)) ((I 5)) x2).1))], [], (hY I (uF F 6 ((lvR ((F 2)) ((F 5)) ((F 6)) ((I 5)) x2).2)) sd)) = _
        refine Eq.trans (pm_EV_at 3 (d := (40, [some (.ref 0), some (.int w), some (.int x2), some (.int ((lvR ((F 2)) ((F 5)) ((F 6)) ((I 5)) x2).1))], [.int (-9), .int (I 24)], (hY I (uF F 6 ((lvR ((F 2)) ((F 5)) ((F 6)) ((I 5)) x2).2)) sd))) (x := if (I 24) = (-9) then .inl (45, [some (.ref 0), some (.int w), some (.int x2), some (.int ((lvR ((F 2)) ((F 5)) ((F 6)) ((I 5)) x2).1))], [], (hY I (uF F 6 ((lvR ((F 2)) ((F 5)) ((F 6)) ((I 5)) x2).2)) sd)) else .inl (41, [some (.ref 0), some (.int w), some (.int x2), some (.int ((lvR ((F 2)) ((F 5)) ((F 6)) ((I 5)) x2).1))], [], (hY I (uF F 6 ((lvR ((F 2)) ((F 5)) ((F 6)) ((I 5)) x2).2)) sd))) rfl rfl) ?_
        refine pm_rc (fun p4 => ?_) (fun p4 => ?_)
        · show pm_EV (pm_run mt (d + 3)) (some .int) oX8_least (45, [some (.ref 0), some (.int w), some (.int x2), some (.int ((lvR ((F 2)) ((F 5)) ((F 6)) ((I 5)) x2).1))], [], (hY I (uF F 6 ((lvR ((F 2)) ((F 5)) ((F 6)) ((I 5)) x2).2)) sd)) = _
          exact pm_EV_go 8 (d := (19, [some (.ref 0), some (.int w), some (.int (x2 + 1)), some (.int ((lvR ((F 2)) ((F 5)) ((F 6)) ((I 5)) x2).1))], [], (hY (upd (upd I 24 ((lvR ((F 2)) ((F 5)) ((F 6)) ((I 5)) x2).1)) 25 x2) (uF F 6 ((lvR ((F 2)) ((F 5)) ((F 6)) ((I 5)) x2).2)) sd))) rfl
        · show pm_EV (pm_run mt (d + 3)) (some .int) oX8_least (41, [some (.ref 0), some (.int w), some (.int x2), some (.int ((lvR ((F 2)) ((F 5)) ((F 6)) ((I 5)) x2).1))], [], (hY I (uF F 6 ((lvR ((F 2)) ((F 5)) ((F 6)) ((I 5)) x2).2)) sd)) = _
          refine Eq.trans (pm_EV_at 3 (d := (44, [some (.ref 0), some (.int w), some (.int x2), some (.int ((lvR ((F 2)) ((F 5)) ((F 6)) ((I 5)) x2).1))], [.int (I 24), .int ((lvR ((F 2)) ((F 5)) ((F 6)) ((I 5)) x2).1)], (hY I (uF F 6 ((lvR ((F 2)) ((F 5)) ((F 6)) ((I 5)) x2).2)) sd))) (x := if ((lvR ((F 2)) ((F 5)) ((F 6)) ((I 5)) x2).1) < (I 24) then .inl (45, [some (.ref 0), some (.int w), some (.int x2), some (.int ((lvR ((F 2)) ((F 5)) ((F 6)) ((I 5)) x2).1))], [], (hY I (uF F 6 ((lvR ((F 2)) ((F 5)) ((F 6)) ((I 5)) x2).2)) sd)) else .inl (51, [some (.ref 0), some (.int w), some (.int x2), some (.int ((lvR ((F 2)) ((F 5)) ((F 6)) ((I 5)) x2).1))], [], (hY I (uF F 6 ((lvR ((F 2)) ((F 5)) ((F 6)) ((I 5)) x2).2)) sd))) rfl rfl) ?_
          refine pm_rc (fun p5 => ?_) (fun p5 => ?_)
          · show pm_EV (pm_run mt (d + 3)) (some .int) oX8_least (45, [some (.ref 0), some (.int w), some (.int x2), some (.int ((lvR ((F 2)) ((F 5)) ((F 6)) ((I 5)) x2).1))], [], (hY I (uF F 6 ((lvR ((F 2)) ((F 5)) ((F 6)) ((I 5)) x2).2)) sd)) = _
            exact pm_EV_go 8 (d := (19, [some (.ref 0), some (.int w), some (.int (x2 + 1)), some (.int ((lvR ((F 2)) ((F 5)) ((F 6)) ((I 5)) x2).1))], [], (hY (upd (upd I 24 ((lvR ((F 2)) ((F 5)) ((F 6)) ((I 5)) x2).1)) 25 x2) (uF F 6 ((lvR ((F 2)) ((F 5)) ((F 6)) ((I 5)) x2).2)) sd))) rfl
          · show pm_EV (pm_run mt (d + 3)) (some .int) oX8_least (51, [some (.ref 0), some (.int w), some (.int x2), some (.int ((lvR ((F 2)) ((F 5)) ((F 6)) ((I 5)) x2).1))], [], (hY I (uF F 6 ((lvR ((F 2)) ((F 5)) ((F 6)) ((I 5)) x2).2)) sd)) = _
            exact pm_EV_go 2 (d := (19, [some (.ref 0), some (.int w), some (.int (x2 + 1)), some (.int ((lvR ((F 2)) ((F 5)) ((F 6)) ((I 5)) x2).1))], [], (hY I (uF F 6 ((lvR ((F 2)) ((F 5)) ((F 6)) ((I 5)) x2).2)) sd))) rfl
      · show pm_EV (pm_run mt (d + 3)) (some .int) oX8_least (51, [some (.ref 0), some (.int w), some (.int x2), some (.int ((lvR ((F 2)) ((F 5)) ((F 6)) ((I 5)) x2).1))], [], (hY I (uF F 6 ((lvR ((F 2)) ((F 5)) ((F 6)) ((I 5)) x2).2)) sd)) = _
        exact pm_EV_go 2 (d := (19, [some (.ref 0), some (.int w), some (.int (x2 + 1)), some (.int ((lvR ((F 2)) ((F 5)) ((F 6)) ((I 5)) x2).1))], [], (hY I (uF F 6 ((lvR ((F 2)) ((F 5)) ((F 6)) ((I 5)) x2).2)) sd))) rfl
  · show pm_EV (pm_run mt (d + 3)) (some .int) oX8_least (53, [some (.ref 0), some (.int w), some (.int x2), o3], [], (hY I F sd)) = _
    refine Eq.trans (pm_EV_at 1 (d := (54, [some (.ref 0), some (.int w), some (.int x2), o3], [.int w], (hY I F sd))) (x := if w = 0 then .inl (55, [some (.ref 0), some (.int w), some (.int x2), o3], [], (hY I F sd)) else .inl (58, [some (.ref 0), some (.int w), some (.int x2), o3], [], (hY I F sd))) rfl rfl) ?_
    refine pm_rc (fun p2 => ?_) (fun p2 => ?_)
    · show pm_EV (pm_run mt (d + 3)) (some .int) oX8_least (55, [some (.ref 0), some (.int w), some (.int x2), o3], [], (hY I F sd)) = _
      exact pm_EV_at 3 (d := (60, [some (.ref 0), some (.int w), some (.int x2), o3], [.int (I 24)], (hY I F sd))) rfl rfl
    · show pm_EV (pm_run mt (d + 3)) (some .int) oX8_least (58, [some (.ref 0), some (.int w), some (.int x2), o3], [], (hY I F sd)) = _
      exact pm_EV_at 2 (d := (60, [some (.ref 0), some (.int w), some (.int x2), o3], [.int (I 25)], (hY I F sd))) rfl rfl
set_option maxRecDepth 100000 in
set_option maxHeartbeats 4000000 in
theorem en_X8_least_0 (d : Nat) (I : Nat → Int32) (F : Nat → Nat → Int32) (sd : Int64) (w : Int32) : pm_run mt (d + 4) 149 [.ref 0, .int w] (hY I F sd) = pm_EV (pm_run mt (d + 3)) (some .int) oX8_least (0, [some (.ref 0), some (.int w), none, none], [], (hY I F sd)) := rfl
set_option maxRecDepth 100000 in
set_option maxHeartbeats 4000000 in
theorem sp_X8_least_0 (d : Nat) (I : Nat → Int32) (F : Nat → Nat → Int32) (sd : Int64) (w : Int32) (h1 : inr (I 5) 5 = true) : pm_run mt (d + 4) 149 [.ref 0, .int w] (hY I F sd) = some (some (.int (leA (F 2) (F 5) (I 5) w)), (hY (upd (upd (upd I 0 0) 24 (le24 (F 2) (F 5) (I 5) w (I 24))) 25 (le25 (F 2) (F 5) (I 5) w (I 25))) (uF F 6 (le6 (F 2) (F 5) (F 6) (I 5) w)) sd)) := by
  obtain ⟨n, hn, e⟩ := inr_nI (n := 5) (by decide) h1
  rw [en_X8_least_0, tr_X8_least_0_0, lin01]
  simp only [bI_0]
  unfold leA le24 le25 le6 leB
  cases c1 : inr w 2
  · simp only [if_true]
    rw [uF_self, upd_c0 _ _ (by decide), upd_c0 _ _ (by decide)]
  · simp only [Bool.true_eq_false, if_false]
    rw [e, nI_clamp (by omega)]
    have hp := p10 (show n ≤ 5 by omega)
    have ep : ypow 10 (nI n) = nI (10 ^ n) := by unfold ypow; rw [nI_clamp (by omega)]; exact ypS_N 10 n
    have key : ∀ (m z : Nat) (J : Nat → Int32) (o3 : Option Value), z + m = 10 ^ n → J = upd (upd (upd I 0 0) 24 (leL (F 2) (F 5) n z).1) 25 (leL (F 2) (F 5) n z).2 → pm_EV (pm_run mt (d + 3)) (some .int) oX8_least (19, [some (.ref 0), some (.int w), some (.int (nI z)), o3], [], hY J (uF F 6 (leQ (F 2) (F 5) (F 6) n z)) sd) = some (some (.int (if w = 0 then (leL (F 2) (F 5) n (10 ^ n)).1 else (leL (F 2) (F 5) n (10 ^ n)).2)), hY (upd (upd (upd I 0 0) 24 (leL (F 2) (F 5) n (10 ^ n)).1) 25 (leL (F 2) (F 5) n (10 ^ n)).2) (uF F 6 (leQ (F 2) (F 5) (F 6) n (10 ^ n))) sd) := by
      intro m
      induction m with
      | zero =>
        intro z J o3 hz hJ
        have hJ5 : J 5 = nI n := by rw [hJ, upd_ne _ _ (by decide), upd_ne _ _ (by decide), upd_ne _ _ (by decide), e]
        have no : ¬ nI z < ypow 10 (J 5) := fun h => by rw [hJ5, ep, nI_ltI (by omega) (by omega)] at h; omega
        rw [tr_X8_least_0_19 _ _ _ _ _ _ _ (fun h => absurd h no) (fun h => absurd h no) (fun h => absurd h no), if_neg no, show z = 10 ^ n by omega, hJ, show z = 10 ^ n by omega]
        simp only [pm_pi]
        rfl
      | succ m ih =>
        intro z J o3 hz hJ
        have hJ5 : J 5 = nI n := by rw [hJ, upd_ne _ _ (by decide), upd_ne _ _ (by decide), upd_ne _ _ (by decide), e]
        have hJ24 : J 24 = (leL (F 2) (F 5) n z).1 := by rw [hJ, upd_ne _ _ (by decide), upd_at]
        have h5 : inr (J 5) 5 = true := by rw [hJ5, ← e]; exact h1
        have hx : inr (nI z) 100000 = true := inr_mk (n := 100000) (by decide) (by omega)
        rw [tr_X8_least_0_19 _ _ _ _ _ _ _ (fun _ => h5) (fun _ => hx) (fun _ _ => h5), if_pos (by rw [hJ5, ep, nI_ltI (by omega) (by omega)]; omega), nI_p1]
        simp only [uF_uF, uF_at, uF_ne F _ (show (2 : Nat) ≠ 6 by decide), uF_ne F _ (show (5 : Nat) ≠ 6 by decide), hJ5, hJ24]
        have hag := lvL_ag (K := F 2) (z := z) (show n ≤ 4 by omega) n 0 (va_cpy (F 5) (leQ (F 2) (F 5) (F 6) n z) 0 0 21) (F 5) 0 (Nat.zero_add n) (ag_cpy _ _)
        have e1 : (lvR (F 2) (F 5) (leQ (F 2) (F 5) (F 6) n z) (nI n) (nI z)).1 = (leV (F 2) (F 5) n z).1 := by
          unfold lvR
          rw [nI_clamp (by omega), nI_clamp (by omega)]
          exact hag.1
        have e2 : pshort (F 2) (lvR (F 2) (F 5) (leQ (F 2) (F 5) (F 6) n z) (nI n) (nI z)).2 (nI n) = pshort (F 2) (leV (F 2) (F 5) n z).2 (nI n) := by
          unfold lvR
          rw [nI_clamp (by omega), nI_clamp (by omega)]
          exact pshort_ag hag.2 (by rw [← e]; exact h1)
        have eq : (lvR (F 2) (F 5) (leQ (F 2) (F 5) (F 6) n z) (nI n) (nI z)).2 = leQ (F 2) (F 5) (F 6) n (z + 1) := rfl
        rw [e1, e2, eq]
        have uu : ∀ x y : Int32, upd (upd J 24 x) 25 y = upd (upd (upd I 0 0) 24 x) 25 y := by
          intro x y
          rw [hJ, upd_22 _ (by decide)]
        have hl : leL (F 2) (F 5) n (z + 1) = leT (F 2) (F 5) n z (leL (F 2) (F 5) n z) := rfl
        unfold leT at hl
        by_cases c2 : (leV (F 2) (F 5) n z).1 = -9
        · rw [if_pos c2] at hl
          rw [if_pos c2]
          exact ih (z + 1) J _ (by omega) (by rw [hl]; exact hJ)
        · rw [if_neg c2] at hl
          rw [if_neg c2]
          by_cases c3 : pshort (F 2) (leV (F 2) (F 5) n z).2 (nI n) = 0
          · rw [if_pos c3] at hl
            rw [if_pos c3]
            by_cases c4 : (leL (F 2) (F 5) n z).1 = -9
            · rw [if_pos c4] at hl
              rw [if_pos c4]
              exact ih (z + 1) _ _ (by omega) (by rw [hl, uu])
            · rw [if_neg c4] at hl
              rw [if_neg c4]
              by_cases c5 : (leV (F 2) (F 5) n z).1 < (leL (F 2) (F 5) n z).1
              · rw [if_pos c5] at hl
                rw [if_pos c5]
                exact ih (z + 1) _ _ (by omega) (by rw [hl, uu])
              · rw [if_neg c5] at hl
                rw [if_neg c5]
                exact ih (z + 1) J _ (by omega) (by rw [hl]; exact hJ)
          · rw [if_neg c3] at hl
            rw [if_neg c3]
            exact ih (z + 1) J _ (by omega) (by rw [hl]; exact hJ)
    have h0 := key (10 ^ n) 0 _ none (Nat.zero_add _) rfl
    rw [show leQ (F 2) (F 5) (F 6) n 0 = F 6 from rfl, uF_self] at h0
    exact h0
