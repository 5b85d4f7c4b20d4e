/-! the reference: its page -/
def pworth (K p : Nat → Int32) (f : Int32) : Int32 := if K f.toNatClampNeg = 1 then 2 * p (4 + f).toNatClampNeg else if K f.toNatClampNeg = 2 then p (4 + f).toNatClampNeg / 2 else p (4 + f).toNatClampNeg
def pwS (K p : Nat → Int32) (s : Int32) : Nat → Int32
  | 0 => 0
  | k + 1 => if yhas s (nI k) = false then pwS K p s k + 0 else pwS K p s k + pworth K p (nI k)
def pwo (K p : Nat → Int32) (n s : Int32) : Int32 := pwS K p s n.toNatClampNeg
def pdue (p : Nat → Int32) : Int32 := (((p 8 + p 9) + p 10) + p 11) / 10
def pshort (K p : Nat → Int32) (n : Int32) : Int32 := if 0 < pdue p - pwo K p n 15 then pdue p - pwo K p n 15 else 0
def pgr (K : Nat → Int32) (f n : Int32) : Int32 := if K f.toNatClampNeg = 3 then 10 * n else n
theorem in_add {f : Int32} {a n m : Nat} (hm : a + n ≤ m) (hm2 : m < 2 ^ 31) (h : inr f (nI n) = true) : pm_in (nI a + f) m = true := by
  obtain ⟨k, hk, rfl⟩ := inr_nI (by omega) h
  rw [nI_add]
  exact pm_in_nI (by omega) hm2
theorem in_le {f : Int32} {n m : Nat} (hm : n ≤ m) (hm2 : m < 2 ^ 31) (h : inr f (nI n) = true) : pm_in f m = true := by
  obtain ⟨k, hk, rfl⟩ := inr_nI (by omega) h
  exact pm_in_nI (by omega) hm2
set_option maxRecDepth 100000 in
set_option maxHeartbeats 4000000 in
theorem tr_X8_worth_0_5_0 (d : Nat) (I : Nat → Int32) (F : Nat → Nat → Int32) (sd : Int64) (f : Int32) (g1 : pm_in (4 + f) 21 = true) (g2 : pm_in f 4 = true) (g3 : (¬ (((F 2) f.toNatClampNeg) = 1)) → pm_in f 4 = true) : pm_EV (pm_run mt (d + 0)) (some .int) oX8_worth (0, [some (.ref 0), some (.ref 5), some (.int f), none], [], (hY I F sd)) = (if ((F 2) f.toNatClampNeg) = 1 then some (some (.int (2 * ((F 5) (4 + f).toNatClampNeg))), (hY I F sd)) else (if ((F 2) f.toNatClampNeg) = 2 then some (some (.int (((F 5) (4 + f).toNatClampNeg) / 2)), (hY I F sd)) else some (some (.int ((F 5) (4 + f).toNatClampNeg)), (hY I F sd)))) := by
  refine Eq.trans (b := pm_EV (pm_run mt (d + 0)) (some .int) oX8_worth (5, [some (.ref 0), some (.ref 5), some (.int f), none], [.int ((F 5) (4 + f).toNatClampNeg)], (hY I F sd))) (pm_EV_gd 4 (d := (4, [some (.ref 0), some (.ref 5), some (.int f), none], [.int (4 + f), .ref 5], (hY I F sd))) (c1 := (5, [some (.ref 0), some (.ref 5), some (.int f), none], [.int ((F 5) (4 + f).toNatClampNeg)], (hY I F sd))) rfl rfl (⟨rfl, g1⟩)) ?_
  refine Eq.trans (b := pm_EV (pm_run mt (d + 0)) (some .int) oX8_worth (10, [some (.ref 0), some (.ref 5), some (.int f), some (.int ((F 5) (4 + f).toNatClampNeg))], [.int ((F 2) f.toNatClampNeg)], (hY I F sd))) (pm_EV_gd 4 (d := (9, [some (.ref 0), some (.ref 5), some (.int f), some (.int ((F 5) (4 + f).toNatClampNeg))], [.int f, .ref 2], (hY I F sd))) (c1 := (10, [some (.ref 0), some (.ref 5), some (.int f), some (.int ((F 5) (4 + f).toNatClampNeg))], [.int ((F 2) f.toNatClampNeg)], (hY I F sd))) rfl rfl (⟨rfl, g2⟩)) ?_
  refine Eq.trans (pm_EV_at 1 (d := (11, [some (.ref 0), some (.ref 5), some (.int f), some (.int ((F 5) (4 + f).toNatClampNeg))], [.int 1, .int ((F 2) f.toNatClampNeg)], (hY I F sd))) (x := if ((F 2) f.toNatClampNeg) = 1 then .inl (12, [some (.ref 0), some (.ref 5), some (.int f), some (.int ((F 5) (4 + f).toNatClampNeg))], [], (hY I F sd)) else .inl (16, [some (.ref 0), some (.ref 5), some (.int f), some (.int ((F 5) (4 + f).toNatClampNeg))], [], (hY I F sd))) rfl rfl) ?_
  refine pm_rc (fun p1 => ?_) (fun p1 => ?_)
  · show pm_EV (pm_run mt (d + 0)) (some .int) oX8_worth (12, [some (.ref 0), some (.ref 5), some (.int f), some (.int ((F 5) (4 + f).toNatClampNeg))], [], (hY I F sd)) = _
    exact pm_EV_at 4 (d := (27, [some (.ref 0), some (.ref 5), some (.int f), some (.int ((F 5) (4 + f).toNatClampNeg))], [.int (2 * ((F 5) (4 + f).toNatClampNeg))], (hY I F sd))) rfl rfl
  · show pm_EV (pm_run mt (d + 0)) (some .int) oX8_worth (16, [some (.ref 0), some (.ref 5), some (.int f), some (.int ((F 5) (4 + f).toNatClampNeg))], [], (hY I F sd)) = _
    refine Eq.trans (b := pm_EV (pm_run mt (d + 0)) (some .int) oX8_worth (20, [some (.ref 0), some (.ref 5), some (.int f), some (.int ((F 5) (4 + f).toNatClampNeg))], [.int ((F 2) f.toNatClampNeg)], (hY I F sd))) (pm_EV_gd 3 (d := (19, [some (.ref 0), some (.ref 5), some (.int f), some (.int ((F 5) (4 + f).toNatClampNeg))], [.int f, .ref 2], (hY I F sd))) (c1 := (20, [some (.ref 0), some (.ref 5), some (.int f), some (.int ((F 5) (4 + f).toNatClampNeg))], [.int ((F 2) f.toNatClampNeg)], (hY I F sd))) rfl rfl (⟨rfl, g3 p1⟩)) ?_
    refine Eq.trans (pm_EV_at 1 (d := (21, [some (.ref 0), some (.ref 5), some (.int f), some (.int ((F 5) (4 + f).toNatClampNeg))], [.int 2, .int ((F 2) f.toNatClampNeg)], (hY I F sd))) (x := if ((F 2) f.toNatClampNeg) = 2 then .inl (22, [some (.ref 0), some (.ref 5), some (.int f), some (.int ((F 5) (4 + f).toNatClampNeg))], [], (hY I F sd)) else .inl (26, [some (.ref 0), some (.ref 5), some (.int f), some (.int ((F 5) (4 + f).toNatClampNeg))], [], (hY I F sd))) rfl rfl) ?_
    refine pm_rc (fun p2 => ?_) (fun p2 => ?_)
    · show pm_EV (pm_run mt (d + 0)) (some .int) oX8_worth (22, [some (.ref 0), some (.ref 5), some (.int f), some (.int ((F 5) (4 + f).toNatClampNeg))], [], (hY I F sd)) = _
      exact pm_EV_at 4 (d := (27, [some (.ref 0), some (.ref 5), some (.int f), some (.int ((F 5) (4 + f).toNatClampNeg))], [.int (((F 5) (4 + f).toNatClampNeg) / 2)], (hY I F sd))) rfl rfl
    · show pm_EV (pm_run mt (d + 0)) (some .int) oX8_worth (26, [some (.ref 0), some (.ref 5), some (.int f), some (.int ((F 5) (4 + f).toNatClampNeg))], [], (hY I F sd)) = _
      exact pm_EV_at 1 (d := (27, [some (.ref 0), some (.ref 5), some (.int f), some (.int ((F 5) (4 + f).toNatClampNeg))], [.int ((F 5) (4 + f).toNatClampNeg)], (hY I F sd))) rfl rfl
set_option maxRecDepth 100000 in
set_option maxHeartbeats 4000000 in
theorem en_X8_worth_0_5 (d : Nat) (I : Nat → Int32) (F : Nat → Nat → Int32) (sd : Int64) (f : Int32) : pm_run mt (d + 1) 123 [.ref 0, .ref 5, .int f] (hY I F sd) = pm_EV (pm_run mt (d + 0)) (some .int) oX8_worth (0, [some (.ref 0), some (.ref 5), some (.int f), none], [], (hY I F sd)) := rfl
set_option maxRecDepth 100000 in
set_option maxHeartbeats 4000000 in
theorem sp_X8_worth_0_5 (d : Nat) (I : Nat → Int32) (F : Nat → Nat → Int32) (sd : Int64) (f : Int32) (h1 : inr f 4 = true) : pm_run mt (d + 1) 123 [.ref 0, .ref 5, .int f] (hY I F sd) = some (some (.int (pworth (F 2) (F 5) f)), (hY I F sd)) := by
  rw [en_X8_worth_0_5, tr_X8_worth_0_5_0 _ _ _ _ _ (in_add (a := 4) (n := 4) (by decide) (by decide) h1) (in_nn (n := 4) (by decide) h1) (fun _ => in_nn (n := 4) (by decide) h1)]
  unfold pworth
  simp only [pm_pi]
set_option maxRecDepth 100000 in
set_option maxHeartbeats 4000000 in
theorem tr_X8_worthOf_0_5_0 (d : Nat) (I : Nat → Int32) (F : Nat → Nat → Int32) (sd : Int64) (s : Int32) : pm_EV (pm_run mt (d + 1)) (some .int) oX8_worthOf (0, [some (.ref 0), some (.ref 5), some (.int s), none, none], [], (hY I F sd)) = pm_EV (pm_run mt (d + 1)) (some .int) oX8_worthOf (4, [some (.ref 0), some (.ref 5), some (.int s), some (.int 0), some (.int 0)], [], (hY I F sd)) := by
  exact pm_EV_go 4 (d := (4, [some (.ref 0), some (.ref 5), some (.int s), some (.int 0), some (.int 0)], [], (hY I F sd))) rfl
set_option maxRecDepth 100000 in
set_option maxHeartbeats 4000000 in
theorem tr_X8_worthOf_0_5_4 (d : Nat) (I : Nat → Int32) (F : Nat → Nat → Int32) (sd : Int64) (s : Int32) (x3 : Int32) (x4 : Int32) (g1 : (x4 < (I 5)) → (¬ ((bI (yhas s x4)) = 0)) → inr x4 4 = true) : pm_EV (pm_run mt (d + 1)) (some .int) oX8_worthOf (4, [some (.ref 0), some (.ref 5), some (.int s), some (.int x3), some (.int x4)], [], (hY I F sd)) = (if x4 < (I 5) then (if (bI (yhas s x4)) = 0 then pm_EV (pm_run mt (d + 1)) (some .int) oX8_worthOf (4, [some (.ref 0), some (.ref 5), some (.int s), some (.int (x3 + 0)), some (.int (x4 + 1))], [], (hY I F sd)) else pm_EV (pm_run mt (d + 1)) (some .int) oX8_worthOf (4, [some (.ref 0), some (.ref 5), some (.int s), some (.int (x3 + (pworth ((F 2)) ((F 5)) x4))), some (.int (x4 + 1))], [], (hY I F sd))) else some (some (.int x3), (hY I F sd))) := by
  refine Eq.trans (pm_EV_at 3 (d := (7, [some (.ref 0), some (.ref 5), some (.int s), some (.int x3), some (.int x4)], [.int (I 5), .int x4], (hY I F sd))) (x := if x4 < (I 5) then .inl (8, [some (.ref 0), some (.ref 5), some (.int s), some (.int x3), some (.int x4)], [], (hY I F sd)) else .inl (23, [some (.ref 0), some (.ref 5), some (.int s), some (.int x3), some (.int x4)], [], (hY I F sd))) rfl rfl) ?_
  refine pm_rc (fun p1 => ?_) (fun p1 => ?_)
  · show pm_EV (pm_run mt (d + 1)) (some .int) oX8_worthOf (8, [some (.ref 0), some (.ref 5), some (.int s), some (.int x3), some (.int x4)], [], (hY I F sd)) = _
    refine Eq.trans (b := pm_EV (pm_run mt (d + 1)) (some .int) oX8_worthOf (12, [some (.ref 0), some (.ref 5), some (.int s), some (.int x3), some (.int x4)], [.int (bI (yhas s x4)), .int x3], (hY I F sd))) (pm_EV_cl 3 (call := pm_run mt (d + 1)) (d := (11, [some (.ref 0), some (.ref 5), some (.int s), some (.int x3), some (.int x4)], [.int x4, .int s, .int x3], (hY I F sd))) (a := 107) (as := [.int s, .int x4]) (hp := (hY I F sd)) (hp2 := (hY I F sd)) (i2 := 12) (ls := [some (.ref 0), some (.ref 5), some (.int s), some (.int x3), some (.int x4)]) (rest := [.int x3]) (r := some (.int (bI (yhas s x4)))) rfl rfl (sp_X8_has (d + 0) I F sd s x4 )) ?_
    refine Eq.trans (pm_EV_at 0 (d := (12, [some (.ref 0), some (.ref 5), some (.int s), some (.int x3), some (.int x4)], [.int (bI (yhas s x4)), .int x3], (hY I F sd))) (x := if (bI (yhas s x4)) = 0 then .inl (18, [some (.ref 0), some (.ref 5), some (.int s), some (.int x3), some (.int x4)], [.int x3], (hY I F sd)) else .inl (13, [some (.ref 0), some (.ref 5), some (.int s), some (.int x3), some (.int x4)], [.int x3], (hY I F sd))) rfl rfl) ?_
    refine pm_rc (fun p2 => ?_) (fun p2 => ?_)
    · show pm_EV (pm_run mt (d + 1)) (some .int) oX8_worthOf (18, [some (.ref 0), some (.ref 5), some (.int s), some (.int x3), some (.int x4)], [.int x3], (hY I F sd)) = _
      exact pm_EV_go 5 (d := (4, [some (.ref 0), some (.ref 5), some (.int s), some (.int (x3 + 0)), some (.int (x4 + 1))], [], (hY I F sd))) rfl
    · show pm_EV (pm_run mt (d + 1)) (some .int) oX8_worthOf (13, [some (.ref 0), some (.ref 5), some (.int s), some (.int x3), some (.int x4)], [.int x3], (hY I F sd)) = _
      refine Eq.trans (b := pm_EV (pm_run mt (d + 1)) (some .int) oX8_worthOf (17, [some (.ref 0), some (.ref 5), some (.int s), some (.int x3), some (.int x4)], [.int (pworth ((F 2)) ((F 5)) x4), .int x3], (hY I F sd))) (pm_EV_cl 3 (call := pm_run mt (d + 1)) (d := (16, [some (.ref 0), some (.ref 5), some (.int s), some (.int x3), some (.int x4)], [.int x4, .ref 5, .ref 0, .int x3], (hY I F sd))) (a := 123) (as := [.ref 0, .ref 5, .int x4]) (hp := (hY I F sd)) (hp2 := (hY I F sd)) (i2 := 17) (ls := [some (.ref 0), some (.ref 5), some (.int s), some (.int x3), some (.int x4)]) (rest := [.int x3]) (r := some (.int (pworth ((F 2)) ((F 5)) x4))) rfl rfl (sp_X8_worth_0_5 (d + 0) I F sd x4 (g1 p1 p2))) ?_
      exact pm_EV_go 5 (d := (4, [some (.ref 0), some (.ref 5), some (.int s), some (.int (x3 + (pworth ((F 2)) ((F 5)) x4))), some (.int (x4 + 1))], [], (hY I F sd))) rfl
  · show pm_EV (pm_run mt (d + 1)) (some .int) oX8_worthOf (23, [some (.ref 0), some (.ref 5), some (.int s), some (.int x3), some (.int x4)], [], (hY I F sd)) = _
    exact pm_EV_at 1 (d := (24, [some (.ref 0), some (.ref 5), some (.int s), some (.int x3), some (.int x4)], [.int x3], (hY I F sd))) rfl rfl
set_option maxRecDepth 100000 in
set_option maxHeartbeats 4000000 in
theorem en_X8_worthOf_0_5 (d : Nat) (I : Nat → Int32) (F : Nat → Nat → Int32) (sd : Int64) (s : Int32) : pm_run mt (d + 2) 124 [.ref 0, .ref 5, .int s] (hY I F sd) = pm_EV (pm_run mt (d + 1)) (some .int) oX8_worthOf (0, [some (.ref 0), some (.ref 5), some (.int s), none, none], [], (hY I F sd)) := rfl
set_option maxRecDepth 100000 in
set_option maxHeartbeats 4000000 in
theorem sp_X8_worthOf_0_5 (d : Nat) (I : Nat → Int32) (F : Nat → Nat → Int32) (sd : Int64) (s : Int32) (h1 : inr (I 5) 5 = true) : pm_run mt (d + 2) 124 [.ref 0, .ref 5, .int s] (hY I F sd) = some (some (.int (pwo (F 2) (F 5) (I 5) s)), (hY I F sd)) := by
  rw [en_X8_worthOf_0_5, tr_X8_worthOf_0_5_0]
  obtain ⟨n, hn, e⟩ := inr_nI (n := 5) (by decide) h1
  have key : ∀ (m k : Nat), k + m = n → pm_EV (pm_run mt (d + 1)) (some .int) oX8_worthOf (4, [some (.ref 0), some (.ref 5), some (.int s), some (.int (pwS (F 2) (F 5) s k)), some (.int (nI k))], [], hY I F sd) = some (some (.int (pwo (F 2) (F 5) (I 5) s)), hY I F sd) := by
    intro m
    induction m with
    | zero =>
      intro k hk
      rw [tr_X8_worthOf_0_5_4 _ _ _ _ _ _ _ (fun h => by rw [e, nI_ltI (by omega) (by omega)] at h; omega), if_neg (fun h => by rw [e, nI_ltI (by omega) (by omega)] at h; omega), pwo, e, nI_clamp (by omega), ← hk]
      rfl
    | succ m ih =>
      intro k hk
      have hi := ih (k + 1) (by omega)
      rw [tr_X8_worthOf_0_5_4 _ _ _ _ _ _ _ (fun _ _ => inr_mk (n := 4) (by decide) (by omega)), if_pos (by rw [e, nI_ltI (by omega) (by omega)]; omega), nI_p1]
      simp only [bI_0]
      rw [pwS] at hi
      by_cases c : yhas s (nI k) = false
      · rw [if_pos c]; rw [if_pos c] at hi; exact hi
      · rw [if_neg c]; rw [if_neg c] at hi; exact hi
  exact key _ 0 (Nat.zero_add _)
set_option maxRecDepth 100000 in
set_option maxHeartbeats 4000000 in
theorem tr_X8_due_5_0 (d : Nat) (I : Nat → Int32) (F : Nat → Nat → Int32) (sd : Int64) : pm_EV (pm_run mt (d + 0)) (some .int) oX8_due (0, [some (.ref 5)], [], (hY I F sd)) = some (some (.int ((((((F 5) 8) + ((F 5) 9)) + ((F 5) 10)) + ((F 5) 11)) / 10)), (hY I F sd)) := by
  exact pm_EV_at 17 (d := (17, [some (.ref 5)], [.int ((((((F 5) 8) + ((F 5) 9)) + ((F 5) 10)) + ((F 5) 11)) / 10)], (hY I F sd))) rfl rfl
set_option maxRecDepth 100000 in
set_option maxHeartbeats 4000000 in
theorem en_X8_due_5 (d : Nat) (I : Nat → Int32) (F : Nat → Nat → Int32) (sd : Int64) : pm_run mt (d + 1) 125 [.ref 5] (hY I F sd) = pm_EV (pm_run mt (d + 0)) (some .int) oX8_due (0, [some (.ref 5)], [], (hY I F sd)) := rfl
set_option maxRecDepth 100000 in
set_option maxHeartbeats 4000000 in
theorem sp_X8_due_5 (d : Nat) (I : Nat → Int32) (F : Nat → Nat → Int32) (sd : Int64) : pm_run mt (d + 1) 125 [.ref 5] (hY I F sd) = some (some (.int (pdue (F 5))), (hY I F sd)) := by
  rw [en_X8_due_5, tr_X8_due_5_0]
  rfl
set_option maxRecDepth 100000 in
set_option maxHeartbeats 4000000 in
theorem tr_X8_shortOf_0_5_0 (d : Nat) (I : Nat → Int32) (F : Nat → Nat → Int32) (sd : Int64) (g1 : inr ((I 5)) 5 = true) : pm_EV (pm_run mt (d + 2)) (some .int) oX8_shortOf (0, [some (.ref 0), some (.ref 5), none], [], (hY I F sd)) = (if 0 < ((pdue ((F 5))) - (pwo ((F 2)) ((F 5)) ((I 5)) 15)) then some (some (.int ((pdue ((F 5))) - (pwo ((F 2)) ((F 5)) ((I 5)) 15))), (hY I F sd)) else some (some (.int 0), (hY I F sd))) := by
  refine Eq.trans (b := pm_EV (pm_run mt (d + 2)) (some .int) oX8_shortOf (2, [some (.ref 0), some (.ref 5), none], [.int (pdue ((F 5)))], (hY I F sd))) (pm_EV_cl 1 (call := pm_run mt (d + 2)) (d := (1, [some (.ref 0), some (.ref 5), none], [.ref 5], (hY I F sd))) (a := 125) (as := [.ref 5]) (hp := (hY I F sd)) (hp2 := (hY I F sd)) (i2 := 2) (ls := [some (.ref 0), some (.ref 5), none]) (rest := []) (r := some (.int (pdue ((F 5))))) rfl rfl (sp_X8_due_5 (d + 1) I F sd  )) ?_
  refine Eq.trans (b := pm_EV (pm_run mt (d + 2)) (some .int) oX8_shortOf (6, [some (.ref 0), some (.ref 5), none], [.int (pwo ((F 2)) ((F 5)) ((I 5)) 15), .int (pdue ((F 5)))], (hY I F sd))) (pm_EV_cl 3 (call := pm_run mt (d + 2)) (d := (5, [some (.ref 0), some (.ref 5), none], [.int 15, .ref 5, .ref 0, .int (pdue ((F 5)))], (hY I F sd))) (a := 124) (as := [.ref 0, .ref 5, .int 15]) (hp := (hY I F sd)) (hp2 := (hY I F sd)) (i2 := 6) (ls := [some (.ref 0), some (.ref 5), none]) (rest := [.int (pdue ((F 5)))]) (r := some (.int (pwo ((F 2)) ((F 5)) ((I 5)) 15))) rfl rfl (sp_X8_worthOf_0_5 (d + 0) I F sd 15 g1)) ?_
  refine Eq.trans (pm_EV_at 3 (d := (9, [some (.ref 0), some (.ref 5), some (.int ((pdue ((F 5))) - (pwo ((F 2)) ((F 5)) ((I 5)) 15)))], [.int ((pdue ((F 5))) - (pwo ((F 2)) ((F 5)) ((I 5)) 15))], (hY I F sd))) (x := if 0 < ((pdue ((F 5))) - (pwo ((F 2)) ((F 5)) ((I 5)) 15)) then .inl (10, [some (.ref 0), some (.ref 5), some (.int ((pdue ((F 5))) - (pwo ((F 2)) ((F 5)) ((I 5)) 15)))], [], (hY I F sd)) else .inl (12, [some (.ref 0), some (.ref 5), some (.int ((pdue ((F 5))) - (pwo ((F 2)) ((F 5)) ((I 5)) 15)))], [], (hY I F sd))) rfl rfl) ?_
  refine pm_rc (fun p1 => ?_) (fun p1 => ?_)
  · show pm_EV (pm_run mt (d + 2)) (some .int) oX8_shortOf (10, [some (.ref 0), some (.ref 5), some (.int ((pdue ((F 5))) - (pwo ((F 2)) ((F 5)) ((I 5)) 15)))], [], (hY I F sd)) = _
    exact pm_EV_at 2 (d := (13, [some (.ref 0), some (.ref 5), some (.int ((pdue ((F 5))) - (pwo ((F 2)) ((F 5)) ((I 5)) 15)))], [.int ((pdue ((F 5))) - (pwo ((F 2)) ((F 5)) ((I 5)) 15))], (hY I F sd))) rfl rfl
  · show pm_EV (pm_run mt (d + 2)) (some .int) oX8_shortOf (12, [some (.ref 0), some (.ref 5), some (.int ((pdue ((F 5))) - (pwo ((F 2)) ((F 5)) ((I 5)) 15)))], [], (hY I F sd)) = _
    exact pm_EV_at 1 (d := (13, [some (.ref 0), some (.ref 5), some (.int ((pdue ((F 5))) - (pwo ((F 2)) ((F 5)) ((I 5)) 15)))], [.int 0], (hY I F sd))) rfl rfl
set_option maxRecDepth 100000 in
set_option maxHeartbeats 4000000 in
theorem en_X8_shortOf_0_5 (d : Nat) (I : Nat → Int32) (F : Nat → Nat → Int32) (sd : Int64) : pm_run mt (d + 3) 126 [.ref 0, .ref 5] (hY I F sd) = pm_EV (pm_run mt (d + 2)) (some .int) oX8_shortOf (0, [some (.ref 0), some (.ref 5), none], [], (hY I F sd)) := rfl
set_option maxRecDepth 100000 in
set_option maxHeartbeats 4000000 in
theorem sp_X8_shortOf_0_5 (d : Nat) (I : Nat → Int32) (F : Nat → Nat → Int32) (sd : Int64) (h1 : inr (I 5) 5 = true) : pm_run mt (d + 3) 126 [.ref 0, .ref 5] (hY I F sd) = some (some (.int (pshort (F 2) (F 5) (I 5))), (hY I F sd)) := by
  rw [en_X8_shortOf_0_5, tr_X8_shortOf_0_5_0 _ _ _ _ h1]
  unfold pshort
  simp only [pm_pi]
set_option maxRecDepth 100000 in
set_option maxHeartbeats 4000000 in
theorem tr_X8_worth_0_6_0 (d : Nat) (I : Nat → Int32) (F : Nat → Nat → Int32) (sd : Int64) (f : Int32) (g1 : pm_in (4 + f) 21 = true) (g2 : pm_in f 4 = true) (g3 : (¬ (((F 2) f.toNatClampNeg) = 1)) → pm_in f 4 = true) : pm_EV (pm_run mt (d + 0)) (some .int) oX8_worth (0, [some (.ref 0), some (.ref 6), some (.int f), none], [], (hY I F sd)) = (if ((F 2) f.toNatClampNeg) = 1 then some (some (.int (2 * ((F 6) (4 + f).toNatClampNeg))), (hY I F sd)) else (if ((F 2) f.toNatClampNeg) = 2 then some (some (.int (((F 6) (4 + f).toNatClampNeg) / 2)), (hY I F sd)) else some (some (.int ((F 6) (4 + f).toNatClampNeg)), (hY I F sd)))) := by
  refine Eq.trans (b := pm_EV (pm_run mt (d + 0)) (some .int) oX8_worth (5, [some (.ref 0), some (.ref 6), some (.int f), none], [.int ((F 6) (4 + f).toNatClampNeg)], (hY I F sd))) (pm_EV_gd 4 (d := (4, [some (.ref 0), some (.ref 6), some (.int f), none], [.int (4 + f), .ref 6], (hY I F sd))) (c1 := (5, [some (.ref 0), some (.ref 6), some (.int f), none], [.int ((F 6) (4 + f).toNatClampNeg)], (hY I F sd))) rfl rfl (⟨rfl, g1⟩)) ?_
  refine Eq.trans (b := pm_EV (pm_run mt (d + 0)) (some .int) oX8_worth (10, [some (.ref 0), some (.ref 6), some (.int f), some (.int ((F 6) (4 + f).toNatClampNeg))], [.int ((F 2) f.toNatClampNeg)], (hY I F sd))) (pm_EV_gd 4 (d := (9, [some (.ref 0), some (.ref 6), some (.int f), some (.int ((F 6) (4 + f).toNatClampNeg))], [.int f, .ref 2], (hY I F sd))) (c1 := (10, [some (.ref 0), some (.ref 6), some (.int f), some (.int ((F 6) (4 + f).toNatClampNeg))], [.int ((F 2) f.toNatClampNeg)], (hY I F sd))) rfl rfl (⟨rfl, g2⟩)) ?_
  refine Eq.trans (pm_EV_at 1 (d := (11, [some (.ref 0), some (.ref 6), some (.int f), some (.int ((F 6) (4 + f).toNatClampNeg))], [.int 1, .int ((F 2) f.toNatClampNeg)], (hY I F sd))) (x := if ((F 2) f.toNatClampNeg) = 1 then .inl (12, [some (.ref 0), some (.ref 6), some (.int f), some (.int ((F 6) (4 + f).toNatClampNeg))], [], (hY I F sd)) else .inl (16, [some (.ref 0), some (.ref 6), some (.int f), some (.int ((F 6) (4 + f).toNatClampNeg))], [], (hY I F sd))) rfl rfl) ?_
  refine pm_rc (fun p1 => ?_) (fun p1 => ?_)
  · show pm_EV (pm_run mt (d + 0)) (some .int) oX8_worth (12, [some (.ref 0), some (.ref 6), some (.int f), some (.int ((F 6) (4 + f).toNatClampNeg))], [], (hY I F sd)) = _
    exact pm_EV_at 4 (d := (27, [some (.ref 0), some (.ref 6), some (.int f), some (.int ((F 6) (4 + f).toNatClampNeg))], [.int (2 * ((F 6) (4 + f).toNatClampNeg))], (hY I F sd))) rfl rfl
  · show pm_EV (pm_run mt (d + 0)) (some .int) oX8_worth (16, [some (.ref 0), some (.ref 6), some (.int f), some (.int ((F 6) (4 + f).toNatClampNeg))], [], (hY I F sd)) = _
    refine Eq.trans (b := pm_EV (pm_run mt (d + 0)) (some .int) oX8_worth (20, [some (.ref 0), some (.ref 6), some (.int f), some (.int ((F 6) (4 + f).toNatClampNeg))], [.int ((F 2) f.toNatClampNeg)], (hY I F sd))) (pm_EV_gd 3 (d := (19, [some (.ref 0), some (.ref 6), some (.int f), some (.int ((F 6) (4 + f).toNatClampNeg))], [.int f, .ref 2], (hY I F sd))) (c1 := (20, [some (.ref 0), some (.ref 6), some (.int f), some (.int ((F 6) (4 + f).toNatClampNeg))], [.int ((F 2) f.toNatClampNeg)], (hY I F sd))) rfl rfl (⟨rfl, g3 p1⟩)) ?_
    refine Eq.trans (pm_EV_at 1 (d := (21, [some (.ref 0), some (.ref 6), some (.int f), some (.int ((F 6) (4 + f).toNatClampNeg))], [.int 2, .int ((F 2) f.toNatClampNeg)], (hY I F sd))) (x := if ((F 2) f.toNatClampNeg) = 2 then .inl (22, [some (.ref 0), some (.ref 6), some (.int f), some (.int ((F 6) (4 + f).toNatClampNeg))], [], (hY I F sd)) else .inl (26, [some (.ref 0), some (.ref 6), some (.int f), some (.int ((F 6) (4 + f).toNatClampNeg))], [], (hY I F sd))) rfl rfl) ?_
    refine pm_rc (fun p2 => ?_) (fun p2 => ?_)
    · show pm_EV (pm_run mt (d + 0)) (some .int) oX8_worth (22, [some (.ref 0), some (.ref 6), some (.int f), some (.int ((F 6) (4 + f).toNatClampNeg))], [], (hY I F sd)) = _
      exact pm_EV_at 4 (d := (27, [some (.ref 0), some (.ref 6), some (.int f), some (.int ((F 6) (4 + f).toNatClampNeg))], [.int (((F 6) (4 + f).toNatClampNeg) / 2)], (hY I F sd))) rfl rfl
    · show pm_EV (pm_run mt (d + 0)) (some .int) oX8_worth (26, [some (.ref 0), some (.ref 6), some (.int f), some (.int ((F 6) (4 + f).toNatClampNeg))], [], (hY I F sd)) = _
      exact pm_EV_at 1 (d := (27, [some (.ref 0), some (.ref 6), some (.int f), some (.int ((F 6) (4 + f).toNatClampNeg))], [.int ((F 6) (4 + f).toNatClampNeg)], (hY I F sd))) rfl rfl
set_option maxRecDepth 100000 in
set_option maxHeartbeats 4000000 in
theorem en_X8_worth_0_6 (d : Nat) (I : Nat → Int32) (F : Nat → Nat → Int32) (sd : Int64) (f : Int32) : pm_run mt (d + 1) 123 [.ref 0, .ref 6, .int f] (hY I F sd) = pm_EV (pm_run mt (d + 0)) (some .int) oX8_worth (0, [some (.ref 0), some (.ref 6), some (.int f), none], [], (hY I F sd)) := rfl
set_option maxRecDepth 100000 in
set_option maxHeartbeats 4000000 in
theorem sp_X8_worth_0_6 (d : Nat) (I : Nat → Int32) (F : Nat → Nat → Int32) (sd : Int64) (f : Int32) (h1 : inr f 4 = true) : pm_run mt (d + 1) 123 [.ref 0, .ref 6, .int f] (hY I F sd) = some (some (.int (pworth (F 2) (F 6) f)), (hY I F sd)) := by
  rw [en_X8_worth_0_6, tr_X8_worth_0_6_0 _ _ _ _ _ (in_add (a := 4) (n := 4) (by decide) (by decide) h1) (in_nn (n := 4) (by decide) h1) (fun _ => in_nn (n := 4) (by decide) h1)]
  unfold pworth
  simp only [pm_pi]
set_option maxRecDepth 100000 in
set_option maxHeartbeats 4000000 in
theorem tr_X8_worthOf_0_6_0 (d : Nat) (I : Nat → Int32) (F : Nat → Nat → Int32) (sd : Int64) (s : Int32) : pm_EV (pm_run mt (d + 1)) (some .int) oX8_worthOf (0, [some (.ref 0), some (.ref 6), some (.int s), none, none], [], (hY I F sd)) = pm_EV (pm_run mt (d + 1)) (some .int) oX8_worthOf (4, [some (.ref 0), some (.ref 6), some (.int s), some (.int 0), some (.int 0)], [], (hY I F sd)) := by
  exact pm_EV_go 4 (d := (4, [some (.ref 0), some (.ref 6), some (.int s), some (.int 0), some (.int 0)], [], (hY I F sd))) rfl
set_option maxRecDepth 100000 in
set_option maxHeartbeats 4000000 in
theorem tr_X8_worthOf_0_6_4 (d : Nat) (I : Nat → Int32) (F : Nat → Nat → Int32) (sd : Int64) (s : Int32) (x3 : Int32) (x4 : Int32) (g1 : (x4 < (I 5)) → (¬ ((bI (yhas s x4)) = 0)) → inr x4 4 = true) : pm_EV (pm_run mt (d + 1)) (some .int) oX8_worthOf (4, [some (.ref 0), some (.ref 6), some (.int s), some (.int x3), some (.int x4)], [], (hY I F sd)) = (if x4 < (I 5) then (if (bI (yhas s x4)) = 0 then pm_EV (pm_run mt (d + 1)) (some .int) oX8_worthOf (4, [some (.ref 0), some (.ref 6), some (.int s), some (.int (x3 + 0)), some (.int (x4 + 1))], [], (hY I F sd)) else pm_EV (pm_run mt (d + 1)) (some .int) oX8_worthOf (4, [some (.ref 0), some (.ref 6), some (.int s), some (.int (x3 + (pworth ((F 2)) ((F 6)) x4))), some (.int (x4 + 1))], [], (hY I F sd))) else some (some (.int x3), (hY I F sd))) := by
  refine Eq.trans (pm_EV_at 3 (d := (7, [some (.ref 0), some (.ref 6), some (.int s), some (.int x3), some (.int x4)], [.int (I 5), .int x4], (hY I F sd))) (x := if x4 < (I 5) then .inl (8, [some (.ref 0), some (.ref 6), some (.int s), some (.int x3), some (.int x4)], [], (hY I F sd)) else .inl (23, [some (.ref 0), some (.ref 6), some (.int s), some (.int x3), some (.int x4)], [], (hY I F sd))) rfl rfl) ?_
  refine pm_rc (fun p1 => ?_) (fun p1 => ?_)
  · show pm_EV (pm_run mt (d + 1)) (some .int) oX8_worthOf (8, [some (.ref 0), some (.ref 6), some (.int s), some (.int x3), some (.int x4)], [], (hY I F sd)) = _
    refine Eq.trans (b := pm_EV (pm_run mt (d + 1)) (some .int) oX8_worthOf (12, [some (.ref 0), some (.ref 6), some (.int s), some (.int x3), some (.int x4)], [.int (bI (yhas s x4)), .int x3], (hY I F sd))) (pm_EV_cl 3 (call := pm_run mt (d + 1)) (d := (11, [some (.ref 0), some (.ref 6), some (.int s), some (.int x3), some (.int x4)], [.int x4, .int s, .int x3], (hY I F sd))) (a := 107) (as := [.int s, .int x4]) (hp := (hY I F sd)) (hp2 := (hY I F sd)) (i2 := 12) (ls := [some (.ref 0), some (.ref 6), some (.int s), some (.int x3), some (.int x4)]) (rest := [.int x3]) (r := some (.int (bI (yhas s x4)))) rfl rfl (sp_X8_has (d + 0) I F sd s x4 )) ?_
    refine Eq.trans (pm_EV_at 0 (d := (12, [some (.ref 0), some (.ref 6), some (.int s), some (.int x3), some (.int x4)], [.int (bI (yhas s x4)), .int x3], (hY I F sd))) (x := if (bI (yhas s x4)) = 0 then .inl (18, [some (.ref 0), some (.ref 6), some (.int s), some (.int x3), some (.int x4)], [.int x3], (hY I F sd)) else .inl (13, [some (.ref 0), some (.ref 6), some (.int s), some (.int x3), some (.int x4)], [.int x3], (hY I F sd))) rfl rfl) ?_
    refine pm_rc (fun p2 => ?_) (fun p2 => ?_)
    · show pm_EV (pm_run mt (d + 1)) (some .int) oX8_worthOf (18, [some (.ref 0), some (.ref 6), some (.int s), some (.int x3), some (.int x4)], [.int x3], (hY I F sd)) = _
      exact pm_EV_go 5 (d := (4, [some (.ref 0), some (.ref 6), some (.int s), some (.int (x3 + 0)), some (.int (x4 + 1))], [], (hY I F sd))) rfl
    · show pm_EV (pm_run mt (d + 1)) (some .int) oX8_worthOf (13, [some (.ref 0), some (.ref 6), some (.int s), some (.int x3), some (.int x4)], [.int x3], (hY I F sd)) = _
      refine Eq.trans (b := pm_EV (pm_run mt (d + 1)) (some .int) oX8_worthOf (17, [some (.ref 0), some (.ref 6), some (.int s), some (.int x3), some (.int x4)], [.int (pworth ((F 2)) ((F 6)) x4), .int x3], (hY I F sd))) (pm_EV_cl 3 (call := pm_run mt (d + 1)) (d := (16, [some (.ref 0), some (.ref 6), some (.int s), some (.int x3), some (.int x4)], [.int x4, .ref 6, .ref 0, .int x3], (hY I F sd))) (a := 123) (as := [.ref 0, .ref 6, .int x4]) (hp := (hY I F sd)) (hp2 := (hY I F sd)) (i2 := 17) (ls := [some (.ref 0), some (.ref 6), some (.int s), some (.int x3), some (.int x4)]) (rest := [.int x3]) (r := some (.int (pworth ((F 2)) ((F 6)) x4))) rfl rfl (sp_X8_worth_0_6 (d + 0) I F sd x4 (g1 p1 p2))) ?_
      exact pm_EV_go 5 (d := (4, [some (.ref 0), some (.ref 6), some (.int s), some (.int (x3 + (pworth ((F 2)) ((F 6)) x4))), some (.int (x4 + 1))], [], (hY I F sd))) rfl
  · show pm_EV (pm_run mt (d + 1)) (some .int) oX8_worthOf (23, [some (.ref 0), some (.ref 6), some (.int s), some (.int x3), some (.int x4)], [], (hY I F sd)) = _
    exact pm_EV_at 1 (d := (24, [some (.ref 0), some (.ref 6), some (.int s), some (.int x3), some (.int x4)], [.int x3], (hY I F sd))) rfl rfl
set_option maxRecDepth 100000 in
set_option maxHeartbeats 4000000 in
theorem en_X8_worthOf_0_6 (d : Nat) (I : Nat → Int32) (F : Nat → Nat → Int32) (sd : Int64) (s : Int32) : pm_run mt (d + 2) 124 [.ref 0, .ref 6, .int s] (hY I F sd) = pm_EV (pm_run mt (d + 1)) (some .int) oX8_worthOf (0, [some (.ref 0), some (.ref 6), some (.int s), none, none], [], (hY I F sd)) := rfl
set_option maxRecDepth 100000 in
set_option maxHeartbeats 4000000 in
theorem sp_X8_worthOf_0_6 (d : Nat) (I : Nat → Int32) (F : Nat → Nat → Int32) (sd : Int64) (s : Int32) (h1 : inr (I 5) 5 = true) : pm_run mt (d + 2) 124 [.ref 0, .ref 6, .int s] (hY I F sd) = some (some (.int (pwo (F 2) (F 6) (I 5) s)), (hY I F sd)) := by
  rw [en_X8_worthOf_0_6, tr_X8_worthOf_0_6_0]
  obtain ⟨n, hn, e⟩ := inr_nI (n := 5) (by decide) h1
  have key : ∀ (m k : Nat), k + m = n → pm_EV (pm_run mt (d + 1)) (some .int) oX8_worthOf (4, [some (.ref 0), some (.ref 6), some (.int s), some (.int (pwS (F 2) (F 6) s k)), some (.int (nI k))], [], hY I F sd) = some (some (.int (pwo (F 2) (F 6) (I 5) s)), hY I F sd) := by
    intro m
    induction m with
    | zero =>
      intro k hk
      rw [tr_X8_worthOf_0_6_4 _ _ _ _ _ _ _ (fun h => by rw [e, nI_ltI (by omega) (by omega)] at h; omega), if_neg (fun h => by rw [e, nI_ltI (by omega) (by omega)] at h; omega), pwo, e, nI_clamp (by omega), ← hk]
      rfl
    | succ m ih =>
      intro k hk
      have hi := ih (k + 1) (by omega)
      rw [tr_X8_worthOf_0_6_4 _ _ _ _ _ _ _ (fun _ _ => inr_mk (n := 4) (by decide) (by omega)), if_pos (by rw [e, nI_ltI (by omega) (by omega)]; omega), nI_p1]
      simp only [bI_0]
      rw [pwS] at hi
      by_cases c : yhas s (nI k) = false
      · rw [if_pos c]; rw [if_pos c] at hi; exact hi
      · rw [if_neg c]; rw [if_neg c] at hi; exact hi
  exact key _ 0 (Nat.zero_add _)
set_option maxRecDepth 100000 in
set_option maxHeartbeats 4000000 in
theorem tr_X8_due_6_0 (d : Nat) (I : Nat → Int32) (F : Nat → Nat → Int32) (sd : Int64) : pm_EV (pm_run mt (d + 0)) (some .int) oX8_due (0, [some (.ref 6)], [], (hY I F sd)) = some (some (.int ((((((F 6) 8) + ((F 6) 9)) + ((F 6) 10)) + ((F 6) 11)) / 10)), (hY I F sd)) := by
  exact pm_EV_at 17 (d := (17, [some (.ref 6)], [.int ((((((F 6) 8) + ((F 6) 9)) + ((F 6) 10)) + ((F 6) 11)) / 10)], (hY I F sd))) rfl rfl
set_option maxRecDepth 100000 in
set_option maxHeartbeats 4000000 in
theorem en_X8_due_6 (d : Nat) (I : Nat → Int32) (F : Nat → Nat → Int32) (sd : Int64) : pm_run mt (d + 1) 125 [.ref 6] (hY I F sd) = pm_EV (pm_run mt (d + 0)) (some .int) oX8_due (0, [some (.ref 6)], [], (hY I F sd)) := rfl
set_option maxRecDepth 100000 in
set_option maxHeartbeats 4000000 in
theorem sp_X8_due_6 (d : Nat) (I : Nat → Int32) (F : Nat → Nat → Int32) (sd : Int64) : pm_run mt (d + 1) 125 [.ref 6] (hY I F sd) = some (some (.int (pdue (F 6))), (hY I F sd)) := by
  rw [en_X8_due_6, tr_X8_due_6_0]
  rfl
set_option maxRecDepth 100000 in
set_option maxHeartbeats 4000000 in
theorem tr_X8_shortOf_0_6_0 (d : Nat) (I : Nat → Int32) (F : Nat → Nat → Int32) (sd : Int64) (g1 : inr ((I 5)) 5 = true) : pm_EV (pm_run mt (d + 2)) (some .int) oX8_shortOf (0, [some (.ref 0), some (.ref 6), none], [], (hY I F sd)) = (if 0 < ((pdue ((F 6))) - (pwo ((F 2)) ((F 6)) ((I 5)) 15)) then some (some (.int ((pdue ((F 6))) - (pwo ((F 2)) ((F 6)) ((I 5)) 15))), (hY I F sd)) else some (some (.int 0), (hY I F sd))) := by
  refine Eq.trans (b := pm_EV (pm_run mt (d + 2)) (some .int) oX8_shortOf (2, [some (.ref 0), some (.ref 6), none], [.int (pdue ((F 6)))], (hY I F sd))) (pm_EV_cl 1 (call := pm_run mt (d + 2)) (d := (1, [some (.ref 0), some (.ref 6), none], [.ref 6], (hY I F sd))) (a := 125) (as := [.ref 6]) (hp := (hY I F sd)) (hp2 := (hY I F sd)) (i2 := 2) (ls := [some (.ref 0), some (.ref 6), none]) (rest := []) (r := some (.int (pdue ((F 6))))) rfl rfl (sp_X8_due_6 (d + 1) I F sd  )) ?_
  refine Eq.trans (b := pm_EV (pm_run mt (d + 2)) (some .int) oX8_shortOf (6, [some (.ref 0), some (.ref 6), none], [.int (pwo ((F 2)) ((F 6)) ((I 5)) 15), .int (pdue ((F 6)))], (hY I F sd))) (pm_EV_cl 3 (call := pm_run mt (d + 2)) (d := (5, [some (.ref 0), some (.ref 6), none], [.int 15, .ref 6, .ref 0, .int (pdue ((F 6)))], (hY I F sd))) (a := 124) (as := [.ref 0, .ref 6, .int 15]) (hp := (hY I F sd)) (hp2 := (hY I F sd)) (i2 := 6) (ls := [some (.ref 0), some (.ref 6), none]) (rest := [.int (pdue ((F 6)))]) (r := some (.int (pwo ((F 2)) ((F 6)) ((I 5)) 15))) rfl rfl (sp_X8_worthOf_0_6 (d + 0) I F sd 15 g1)) ?_
  refine Eq.trans (pm_EV_at 3 (d := (9, [some (.ref 0), some (.ref 6), some (.int ((pdue ((F 6))) - (pwo ((F 2)) ((F 6)) ((I 5)) 15)))], [.int ((pdue ((F 6))) - (pwo ((F 2)) ((F 6)) ((I 5)) 15))], (hY I F sd))) (x := if 0 < ((pdue ((F 6))) - (pwo ((F 2)) ((F 6)) ((I 5)) 15)) then .inl (10, [some (.ref 0), some (.ref 6), some (.int ((pdue ((F 6))) - (pwo ((F 2)) ((F 6)) ((I 5)) 15)))], [], (hY I F sd)) else .inl (12, [some (.ref 0), some (.ref 6), some (.int ((pdue ((F 6))) - (pwo ((F 2)) ((F 6)) ((I 5)) 15)))], [], (hY I F sd))) rfl rfl) ?_
  refine pm_rc (fun p1 => ?_) (fun p1 => ?_)
  · show pm_EV (pm_run mt (d + 2)) (some .int) oX8_shortOf (10, [some (.ref 0), some (.ref 6), some (.int ((pdue ((F 6))) - (pwo ((F 2)) ((F 6)) ((I 5)) 15)))], [], (hY I F sd)) = _
    exact pm_EV_at 2 (d := (13, [some (.ref 0), some (.ref 6), some (.int ((pdue ((F 6))) - (pwo ((F 2)) ((F 6)) ((I 5)) 15)))], [.int ((pdue ((F 6))) - (pwo ((F 2)) ((F 6)) ((I 5)) 15))], (hY I F sd))) rfl rfl
  · show pm_EV (pm_run mt (d + 2)) (some .int) oX8_shortOf (12, [some (.ref 0), some (.ref 6), some (.int ((pdue ((F 6))) - (pwo ((F 2)) ((F 6)) ((I 5)) 15)))], [], (hY I F sd)) = _
    exact pm_EV_at 1 (d := (13, [some (.ref 0), some (.ref 6), some (.int ((pdue ((F 6))) - (pwo ((F 2)) ((F 6)) ((I 5)) 15)))], [.int 0], (hY I F sd))) rfl rfl
set_option maxRecDepth 100000 in
set_option maxHeartbeats 4000000 in
theorem en_X8_shortOf_0_6 (d : Nat) (I : Nat → Int32) (F : Nat → Nat → Int32) (sd : Int64) : pm_run mt (d + 3) 126 [.ref 0, .ref 6] (hY I F sd) = pm_EV (pm_run mt (d + 2)) (some .int) oX8_shortOf (0, [some (.ref 0), some (.ref 6), none], [], (hY I F sd)) := rfl
set_option maxRecDepth 100000 in
set_option maxHeartbeats 4000000 in
theorem sp_X8_shortOf_0_6 (d : Nat) (I : Nat → Int32) (F : Nat → Nat → Int32) (sd : Int64) (h1 : inr (I 5) 5 = true) : pm_run mt (d + 3) 126 [.ref 0, .ref 6] (hY I F sd) = some (some (.int (pshort (F 2) (F 6) (I 5))), (hY I F sd)) := by
  rw [en_X8_shortOf_0_6, tr_X8_shortOf_0_6_0 _ _ _ _ h1]
  unfold pshort
  simp only [pm_pi]
theorem bit_hz (w p : Int32) : ((w >>> (p &&& 31)) &&& 1 = 1) ↔ ¬ ((w >>> (p &&& 31)) &&& 1 = 0) := by
  have h : ∀ x : Int32, x &&& 1 = 0 ∨ x &&& 1 = 1 := by
    intro x
    obtain ⟨j, hj, e⟩ := pk_andE x (m := 1) 1 rfl
    rw [e]
    rcases (show j = 0 ∨ j = 1 by omega) with rfl | rfl
    · exact Or.inl rfl
    · exact Or.inr rfl
  rcases h (w >>> (p &&& 31)) with e | e
  · rw [e]; decide
  · rw [e]; decide
theorem yx (w : Int32) {k : Nat} (hk : k < 10) : yhas w (nI k) = xhas w (nI k) := by
  unfold yhas xhas
  rw [show inr (nI k) 10 = true from inr_mk (n := 10) (by decide) hk, Bool.true_and, ← decide_not]
  congr 1
  exact propext (bit_hz w (nI k))
theorem or_a (a b c : Int32) : a ||| b ||| c = a ||| (b ||| c) := Int32.or_assoc _ _ _
theorem or_0 (a : Int32) : a ||| 0 = a := Int32.or_zero
theorem or_z (a : Int32) : 0 ||| a = a := Int32.zero_or
theorem rL_or (g w s : Int32) : ∀ (n : Nat) (b : Int32), rL g w s n b = b ||| rL g w s n 0
  | 0, b => by rw [rL, rL, or_0]
  | n + 1, b => by
    rw [rL, rL]
    by_cases c1 : g < s - nI n
    · rw [if_pos c1, if_pos c1, or_0]
    · rw [if_neg c1, if_neg c1]
      by_cases c2 : xhas w (nI n) = true
      · rw [if_pos c2, if_pos c2, or_0]
      · rw [if_neg c2, if_neg c2, rL_or g w s n (b ||| _), rL_or g w s n (0 ||| _), or_z, or_a]
theorem rR_or (g w s : Int32) : ∀ (m p : Nat) (b : Int32), rR g w s m p b = b ||| rR g w s m p 0
  | 0, p, b => by rw [rR, rR, or_0]
  | m + 1, p, b => by
    rw [rR, rR]
    by_cases c1 : g < nI p - s
    · rw [if_pos c1, if_pos c1, or_0]
    · rw [if_neg c1, if_neg c1]
      by_cases c2 : xhas w (nI p) = true
      · rw [if_pos c2, if_pos c2, or_0]
      · rw [if_neg c2, if_neg c2, rR_or g w s m (p + 1) (b ||| _), rR_or g w s m (p + 1) (0 ||| _), or_z, or_a]
def yrem (g w : Int32) (a k : Nat) (L R : Bool) : Int32 := (if L = true then rL g w (nI a) (a + 1 - k) 0 else 0) ||| (if R = true then rR g w (nI a) (10 - (a + k)) (a + k) 0 else 0)
/-- one more pace to the left -/
theorem yremL (w : Int32) {a k g : Nat} (ha : a < 10) (hk : 1 ≤ k) (hkg : k ≤ g) (hg : g < 10) : rL (nI g) w (nI a) (a + 1 - k) 0 = if a < k then 0 else if xhas w (nI (a - k)) = true then 0 else ((1 : Int32) <<< (nI (a - k) &&& 31)) ||| rL (nI g) w (nI a) (a - k) 0 := by
  by_cases c : a < k
  · rw [if_pos c, show a + 1 - k = 0 by omega, rL]
  · rw [if_neg c, show a + 1 - k = (a - k) + 1 by omega, rL, pk_sub (by omega), show a - (a - k) = k by omega, if_neg (by rw [nI_ltI (by omega) (by omega)]; omega)]
    by_cases c2 : xhas w (nI (a - k)) = true
    · rw [if_pos c2, if_pos c2]
    · rw [if_neg c2, if_neg c2, rL_or, or_z]
theorem yremR (w : Int32) {a k g : Nat} (ha : a < 10) (hk : 1 ≤ k) (hkg : k ≤ g) (hg : g < 10) : rR (nI g) w (nI a) (10 - (a + k)) (a + k) 0 = if 10 ≤ a + k then 0 else if xhas w (nI (a + k)) = true then 0 else ((1 : Int32) <<< (nI (a + k) &&& 31)) ||| rR (nI g) w (nI a) (10 - (a + (k + 1))) (a + (k + 1)) 0 := by
  by_cases c : 10 ≤ a + k
  · rw [if_pos c, show 10 - (a + k) = 0 by omega, rR]
  · rw [if_neg c, show 10 - (a + k) = (10 - (a + (k + 1))) + 1 by omega, rR, pk_sub (by omega), show a + k - a = k by omega, if_neg (by rw [nI_ltI (by omega) (by omega)]; omega)]
    by_cases c2 : xhas w (nI (a + k)) = true
    · rw [if_pos c2, if_pos c2]
    · rw [if_neg c2, if_neg c2, rR_or, or_z]
      rfl
/-- past its goodwill there is nothing more -/
theorem yrem_end (w : Int32) {a g : Nat} (ha : a < 10) (hg : g < 10) (L R : Bool) : yrem (nI g) w a (g + 1) L R = 0 := by
  have e1 : rL (nI g) w (nI a) (a + 1 - (g + 1)) 0 = 0 := by
    rcases Nat.lt_or_ge a (g + 1) with c | c
    · rw [show a + 1 - (g + 1) = 0 by omega, rL]
    · rw [show a + 1 - (g + 1) = (a - (g + 1)) + 1 by omega, rL, pk_sub (by omega), show a - (a - (g + 1)) = g + 1 by omega, if_pos (by rw [nI_ltI (by omega) (by omega)]; omega)]
  have e2 : rR (nI g) w (nI a) (10 - (a + (g + 1))) (a + (g + 1)) 0 = 0 := by
    rcases Nat.lt_or_ge (a + (g + 1)) 10 with c | c
    · rw [show 10 - (a + (g + 1)) = (9 - (a + (g + 1))) + 1 by omega, rR, pk_sub (by omega), show a + (g + 1) - a = g + 1 by omega, if_pos (by rw [nI_ltI (by omega) (by omega)]; omega)]
    · rw [show 10 - (a + (g + 1)) = 0 by omega, rR]
  unfold yrem
  rw [e1, e2]
  cases L <;> cases R <;> rfl
def yst (w : Int32) (a k : Nat) (L : Bool) : Bool := L && (decide (k ≤ a) && !xhas w (nI (a - k)))
def ysr (w : Int32) (a k : Nat) (R : Bool) : Bool := R && (decide (a + k < 10) && !xhas w (nI (a + k)))
theorem or_c (a b : Int32) : a ||| b = b ||| a := Int32.or_comm _ _
theorem or_4 (x a b c e : Int32) : ((x ||| a) ||| b) ||| (c ||| e) = x ||| ((a ||| c) ||| (b ||| e)) := by
  rw [or_a, or_a]
  congr 1
  rw [← or_a b c e, or_c b c, or_a c b e, ← or_a a c]
theorem yrem_step (w : Int32) {a k g : Nat} (ha : a < 10) (hk : 1 ≤ k) (hkg : k ≤ g) (hg : g < 10) (L R : Bool) (x : Int32) :
    ((x ||| (if yst w a k L = true then (1 : Int32) <<< (nI (a - k) &&& 31) else 0)) ||| (if ysr w a k R = true then (1 : Int32) <<< (nI (a + k) &&& 31) else 0)) ||| yrem (nI g) w a (k + 1) (yst w a k L) (ysr w a k R) = x ||| yrem (nI g) w a k L R := by
  have hl : (if L = true then rL (nI g) w (nI a) (a + 1 - k) 0 else 0) = (if yst w a k L = true then (1 : Int32) <<< (nI (a - k) &&& 31) else 0) ||| (if yst w a k L = true then rL (nI g) w (nI a) (a + 1 - (k + 1)) 0 else 0) := by
    rw [yremL w ha hk hkg hg]
    unfold yst
    cases L
    · simp
    · by_cases c : a < k
      · simp [c, show ¬ k ≤ a by omega]
      · cases c2 : xhas w (nI (a - k))
        · simp [c, show k ≤ a by omega, show a + 1 - (k + 1) = a - k by omega]
        · simp [c]
  have hr : (if R = true then rR (nI g) w (nI a) (10 - (a + k)) (a + k) 0 else 0) = (if ysr w a k R = true then (1 : Int32) <<< (nI (a + k) &&& 31) else 0) ||| (if ysr w a k R = true then rR (nI g) w (nI a) (10 - (a + (k + 1))) (a + (k + 1)) 0 else 0) := by
    rw [yremR w ha hk hkg hg]
    unfold ysr
    cases R
    · simp
    · by_cases c : 10 ≤ a + k
      · simp [c, show ¬ a + k < 10 by omega]
      · cases c2 : xhas w (nI (a + k))
        · simp [c, show a + k < 10 by omega]
        · simp [c]
  unfold yrem
  rw [hl, hr]
  exact or_4 _ _ _ _ _
theorem bI_ne (b : Bool) : bI b = 0 ↔ b = false := by cases b <;> decide +kernel
set_option maxRecDepth 100000 in
set_option maxHeartbeats 4000000 in
theorem tr_X8_reach_0 (d : Nat) (I : Nat → Int32) (F : Nat → Nat → Int32) (sd : Int64) (s : Int32) (g : Int32) (w : Int32) : pm_EV (pm_run mt (d + 1)) (some .int) oX8_reach (0, [some (.int s), some (.int g), some (.int w), none, none, none, none], [], (hY I F sd)) = (if (bI (yhas w s)) = 0 then pm_EV (pm_run mt (d + 1)) (some .int) oX8_reach (16, [some (.int s), some (.int g), some (.int w), some (.int ((1 : Int32) <<< (s &&& 31))), some (.int 1), some (.int 1), some (.int 1)], [], (hY I F sd)) else some (some (.int 0), (hY I F sd))) := by
  refine Eq.trans (b := pm_EV (pm_run mt (d + 1)) (some .int) oX8_reach (3, [some (.int s), some (.int g), some (.int w), none, none, none, none], [.int (bI (yhas w s))], (hY I F sd))) (pm_EV_cl 2 (call := pm_run mt (d + 1)) (d := (2, [some (.int s), some (.int g), some (.int w), none, none, none, none], [.int s, .int w], (hY I F sd))) (a := 107) (as := [.int w, .int s]) (hp := (hY I F sd)) (hp2 := (hY I F sd)) (i2 := 3) (ls := [some (.int s), some (.int g), some (.int w), none, none, none, none]) (rest := []) (r := some (.int (bI (yhas w s)))) rfl rfl (sp_X8_has (d + 0) I F sd w s )) ?_
  refine Eq.trans (pm_EV_at 0 (d := (3, [some (.int s), some (.int g), some (.int w), none, none, none, none], [.int (bI (yhas w s))], (hY I F sd))) (x := if (bI (yhas w s)) = 0 then .inl (6, [some (.int s), some (.int g), some (.int w), none, none, none, none], [], (hY I F sd)) else .inl (4, [some (.int s), some (.int g), some (.int w), none, none, none, none], [], (hY I F sd))) rfl rfl) ?_
  refine pm_rc (fun p1 => ?_) (fun p1 => ?_)
  · show pm_EV (pm_run mt (d + 1)) (some .int) oX8_reach (6, [some (.int s), some (.int g), some (.int w), none, none, none, none], [], (hY I F sd)) = _
    exact pm_EV_go 10 (d := (16, [some (.int s), some (.int g), some (.int w), some (.int ((1 : Int32) <<< (s &&& 31))), some (.int 1), some (.int 1), some (.int 1)], [], (hY I F sd))) rfl
  · show pm_EV (pm_run mt (d + 1)) (some .int) oX8_reach (4, [some (.int s), some (.int g), some (.int w), none, none, none, none], [], (hY I F sd)) = _
    exact pm_EV_at 1 (d := (5, [some (.int s), some (.int g), some (.int w), none, none, none, none], [.int 0], (hY I F sd))) rfl rfl
set_option maxRecDepth 100000 in
set_option maxHeartbeats 4000000 in
theorem tr_X8_reach_16 (d : Nat) (I : Nat → Int32) (F : Nat → Nat → Int32) (sd : Int64) (s : Int32) (g : Int32) (w : Int32) (x3 : Int32) (x4 : Int32) (x5 : Int32) (x6 : Int32) : pm_EV (pm_run mt (d + 1)) (some .int) oX8_reach (16, [some (.int s), some (.int g), some (.int w), some (.int x3), some (.int x4), some (.int x5), some (.int x6)], [], (hY I F sd)) = (if g < x6 then some (some (.int x3), (hY I F sd)) else (if x4 = 0 then (if x5 = 0 then pm_EV (pm_run mt (d + 1)) (some .int) oX8_reach (16, [some (.int s), some (.int g), some (.int w), some (.int ((x3 ||| (0 : Int32)) ||| (0 : Int32))), some (.int 0), some (.int 0), some (.int (x6 + 1))], [], (hY I F sd)) else (if (s + x6) < 10 then (if (bI (yhas w (s + x6))) = 0 then pm_EV (pm_run mt (d + 1)) (some .int) oX8_reach (16, [some (.int s), some (.int g), some (.int w), some (.int ((x3 ||| (0 : Int32)) ||| ((1 : Int32) <<< ((s + x6) &&& 31)))), some (.int 0), some (.int 1), some (.int (x6 + 1))], [], (hY I F sd)) else pm_EV (pm_run mt (d + 1)) (some .int) oX8_reach (16, [some (.int s), some (.int g), some (.int w), some (.int ((x3 ||| (0 : Int32)) ||| (0 : Int32))), some (.int 0), some (.int 0), some (.int (x6 + 1))], [], (hY I F sd))) else pm_EV (pm_run mt (d + 1)) (some .int) oX8_reach (16, [some (.int s), some (.int g), some (.int w), some (.int ((x3 ||| (0 : Int32)) ||| (0 : Int32))), some (.int 0), some (.int 0), some (.int (x6 + 1))], [], (hY I F sd)))) else (if (s - x6) < 0 then (if x5 = 0 then pm_EV (pm_run mt (d + 1)) (some .int) oX8_reach (16, [some (.int s), some (.int g), some (.int w), some (.int ((x3 ||| (0 : Int32)) ||| (0 : Int32))), some (.int 0), some (.int 0), some (.int (x6 + 1))], [], (hY I F sd)) else (if (s + x6) < 10 then (if (bI (yhas w (s + x6))) = 0 then pm_EV (pm_run mt (d + 1)) (some .int) oX8_reach (16, [some (.int s), some (.int g), some (.int w), some (.int ((x3 ||| (0 : Int32)) ||| ((1 : Int32) <<< ((s + x6) &&& 31)))), some (.int 0), some (.int 1), some (.int (x6 + 1))], [], (hY I F sd)) else pm_EV (pm_run mt (d + 1)) (some .int) oX8_reach (16, [some (.int s), some (.int g), some (.int w), some (.int ((x3 ||| (0 : Int32)) ||| (0 : Int32))), some (.int 0), some (.int 0), some (.int (x6 + 1))], [], (hY I F sd))) else pm_EV (pm_run mt (d + 1)) (some .int) oX8_reach (16, [some (.int s), some (.int g), some (.int w), some (.int ((x3 ||| (0 : Int32)) ||| (0 : Int32))), some (.int 0), some (.int 0), some (.int (x6 + 1))], [], (hY I F sd)))) else (if (bI (yhas w (s - x6))) = 0 then (if x5 = 0 then pm_EV (pm_run mt (d + 1)) (some .int) oX8_reach (16, [some (.int s), some (.int g), some (.int w), some (.int ((x3 ||| ((1 : Int32) <<< ((s - x6) &&& 31))) ||| (0 : Int32))), some (.int 1), some (.int 0), some (.int (x6 + 1))], [], (hY I F sd)) else (if (s + x6) < 10 then (if (bI (yhas w (s + x6))) = 0 then pm_EV (pm_run mt (d + 1)) (some .int) oX8_reach (16, [some (.int s), some (.int g), some (.int w), some (.int ((x3 ||| ((1 : Int32) <<< ((s - x6) &&& 31))) ||| ((1 : Int32) <<< ((s + x6) &&& 31)))), some (.int 1), some (.int 1), some (.int (x6 + 1))], [], (hY I F sd)) else pm_EV (pm_run mt (d + 1)) (some .int) oX8_reach (16, [some (.int s), some (.int g), some (.int w), some (.int ((x3 ||| ((1 : Int32) <<< ((s - x6) &&& 31))) ||| (0 : Int32))), some (.int 1), some (.int 0), some (.int (x6 + 1))], [], (hY I F sd))) else pm_EV (pm_run mt (d + 1)) (some .int) oX8_reach (16, [some (.int s), some (.int g), some (.int w), some (.int ((x3 ||| ((1 : Int32) <<< ((s - x6) &&& 31))) ||| (0 : Int32))), some (.int 1), some (.int 0), some (.int (x6 + 1))], [], (hY I F sd)))) else (if x5 = 0 then pm_EV (pm_run mt (d + 1)) (some .int) oX8_reach (16, [some (.int s), some (.int g), some (.int w), some (.int ((x3 ||| (0 : Int32)) ||| (0 : Int32))), some (.int 0), some (.int 0), some (.int (x6 + 1))], [], (hY I F sd)) else (if (s + x6) < 10 then (if (bI (yhas w (s + x6))) = 0 then pm_EV (pm_run mt (d + 1)) (some .int) oX8_reach (16, [some (.int s), some (.int g), some (.int w), some (.int ((x3 ||| (0 : Int32)) ||| ((1 : Int32) <<< ((s + x6) &&& 31)))), some (.int 0), some (.int 1), some (.int (x6 + 1))], [], (hY I F sd)) else pm_EV (pm_run mt (d + 1)) (some .int) oX8_reach (16, [some (.int s), some (.int g), some (.int w), some (.int ((x3 ||| (0 : Int32)) ||| (0 : Int32))), some (.int 0), some (.int 0), some (.int (x6 + 1))], [], (hY I F sd))) else pm_EV (pm_run mt (d + 1)) (some .int) oX8_reach (16, [some (.int s), some (.int g), some (.int w), some (.int ((x3 ||| (0 : Int32)) ||| (0 : Int32))), some (.int 0), some (.int 0), some (.int (x6 + 1))], [], (hY I F sd)))))))) := by
  refine Eq.trans (pm_EV_at 2 (d := (18, [some (.int s), some (.int g), some (.int w), some (.int x3), some (.int x4), some (.int x5), some (.int x6)], [.int g, .int x6], (hY I F sd))) (x := if g < x6 then .inl (78, [some (.int s), some (.int g), some (.int w), some (.int x3), some (.int x4), some (.int x5), some (.int x6)], [], (hY I F sd)) else .inl (19, [some (.int s), some (.int g), some (.int w), some (.int x3), some (.int x4), some (.int x5), some (.int x6)], [], (hY I F sd))) rfl rfl) ?_
  refine pm_rc (fun p1 => ?_) (fun p1 => ?_)
  · show pm_EV (pm_run mt (d + 1)) (some .int) oX8_reach (78, [some (.int s), some (.int g), some (.int w), some (.int x3), some (.int x4), some (.int x5), some (.int x6)], [], (hY I F sd)) = _
    exact pm_EV_at 1 (d := (79, [some (.int s), some (.int g), some (.int w), some (.int x3), some (.int x4), some (.int x5), some (.int x6)], [.int x3], (hY I F sd))) rfl rfl
  · show pm_EV (pm_run mt (d + 1)) (some .int) oX8_reach (19, [some (.int s), some (.int g), some (.int w), some (.int x3), some (.int x4), some (.int x5), some (.int x6)], [], (hY I F sd)) = _
    refine Eq.trans (pm_EV_at 1 (d := (20, [some (.int s), some (.int g), some (.int w), some (.int x3), some (.int x4), some (.int x5), some (.int x6)], [.int x4], (hY I F sd))) (x := if x4 = 0 then .inl (33, [some (.int s), some (.int g), some (.int w), some (.int x3), some (.int x4), some (.int x5), some (.int x6)], [], (hY I F sd)) else .inl (21, [some (.int s), some (.int g), some (.int w), some (.int x3), some (.int x4), some (.int x5), some (.int x6)], [], (hY I F sd))) rfl rfl) ?_
    refine pm_rc (fun p2 => ?_) (fun p2 => ?_)
    · show pm_EV (pm_run mt (d + 1)) (some .int) oX8_reach (33, [some (.int s), some (.int g), some (.int w), some (.int x3), some (.int x4), some (.int x5), some (.int x6)], [], (hY I F sd)) = _
      refine Eq.trans (pm_EV_at 3 (d := (36, [some (.int s), some (.int g), some (.int w), some (.int x3), some (.int 0), some (.int x5), some (.int x6)], [.int x5], (hY I F sd))) (x := if x5 = 0 then .inl (50, [some (.int s), some (.int g), some (.int w), some (.int x3), some (.int 0), some (.int x5), some (.int x6)], [], (hY I F sd)) else .inl (37, [some (.int s), some (.int g), some (.int w), some (.int x3), some (.int 0), some (.int x5), some (.int x6)], [], (hY I F sd))) rfl rfl) ?_
      refine pm_rc (fun p3 => ?_) (fun p3 => ?_)
      · show pm_EV (pm_run mt (d + 1)) (some .int) oX8_reach (50, [some (.int s), some (.int g), some (.int w), some (.int x3), some (.int 0), some (.int x5), some (.int x6)], [], (hY I F sd)) = _
        exact pm_EV_go 16 (d := (16, [some (.int s), some (.int g), some (.int w), some (.int ((x3 ||| (0 : Int32)) ||| (0 : Int32))), some (.int 0), some (.int 0), some (.int (x6 + 1))], [], (hY I F sd))) rfl
      · show pm_EV (pm_run mt (d + 1)) (some .int) oX8_reach (37, [some (.int s), some (.int g), some (.int w), some (.int x3), some (.int 0), some (.int x5), some (.int x6)], [], (hY I F sd)) = _
        refine Eq.trans (pm_EV_at 4 (d := (41, [some (.int s), some (.int g), some (.int w), some (.int x3), some (.int 0), some (.int x5), some (.int x6)], [.int 10, .int (s + x6)], (hY I F sd))) (x := if (s + x6) < 10 then .inl (42, [some (.int s), some (.int g), some (.int w), some (.int x3), some (.int 0), some (.int x5), some (.int x6)], [], (hY I F sd)) else .inl (50, [some (.int s), some (.int g), some (.int w), some (.int x3), some (.int 0), some (.int x5), some (.int x6)], [], (hY I F sd))) rfl rfl) ?_
        refine pm_rc (fun p4 => ?_) (fun p4 => ?_)
        · show pm_EV (pm_run mt (d + 1)) (some .int) oX8_reach (42, [some (.int s), some (.int g), some (.int w), some (.int x3), some (.int 0), some (.int x5), some (.int x6)], [], (hY I F sd)) = _
          refine Eq.trans (b := pm_EV (pm_run mt (d + 1)) (some .int) oX8_reach (47, [some (.int s), some (.int g), some (.int w), some (.int x3), some (.int 0), some (.int x5), some (.int x6)], [.int (bI (yhas w (s + x6)))], (hY I F sd))) (pm_EV_cl 4 (call := pm_run mt (d + 1)) (d := (46, [some (.int s), some (.int g), some (.int w), some (.int x3), some (.int 0), some (.int x5), some (.int x6)], [.int (s + x6), .int w], (hY I F sd))) (a := 107) (as := [.int w, .int (s + x6)]) (hp := (hY I F sd)) (hp2 := (hY I F sd)) (i2 := 47) (ls := [some (.int s), some (.int g), some (.int w), some (.int x3), some (.int 0), some (.int x5), some (.int x6)]) (rest := []) (r := some (.int (bI (yhas w (s + x6))))) rfl rfl (sp_X8_has (d + 0) I F sd w (s + x6) )) ?_
          refine Eq.trans (pm_EV_at 0 (d := (47, [some (.int s), some (.int g), some (.int w), some (.int x3), some (.int 0), some (.int x5), some (.int x6)], [.int (bI (yhas w (s + x6)))], (hY I F sd))) (x := if (bI (yhas w (s + x6))) = 0 then .inl (48, [some (.int s), some (.int g), some (.int w), some (.int x3), some (.int 0), some (.int x5), some (.int x6)], [], (hY I F sd)) else .inl (50, [some (.int s), some (.int g), some (.int w), some (.int x3), some (.int 0), some (.int x5), some (.int x6)], [], (hY I F sd))) rfl rfl) ?_
          refine pm_rc (fun p5 => ?_) (fun p5 => ?_)
          · show pm_EV (pm_run mt (d + 1)) (some .int) oX8_reach (48, [some (.int s), some (.int g), some (.int w), some (.int x3), some (.int 0), some (.int x5), some (.int x6)], [], (hY I F sd)) = _
            exact pm_EV_go 22 (d := (16, [some (.int s), some (.int g), some (.int w), some (.int ((x3 ||| (0 : Int32)) ||| ((1 : Int32) <<< ((s + x6) &&& 31)))), some (.int 0), some (.int 1), some (.int (x6 + 1))], [], (hY I F sd))) rfl
          · show pm_EV (pm_run mt (d + 1)) (some .int) oX8_reach (50, [some (.int s), some (.int g), some (.int w), some (.int x3), some (.int 0), some (.int x5), some (.int x6)], [], (hY I F sd)) = _
            exact pm_EV_go 16 (d := (16, [some (.int s), some (.int g), some (.int w), some (.int ((x3 ||| (0 : Int32)) ||| (0 : Int32))), some (.int 0), some (.int 0), some (.int (x6 + 1))], [], (hY I F sd))) rfl
        · show pm_EV (pm_run mt (d + 1)) (some .int) oX8_reach (50, [some (.int s), some (.int g), some (.int w), some (.int x3), some (.int 0), some (.int x5), some (.int x6)], [], (hY I F sd)) = _
          exact pm_EV_go 16 (d := (16, [some (.int s), some (.int g), some (.int w), some (.int ((x3 ||| (0 : Int32)) ||| (0 : Int32))), some (.int 0), some (.int 0), some (.int (x6 + 1))], [], (hY I F sd))) rfl
    · show pm_EV (pm_run mt (d + 1)) (some .int) oX8_reach (21, [some (.int s), some (.int g), some (.int w), some (.int x3), some (.int x4), some (.int x5), some (.int x6)], [], (hY I F sd)) = _
      refine Eq.trans (pm_EV_at 3 (d := (24, [some (.int s), some (.int g), some (.int w), some (.int x3), some (.int x4), some (.int x5), some (.int x6)], [.int (s - x6)], (hY I F sd))) (x := if (s - x6) < 0 then .inl (33, [some (.int s), some (.int g), some (.int w), some (.int x3), some (.int x4), some (.int x5), some (.int x6)], [], (hY I F sd)) else .inl (25, [some (.int s), some (.int g), some (.int w), some (.int x3), some (.int x4), some (.int x5), some (.int x6)], [], (hY I F sd))) rfl rfl) ?_
      refine pm_rc (fun p3 => ?_) (fun p3 => ?_)
      · show pm_EV (pm_run mt (d + 1)) (some .int) oX8_reach (33, [some (.int s), some (.int g), some (.int w), some (.int x3), some (.int x4), some (.int x5), some (.int x6)], [], (hY I F sd)) = _
        refine Eq.trans (pm_EV_at 3 (d := (36, [some (.int s), some (.int g), some (.int w), some (.int x3), some (.int 0), some (.int x5), some (.int x6)], [.int x5], (hY I F sd))) (x := if x5 = 0 then .inl (50, [some (.int s), some (.int g), some (.int w), some (.int x3), some (.int 0), some (.int x5), some (.int x6)], [], (hY I F sd)) else .inl (37, [some (.int s), some (.int g), some (.int w), some (.int x3), some (.int 0), some (.int x5), some (.int x6)], [], (hY I F sd))) rfl rfl) ?_
        refine pm_rc (fun p4 => ?_) (fun p4 => ?_)
        · show pm_EV (pm_run mt (d + 1)) (some .int) oX8_reach (50, [some (.int s), some (.int g), some (.int w), some (.int x3), some (.int 0), some (.int x5), some (.int x6)], [], (hY I F sd)) = _
          exact pm_EV_go 16 (d := (16, [some (.int s), some (.int g), some (.int w), some (.int ((x3 ||| (0 : Int32)) ||| (0 : Int32))), some (.int 0), some (.int 0), some (.int (x6 + 1))], [], (hY I F sd))) rfl
        · show pm_EV (pm_run mt (d + 1)) (some .int) oX8_reach (37, [some (.int s), some (.int g), some (.int w), some (.int x3), some (.int 0), some (.int x5), some (.int x6)], [], (hY I F sd)) = _
          refine Eq.trans (pm_EV_at 4 (d := (41, [some (.int s), some (.int g), some (.int w), some (.int x3), some (.int 0), some (.int x5), some (.int x6)], [.int 10, .int (s + x6)], (hY I F sd))) (x := if (s + x6) < 10 then .inl (42, [some (.int s), some (.int g), some (.int w), some (.int x3), some (.int 0), some (.int x5), some (.int x6)], [], (hY I F sd)) else .inl (50, [some (.int s), some (.int g), some (.int w), some (.int x3), some (.int 0), some (.int x5), some (.int x6)], [], (hY I F sd))) rfl rfl) ?_
          refine pm_rc (fun p5 => ?_) (fun p5 => ?_)
          · show pm_EV (pm_run mt (d + 1)) (some .int) oX8_reach (42, [some (.int s), some (.int g), some (.int w), some (.int x3), some (.int 0), some (.int x5), some (.int x6)], [], (hY I F sd)) = _
            refine Eq.trans (b := pm_EV (pm_run mt (d + 1)) (some .int) oX8_reach (47, [some (.int s), some (.int g), some (.int w), some (.int x3), some (.int 0), some (.int x5), some (.int x6)], [.int (bI (yhas w (s + x6)))], (hY I F sd))) (pm_EV_cl 4 (call := pm_run mt (d + 1)) (d := (46, [some (.int s), some (.int g), some (.int w), some (.int x3), some (.int 0), some (.int x5), some (.int x6)], [.int (s + x6), .int w], (hY I F sd))) (a := 107) (as := [.int w, .int (s + x6)]) (hp := (hY I F sd)) (hp2 := (hY I F sd)) (i2 := 47) (ls := [some (.int s), some (.int g), some (.int w), some (.int x3), some (.int 0), some (.int x5), some (.int x6)]) (rest := []) (r := some (.int (bI (yhas w (s + x6))))) rfl rfl (sp_X8_has (d + 0) I F sd w (s + x6) )) ?_
            refine Eq.trans (pm_EV_at 0 (d := (47, [some (.int s), some (.int g), some (.int w), some (.int x3), some (.int 0), some (.int x5), some (.int x6)], [.int (bI (yhas w (s + x6)))], (hY I F sd))) (x := if (bI (yhas w (s + x6))) = 0 then .inl (48, [some (.int s), some (.int g), some (.int w), some (.int x3), some (.int 0), some (.int x5), some (.int x6)], [], (hY I F sd)) else .inl (50, [some (.int s), some (.int g), some (.int w), some (.int x3), some (.int 0), some (.int x5), some (.int x6)], [], (hY I F sd))) rfl rfl) ?_
            refine pm_rc (fun p6 => ?_) (fun p6 => ?_)
            · show pm_EV (pm_run mt (d + 1)) (some .int) oX8_reach (48, [some (.int s), some (.int g), some (.int w), some (.int x3), some (.int 0), some (.int x5), some (.int x6)], [], (hY I F sd)) = _
              exact pm_EV_go 22 (d := (16, [some (.int s), some (.int g), some (.int w), some (.int ((x3 ||| (0 : Int32)) ||| ((1 : Int32) <<< ((s + x6) &&& 31)))), some (.int 0), some (.int 1), some (.int (x6 + 1))], [], (hY I F sd))) rfl
            · show pm_EV (pm_run mt (d + 1)) (some .int) oX8_reach (50, [some (.int s), some (.int g), some (.int w), some (.int x3), some (.int 0), some (.int x5), some (.int x6)], [], (hY I F sd)) = _
              exact pm_EV_go 16 (d := (16, [some (.int s), some (.int g), some (.int w), some (.int ((x3 ||| (0 : Int32)) ||| (0 : Int32))), some (.int 0), some (.int 0), some (.int (x6 + 1))], [], (hY I F sd))) rfl
          · show pm_EV (pm_run mt (d + 1)) (some .int) oX8_reach (50, [some (.int s), some (.int g), some (.int w), some (.int x3), some (.int 0), some (.int x5), some (.int x6)], [], (hY I F sd)) = _
            exact pm_EV_go 16 (d := (16, [some (.int s), some (.int g), some (.int w), some (.int ((x3 ||| (0 : Int32)) ||| (0 : Int32))), some (.int 0), some (.int 0), some (.int (x6 + 1))], [], (hY I F sd))) rfl
      · show pm_EV (pm_run mt (d + 1)) (some .int) oX8_reach (25, [some (.int s), some (.int g), some (.int w), some (.int x3), some (.int x4), some (.int x5), some (.int x6)], [], (hY I F sd)) = _
        refine Eq.trans (b := pm_EV (pm_run mt (d + 1)) (some .int) oX8_reach (30, [some (.int s), some (.int g), some (.int w), some (.int x3), some (.int x4), some (.int x5), some (.int x6)], [.int (bI (yhas w (s - x6)))], (hY I F sd))) (pm_EV_cl 4 (call := pm_run mt (d + 1)) (d := (29, [some (.int s), some (.int g), some (.int w), some (.int x3), some (.int x4), some (.int x5), some (.int x6)], [.int (s - x6), .int w], (hY I F sd))) (a := 107) (as := [.int w, .int (s - x6)]) (hp := (hY I F sd)) (hp2 := (hY I F sd)) (i2 := 30) (ls := [some (.int s), some (.int g), some (.int w), some (.int x3), some (.int x4), some (.int x5), some (.int x6)]) (rest := []) (r := some (.int (bI (yhas w (s - x6))))) rfl rfl (sp_X8_has (d + 0) I F sd w (s - x6) )) ?_
        refine Eq.trans (pm_EV_at 0 (d := (30, [some (.int s), some (.int g), some (.int w), some (.int x3), some (.int x4), some (.int x5), some (.int x6)], [.int (bI (yhas w (s - x6)))], (hY I F sd))) (x := if (bI (yhas w (s - x6))) = 0 then .inl (31, [some (.int s), some (.int g), some (.int w), some (.int x3), some (.int x4), some (.int x5), some (.int x6)], [], (hY I F sd)) else .inl (33, [some (.int s), some (.int g), some (.int w), some (.int x3), some (.int x4), some (.int x5), some (.int x6)], [], (hY I F sd))) rfl rfl) ?_
        refine pm_rc (fun p4 => ?_) (fun p4 => ?_)
        · show pm_EV (pm_run mt (d + 1)) (some .int) oX8_reach (31, [some (.int s), some (.int g), some (.int w), some (.int x3), some (.int x4), some (.int x5), some (.int x6)], [], (hY I F sd)) = _
          refine Eq.trans (pm_EV_at 4 (d := (36, [some (.int s), some (.int g), some (.int w), some (.int x3), some (.int 1), some (.int x5), some (.int x6)], [.int x5], (hY I F sd))) (x := if x5 = 0 then .inl (50, [some (.int s), some (.int g), some (.int w), some (.int x3), some (.int 1), some (.int x5), some (.int x6)], [], (hY I F sd)) else .inl (37, [some (.int s), some (.int g), some (.int w), some (.int x3), some (.int 1), some (.int x5), some (.int x6)], [], (hY I F sd))) rfl rfl) ?_
          refine pm_rc (fun p5 => ?_) (fun p5 => ?_)
          · show pm_EV (pm_run mt (d + 1)) (some .int) oX8_reach (50, [some (.int s), some (.int g), some (.int w), some (.int x3), some (.int 1), some (.int x5), some (.int x6)], [], (hY I F sd)) = _
            exact pm_EV_go 21 (d := (16, [some (.int s), some (.int g), some (.int w), some (.int ((x3 ||| ((1 : Int32) <<< ((s - x6) &&& 31))) ||| (0 : Int32))), some (.int 1), some (.int 0), some (.int (x6 + 1))], [], (hY I F sd))) rfl
          · show pm_EV (pm_run mt (d + 1)) (some .int) oX8_reach (37, [some (.int s), some (.int g), some (.int w), some (.int x3), some (.int 1), some (.int x5), some (.int x6)], [], (hY I F sd)) = _
            refine Eq.trans (pm_EV_at 4 (d := (41, [some (.int s), some (.int g), some (.int w), some (.int x3), some (.int 1), some (.int x5), some (.int x6)], [.int 10, .int (s + x6)], (hY I F sd))) (x := if (s + x6) < 10 then .inl (42, [some (.int s), some (.int g), some (.int w), some (.int x3), some (.int 1), some (.int x5), some (.int x6)], [], (hY I F sd)) else .inl (50, [some (.int s), some (.int g), some (.int w), some (.int x3), some (.int 1), some (.int x5), some (.int x6)], [], (hY I F sd))) rfl rfl) ?_
            refine pm_rc (fun p6 => ?_) (fun p6 => ?_)
            · show pm_EV (pm_run mt (d + 1)) (some .int) oX8_reach (42, [some (.int s), some (.int g), some (.int w), some (.int x3), some (.int 1), some (.int x5), some (.int x6)], [], (hY I F sd)) = _
              refine Eq.trans (b := pm_EV (pm_run mt (d + 1)) (some .int) oX8_reach (47, [some (.int s), some (.int g), some (.int w), some (.int x3), some (.int 1), some (.int x5), some (.int x6)], [.int (bI (yhas w (s + x6)))], (hY I F sd))) (pm_EV_cl 4 (call := pm_run mt (d + 1)) (d := (46, [some (.int s), some (.int g), some (.int w), some (.int x3), some (.int 1), some (.int x5), some (.int x6)], [.int (s + x6), .int w], (hY I F sd))) (a := 107) (as := [.int w, .int (s + x6)]) (hp := (hY I F sd)) (hp2 := (hY I F sd)) (i2 := 47) (ls := [some (.int s), some (.int g), some (.int w), some (.int x3), some (.int 1), some (.int x5), some (.int x6)]) (rest := []) (r := some (.int (bI (yhas w (s + x6))))) rfl rfl (sp_X8_has (d + 0) I F sd w (s + x6) )) ?_
              refine Eq.trans (pm_EV_at 0 (d := (47, [some (.int s), some (.int g), some (.int w), some (.int x3), some (.int 1), some (.int x5), some (.int x6)], [.int (bI (yhas w (s + x6)))], (hY I F sd))) (x := if (bI (yhas w (s + x6))) = 0 then .inl (48, [some (.int s), some (.int g), some (.int w), some (.int x3), some (.int 1), some (.int x5), some (.int x6)], [], (hY I F sd)) else .inl (50, [some (.int s), some (.int g), some (.int w), some (.int x3), some (.int 1), some (.int x5), some (.int x6)], [], (hY I F sd))) rfl rfl) ?_
              refine pm_rc (fun p7 => ?_) (fun p7 => ?_)
              · show pm_EV (pm_run mt (d + 1)) (some .int) oX8_reach (48, [some (.int s), some (.int g), some (.int w), some (.int x3), some (.int 1), some (.int x5), some (.int x6)], [], (hY I F sd)) = _
                exact pm_EV_go 27 (d := (16, [some (.int s), some (.int g), some (.int w), some (.int ((x3 ||| ((1 : Int32) <<< ((s - x6) &&& 31))) ||| ((1 : Int32) <<< ((s + x6) &&& 31)))), some (.int 1), some (.int 1), some (.int (x6 + 1))], [], (hY I F sd))) rfl
              · show pm_EV (pm_run mt (d + 1)) (some .int) oX8_reach (50, [some (.int s), some (.int g), some (.int w), some (.int x3), some (.int 1), some (.int x5), some (.int x6)], [], (hY I F sd)) = _
                exact pm_EV_go 21 (d := (16, [some (.int s), some (.int g), some (.int w), some (.int ((x3 ||| ((1 : Int32) <<< ((s - x6) &&& 31))) ||| (0 : Int32))), some (.int 1), some (.int 0), some (.int (x6 + 1))], [], (hY I F sd))) rfl
            · show pm_EV (pm_run mt (d + 1)) (some .int) oX8_reach (50, [some (.int s), some (.int g), some (.int w), some (.int x3), some (.int 1), some (.int x5), some (.int x6)], [], (hY I F sd)) = _
              exact pm_EV_go 21 (d := (16, [some (.int s), some (.int g), some (.int w), some (.int ((x3 ||| ((1 : Int32) <<< ((s - x6) &&& 31))) ||| (0 : Int32))), some (.int 1), some (.int 0), some (.int (x6 + 1))], [], (hY I F sd))) rfl
        · show pm_EV (pm_run mt (d + 1)) (some .int) oX8_reach (33, [some (.int s), some (.int g), some (.int w), some (.int x3), some (.int x4), some (.int x5), some (.int x6)], [], (hY I F sd)) = _
          refine Eq.trans (pm_EV_at 3 (d := (36, [some (.int s), some (.int g), some (.int w), some (.int x3), some (.int 0), some (.int x5), some (.int x6)], [.int x5], (hY I F sd))) (x := if x5 = 0 then .inl (50, [some (.int s), some (.int g), some (.int w), some (.int x3), some (.int 0), some (.int x5), some (.int x6)], [], (hY I F sd)) else .inl (37, [some (.int s), some (.int g), some (.int w), some (.int x3), some (.int 0), some (.int x5), some (.int x6)], [], (hY I F sd))) rfl rfl) ?_
          refine pm_rc (fun p5 => ?_) (fun p5 => ?_)
          · show pm_EV (pm_run mt (d + 1)) (some .int) oX8_reach (50, [some (.int s), some (.int g), some (.int w), some (.int x3), some (.int 0), some (.int x5), some (.int x6)], [], (hY I F sd)) = _
            exact pm_EV_go 16 (d := (16, [some (.int s), some (.int g), some (.int w), some (.int ((x3 ||| (0 : Int32)) ||| (0 : Int32))), some (.int 0), some (.int 0), some (.int (x6 + 1))], [], (hY I F sd))) rfl
          · show pm_EV (pm_run mt (d + 1)) (some .int) oX8_reach (37, [some (.int s), some (.int g), some (.int w), some (.int x3), some (.int 0), some (.int x5), some (.int x6)], [], (hY I F sd)) = _
            refine Eq.trans (pm_EV_at 4 (d := (41, [some (.int s), some (.int g), some (.int w), some (.int x3), some (.int 0), some (.int x5), some (.int x6)], [.int 10, .int (s + x6)], (hY I F sd))) (x := if (s + x6) < 10 then .inl (42, [some (.int s), some (.int g), some (.int w), some (.int x3), some (.int 0), some (.int x5), some (.int x6)], [], (hY I F sd)) else .inl (50, [some (.int s), some (.int g), some (.int w), some (.int x3), some (.int 0), some (.int x5), some (.int x6)], [], (hY I F sd))) rfl rfl) ?_
            refine pm_rc (fun p6 => ?_) (fun p6 => ?_)
            · show pm_EV (pm_run mt (d + 1)) (some .int) oX8_reach (42, [some (.int s), some (.int g), some (.int w), some (.int x3), some (.int 0), some (.int x5), some (.int x6)], [], (hY I F sd)) = _
              refine Eq.trans (b := pm_EV (pm_run mt (d + 1)) (some .int) oX8_reach (47, [some (.int s), some (.int g), some (.int w), some (.int x3), some (.int 0), some (.int x5), some (.int x6)], [.int (bI (yhas w (s + x6)))], (hY I F sd))) (pm_EV_cl 4 (call := pm_run mt (d + 1)) (d := (46, [some (.int s), some (.int g), some (.int w), some (.int x3), some (.int 0), some (.int x5), some (.int x6)], [.int (s + x6), .int w], (hY I F sd))) (a := 107) (as := [.int w, .int (s + x6)]) (hp := (hY I F sd)) (hp2 := (hY I F sd)) (i2 := 47) (ls := [some (.int s), some (.int g), some (.int w), some (.int x3), some (.int 0), some (.int x5), some (.int x6)]) (rest := []) (r := some (.int (bI (yhas w (s + x6))))) rfl rfl (sp_X8_has (d + 0) I F sd w (s + x6) )) ?_
              refine Eq.trans (pm_EV_at 0 (d := (47, [some (.int s), some (.int g), some (.int w), some (.int x3), some (.int 0), some (.int x5), some (.int x6)], [.int (bI (yhas w (s + x6)))], (hY I F sd))) (x := if (bI (yhas w (s + x6))) = 0 then .inl (48, [some (.int s), some (.int g), some (.int w), some (.int x3), some (.int 0), some (.int x5), some (.int x6)], [], (hY I F sd)) else .inl (50, [some (.int s), some (.int g), some (.int w), some (.int x3), some (.int 0), some (.int x5), some (.int x6)], [], (hY I F sd))) rfl rfl) ?_
              refine pm_rc (fun p7 => ?_) (fun p7 => ?_)
              · show pm_EV (pm_run mt (d + 1)) (some .int) oX8_reach (48, [some (.int s), some (.int g), some (.int w), some (.int x3), some (.int 0), some (.int x5), some (.int x6)], [], (hY I F sd)) = _
                exact pm_EV_go 22 (d := (16, [some (.int s), some (.int g), some (.int w), some (.int ((x3 ||| (0 : Int32)) ||| ((1 : Int32) <<< ((s + x6) &&& 31)))), some (.int 0), some (.int 1), some (.int (x6 + 1))], [], (hY I F sd))) rfl
              · show pm_EV (pm_run mt (d + 1)) (some .int) oX8_reach (50, [some (.int s), some (.int g), some (.int w), some (.int x3), some (.int 0), some (.int x5), some (.int x6)], [], (hY I F sd)) = _
                exact pm_EV_go 16 (d := (16, [some (.int s), some (.int g), some (.int w), some (.int ((x3 ||| (0 : Int32)) ||| (0 : Int32))), some (.int 0), some (.int 0), some (.int (x6 + 1))], [], (hY I F sd))) rfl
            · show pm_EV (pm_run mt (d + 1)) (some .int) oX8_reach (50, [some (.int s), some (.int g), some (.int w), some (.int x3), some (.int 0), some (.int x5), some (.int x6)], [], (hY I F sd)) = _
              exact pm_EV_go 16 (d := (16, [some (.int s), some (.int g), some (.int w), some (.int ((x3 ||| (0 : Int32)) ||| (0 : Int32))), some (.int 0), some (.int 0), some (.int (x6 + 1))], [], (hY I F sd))) rfl
set_option maxRecDepth 100000 in
set_option maxHeartbeats 4000000 in
theorem en_X8_reach (d : Nat) (I : Nat → Int32) (F : Nat → Nat → Int32) (sd : Int64) (s : Int32) (g : Int32) (w : Int32) : pm_run mt (d + 2) 127 [.int s, .int g, .int w] (hY I F sd) = pm_EV (pm_run mt (d + 1)) (some .int) oX8_reach (0, [some (.int s), some (.int g), some (.int w), none, none, none, none], [], (hY I F sd)) := rfl
set_option maxRecDepth 100000 in
set_option maxHeartbeats 4000000 in
theorem sp_X8_reach (d : Nat) (I : Nat → Int32) (F : Nat → Nat → Int32) (sd : Int64) (s : Int32) (g : Int32) (w : Int32) (h1 : inr s 10 = true) (h2 : inr g 10 = true) : pm_run mt (d + 2) 127 [.int s, .int g, .int w] (hY I F sd) = some (some (.int (xreach s g w)), (hY I F sd)) := by
  rw [en_X8_reach, tr_X8_reach_0]
  obtain ⟨a, ha, rfl⟩ := inr_nI (n := 10) (by decide) h1
  obtain ⟨g, hg, rfl⟩ := inr_nI (n := 10) (by decide) h2
  have key : ∀ (m k : Nat) (x : Int32) (L R : Bool), 1 ≤ k → k + m = g + 1 → pm_EV (pm_run mt (d + 1)) (some .int) oX8_reach (16, [some (.int (nI a)), some (.int (nI g)), some (.int w), some (.int x), some (.int (bI L)), some (.int (bI R)), some (.int (nI k))], [], hY I F sd) = some (some (.int (x ||| yrem (nI g) w a k L R)), hY I F sd) := by
    intro m
    induction m with
    | zero =>
      intro k x L R hk hm
      obtain rfl : k = g + 1 := by omega
      rw [tr_X8_reach_16, if_pos (by rw [nI_ltI (by omega) (by omega)]; omega), yrem_end w ha hg, or_0]
    | succ m ih =>
      intro k x L R hk hm
      have hst := yrem_step w ha hk (show k ≤ g by omega) hg L R x
      have hi := ih (k + 1) ((x ||| (if yst w a k L = true then 1 <<< (nI (a - k) &&& 31) else 0)) ||| (if ysr w a k R = true then 1 <<< (nI (a + k) &&& 31) else 0)) (yst w a k L) (ysr w a k R) (by omega) (by omega)
      rw [hst] at hi
      rw [tr_X8_reach_16, if_neg (by rw [nI_ltI (by omega) (by omega)]; omega), nI_p1, nI_add]
      simp only [bI_0]
      refine Eq.trans ?_ hi
      rcases Nat.lt_or_ge a k with c1 | c1
      · have hn : nI a - nI k < 0 := pk_sneg (by omega) c1
        rcases Nat.lt_or_ge (a + k) 10 with c2 | c2
        · have hy : nI (a + k) < 10 := by rw [show (10 : Int32) = nI 10 from rfl, nI_ltI (by omega) (by decide)]; exact c2
          rw [yx w c2]
          cases L <;> cases R <;> cases c4 : xhas w (nI (a + k)) <;> simp [yst, ysr, show ¬ k ≤ a by omega, c2, hn, hy, c4, bI]
        · have hy : ¬ nI (a + k) < 10 := by rw [show (10 : Int32) = nI 10 from rfl, nI_ltI (by omega) (by decide)]; omega
          cases L <;> cases R <;> simp [yst, ysr, show ¬ k ≤ a by omega, show ¬ a + k < 10 by omega, hn, hy, bI]
      · have hn : ¬ nI (a - k) < 0 := nI_pos (by omega)
        rw [pk_sub c1, yx w (show a - k < 10 by omega)]
        rcases Nat.lt_or_ge (a + k) 10 with c2 | c2
        · have hy : nI (a + k) < 10 := by rw [show (10 : Int32) = nI 10 from rfl, nI_ltI (by omega) (by decide)]; exact c2
          rw [yx w c2]
          cases L <;> cases R <;> cases c3 : xhas w (nI (a - k)) <;> cases c4 : xhas w (nI (a + k)) <;> simp [yst, ysr, c1, c2, hn, hy, c3, c4, bI]
        · have hy : ¬ nI (a + k) < 10 := by rw [show (10 : Int32) = nI 10 from rfl, nI_ltI (by omega) (by decide)]; omega
          cases L <;> cases R <;> cases c3 : xhas w (nI (a - k)) <;> simp [yst, ysr, c1, show ¬ a + k < 10 by omega, hn, hy, c3, bI]
  simp only [bI_0]
  rw [yx w ha]
  unfold xreach
  cases c0 : xhas w (nI a)
  · rw [if_pos rfl, if_neg (by decide), nI_clamp (by omega), rR_or, rL_or, or_a]
    have h0 := key g 1 ((1 : Int32) <<< (nI a &&& 31)) true true (Nat.le_refl 1) (by omega)
    unfold yrem at h0
    rw [if_pos rfl, if_pos rfl, show a + 1 - 1 = a by omega, show 10 - (a + 1) = 9 - a by omega] at h0
    exact h0
  · rw [if_neg (by decide), if_pos rfl]
