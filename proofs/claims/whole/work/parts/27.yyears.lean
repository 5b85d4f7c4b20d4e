/-! the reference: years, said, lines -/
def yrX (s : Int64) : Int32 := ((s.toUInt64 >>> ((33 : Int32).toInt64.toUInt64 &&& Int64.toUInt64 63)).toInt64 - (s.toUInt64 >>> ((33 : Int32).toInt64.toUInt64 &&& Int64.toUInt64 63)).toInt64 / 32 * 32).toInt32
def yrG (x : Int32) : Int32 := if x < 8 then 109 + 10 * (x / 2) else if x < 16 then 201 + 10 * ((x - 8) / 2) else if x < 26 then 384 + x else 0
def yrN (s : Int64) : Int64 := s * 6364136223846793005 + 1442695040888963407
def yrS (s : Int64) : Nat → Int64
  | 0 => s
  | k + 1 => yrN (yrS s k)
def yrP (K p : Nat → Int32) (nf nt : Int32) (s : Int64) : Nat → Nat → Int32
  | 0 => p
  | k + 1 => dsF K (yrP K p nf nt s k) nf nt (yrG (yrX (yrS s (k + 1))))
def yrT (K p : Nat → Int32) (nf nt : Int32) (s : Int64) : Nat → Int32
  | 0 => 0
  | k + 1 => yrT K p nf nt s k + yrP K p nf nt s (k + 1) 19
def yrb (m : Int32) : Bool := lin m.toInt64 1 30
def yrA (K p q : Nat → Int32) (nf nt m : Int32) (s : Int64) : Int32 := if yrb m = false then -2 else yrT K (va_cpy p q 0 0 21) nf nt s m.toNatClampNeg
def yr6 (K p q : Nat → Int32) (nf nt m : Int32) (s : Int64) : Nat → Int32 := if yrb m = false then q else yrP K (va_cpy p q 0 0 21) nf nt s m.toNatClampNeg
def yrD (m : Int32) (s : Int64) : Int64 := if yrb m = false then s else yrS s m.toNatClampNeg
theorem yrP_19 {K p : Nat → Int32} {nf nt : Int32} {s : Int64} (h : inr (p 19) 10 = true) (hn : inr nf 5 = true) (ht : inr nt 6 = true) : ∀ k, inr (yrP K p nf nt s k 19) 10 = true
  | 0 => h
  | k + 1 => dsF_19 (yrP_19 h hn ht k) hn ht
set_option maxRecDepth 100000 in
set_option maxHeartbeats 4000000 in
theorem tr_X8_years_0_0 (d : Nat) (I : Nat → Int32) (F : Nat → Nat → Int32) (sd : Int64) (m : Int32) : pm_EV (pm_run mt (d + 5)) (some .int) oX8_years (0, [some (.ref 0), some (.int m), none, none, none], [], (hY I F sd)) = (if (bI (lin ((m : Int32).toInt64) 1 30)) = 0 then some (some (.int (-2)), (hY (upd I 0 0) F sd)) else pm_EV (pm_run mt (d + 5)) (some .int) oX8_years (17, [some (.ref 0), some (.int m), some (.int 0), some (.int 0), none], [], (hY (upd I 0 0) (uF F 6 (va_cpy ((F 5)) ((F 6)) 0 0 21)) sd))) := by
  refine Eq.trans (b := pm_EV (pm_run mt (d + 5)) (some .int) oX8_years (8, [some (.ref 0), some (.int m), none, none, none], [.int (bI (lin ((m : Int32).toInt64) 1 30))], (hY (upd I 0 0) F sd))) (pm_EV_cl 7 (call := pm_run mt (d + 5)) (d := (7, [some (.ref 0), some (.int m), none, none, none], [.long 30, .long 1, .long ((m : Int32).toInt64)], (hY (upd I 0 0) F sd))) (a := 106) (as := [.long ((m : Int32).toInt64), .long 1, .long 30]) (hp := (hY (upd I 0 0) F sd)) (hp2 := (hY (upd I 0 0) F sd)) (i2 := 8) (ls := [some (.ref 0), some (.int m), none, none, none]) (rest := []) (r := some (.int (bI (lin ((m : Int32).toInt64) 1 30)))) rfl rfl (sp_X8_in (d + 4) (upd I 0 0) F sd ((m : Int32).toInt64) 1 30 )) ?_
  refine Eq.trans (pm_EV_at 0 (d := (8, [some (.ref 0), some (.int m), none, none, none], [.int (bI (lin ((m : Int32).toInt64) 1 30))], (hY (upd I 0 0) F sd))) (x := if (bI (lin ((m : Int32).toInt64) 1 30)) = 0 then .inl (9, [some (.ref 0), some (.int m), none, none, none], [], (hY (upd I 0 0) F sd)) else .inl (11, [some (.ref 0), some (.int m), none, none, none], [], (hY (upd I 0 0) F sd))) rfl rfl) ?_
  refine pm_rc (fun p1 => ?_) (fun p1 => ?_)
  · show pm_EV (pm_run mt (d + 5)) (some .int) oX8_years (9, [some (.ref 0), some (.int m), none, none, none], [], (hY (upd I 0 0) F sd)) = _
    exact pm_EV_at 1 (d := (10, [some (.ref 0), some (.int m), none, none, none], [.int (-2)], (hY (upd I 0 0) F sd))) rfl rfl
  · show pm_EV (pm_run mt (d + 5)) (some .int) oX8_years (11, [some (.ref 0), some (.int m), none, none, none], [], (hY (upd I 0 0) F sd)) = _
    refine Eq.trans (b := pm_EV (pm_run mt (d + 5)) (some .int) oX8_years (13, [some (.ref 0), some (.int m), none, none, none], [], (hY (upd I 0 0) (uF F 6 (va_cpy ((F 5)) ((F 6)) 0 0 21)) sd))) (pm_EV_cl 1 (call := pm_run mt (d + 5)) (d := (12, [some (.ref 0), some (.int m), none, none, none], [.ref 0], (hY (upd I 0 0) F sd))) (a := 146) (as := [.ref 0]) (hp := (hY (upd I 0 0) F sd)) (hp2 := (hY (upd I 0 0) (uF F 6 (va_cpy ((F 5)) ((F 6)) 0 0 21)) sd)) (i2 := 13) (ls := [some (.ref 0), some (.int m), none, none, none]) (rest := []) (r := none) rfl rfl (sp_X8_begin_0 (d + 4) (upd I 0 0) F sd  )) ?_
    exact pm_EV_go 4 (d := (17, [some (.ref 0), some (.int m), some (.int 0), some (.int 0), none], [], (hY (upd I 0 0) (uF F 6 (va_cpy ((F 5)) ((F 6)) 0 0 21)) sd))) rfl
set_option maxRecDepth 100000 in
set_option maxHeartbeats 4000000 in
theorem tr_X8_years_0_17 (d : Nat) (I : Nat → Int32) (F : Nat → Nat → Int32) (sd : Int64) (m : Int32) (x2 : Int32) (x3 : Int32) (o4 : Option Value) : pm_EV (pm_run mt (d + 5)) (some .int) oX8_years (17, [some (.ref 0), some (.int m), some (.int x2), some (.int x3), o4], [], (hY I F sd)) = (if x3 < m then pm_EV (pm_run mt (d + 5)) (some .int) oX8_years (36, [some (.ref 0), some (.int m), some (.int x2), some (.int x3), some (.int ((((((sd * 6364136223846793005) + 1442695040888963407).toUInt64 >>> ((33 : Int32).toInt64.toUInt64 &&& Int64.toUInt64 63)).toInt64) - ((((sd * 6364136223846793005) + 1442695040888963407).toUInt64 >>> ((33 : Int32).toInt64.toUInt64 &&& Int64.toUInt64 63)).toInt64) / 32 * 32 : Int64).toInt32))], [], (hY I F ((sd * 6364136223846793005) + 1442695040888963407))) else some (some (.int x2), (hY I F sd))) := by
  refine Eq.trans (pm_EV_at 2 (d := (19, [some (.ref 0), some (.int m), some (.int x2), some (.int x3), o4], [.int m, .int x3], (hY I F sd))) (x := if x3 < m then .inl (20, [some (.ref 0), some (.int m), some (.int x2), some (.int x3), o4], [], (hY I F sd)) else .inl (80, [some (.ref 0), some (.int m), some (.int x2), some (.int x3), o4], [], (hY I F sd))) rfl rfl) ?_
  refine pm_rc (fun p1 => ?_) (fun p1 => ?_)
  · show pm_EV (pm_run mt (d + 5)) (some .int) oX8_years (20, [some (.ref 0), some (.int m), some (.int x2), some (.int x3), o4], [], (hY I F sd)) = _
    exact pm_EV_go 16 (d := (36, [some (.ref 0), some (.int m), some (.int x2), some (.int x3), some (.int ((((((sd * 6364136223846793005) + 1442695040888963407).toUInt64 >>> ((33 : Int32).toInt64.toUInt64 &&& Int64.toUInt64 63)).toInt64) - ((((sd * 6364136223846793005) + 1442695040888963407).toUInt64 >>> ((33 : Int32).toInt64.toUInt64 &&& Int64.toUInt64 63)).toInt64) / 32 * 32 : Int64).toInt32))], [], (hY I F ((sd * 6364136223846793005) + 1442695040888963407)))) rfl
  · show pm_EV (pm_run mt (d + 5)) (some .int) oX8_years (80, [some (.ref 0), some (.int m), some (.int x2), some (.int x3), o4], [], (hY I F sd)) = _
    exact pm_EV_at 1 (d := (81, [some (.ref 0), some (.int m), some (.int x2), some (.int x3), o4], [.int x2], (hY I F sd))) rfl rfl
set_option maxRecDepth 100000 in
set_option maxHeartbeats 4000000 in
theorem tr_X8_years_0_36 (d : Nat) (I : Nat → Int32) (F : Nat → Nat → Int32) (sd : Int64) (m : Int32) (x2 : Int32) (x3 : Int32) (x4 : Int32) (g1 : (x4 < 8) → inr ((I 5)) 5 = true) (g2 : (x4 < 8) → inr ((I 7)) 6 = true) (g3 : (x4 < 8) → inr ((I 4)) 10 = true) (g4 : (x4 < 8) → inr ((F 6) 19) 10 = true) (g5 : (¬ (x4 < 8)) → (x4 < 16) → inr ((I 5)) 5 = true) (g6 : (¬ (x4 < 8)) → (x4 < 16) → inr ((I 7)) 6 = true) (g7 : (¬ (x4 < 8)) → (x4 < 16) → inr ((I 4)) 10 = true) (g8 : (¬ (x4 < 8)) → (x4 < 16) → inr ((F 6) 19) 10 = true) (g9 : (¬ (x4 < 8)) → (¬ (x4 < 16)) → (x4 < 26) → inr ((I 5)) 5 = true) (g10 : (¬ (x4 < 8)) → (¬ (x4 < 16)) → (x4 < 26) → inr ((I 7)) 6 = true) (g11 : (¬ (x4 < 8)) → (¬ (x4 < 16)) → (x4 < 26) → inr ((I 4)) 10 = true) (g12 : (¬ (x4 < 8)) → (¬ (x4 < 16)) → (x4 < 26) → inr ((F 6) 19) 10 = true) (g13 : (¬ (x4 < 8)) → (¬ (x4 < 16)) → (¬ (x4 < 26)) → inr ((I 5)) 5 = true) (g14 : (¬ (x4 < 8)) → (¬ (x4 < 16)) → (¬ (x4 < 26)) → inr ((I 7)) 6 = true) (g15 : (¬ (x4 < 8)) → (¬ (x4 < 16)) → (¬ (x4 < 26)) → inr ((I 4)) 10 = true) (g16 : (¬ (x4 < 8)) → (¬ (x4 < 16)) → (¬ (x4 < 26)) → inr ((F 6) 19) 10 = true) : pm_EV (pm_run mt (d + 5)) (some .int) oX8_years (36, [some (.ref 0), some (.int m), some (.int x2), some (.int x3), some (.int x4)], [], (hY I F sd)) = (if x4 < 8 then pm_EV (pm_run mt (d + 5)) (some .int) oX8_years (17, [some (.ref 0), some (.int m), some (.int (x2 + (((uF F 6 (dsF ((F 2)) ((F 6)) ((I 5)) ((I 7)) (109 + (10 * (x4 / 2))))) 6) 19))), some (.int (x3 + 1)), some (.int x4)], [], (hY I (uF F 6 (dsF ((F 2)) ((F 6)) ((I 5)) ((I 7)) (109 + (10 * (x4 / 2))))) sd)) else (if x4 < 16 then pm_EV (pm_run mt (d + 5)) (some .int) oX8_years (17, [some (.ref 0), some (.int m), some (.int (x2 + (((uF F 6 (dsF ((F 2)) ((F 6)) ((I 5)) ((I 7)) (201 + (10 * ((x4 - 8) / 2))))) 6) 19))), some (.int (x3 + 1)), some (.int x4)], [], (hY I (uF F 6 (dsF ((F 2)) ((F 6)) ((I 5)) ((I 7)) (201 + (10 * ((x4 - 8) / 2))))) sd)) else (if x4 < 26 then pm_EV (pm_run mt (d + 5)) (some .int) oX8_years (17, [some (.ref 0), some (.int m), some (.int (x2 + (((uF F 6 (dsF ((F 2)) ((F 6)) ((I 5)) ((I 7)) (384 + x4))) 6) 19))), some (.int (x3 + 1)), some (.int x4)], [], (hY I (uF F 6 (dsF ((F 2)) ((F 6)) ((I 5)) ((I 7)) (384 + x4))) sd)) else pm_EV (pm_run mt (d + 5)) (some .int) oX8_years (17, [some (.ref 0), some (.int m), some (.int (x2 + (((uF F 6 (dsF ((F 2)) ((F 6)) ((I 5)) ((I 7)) 0)) 6) 19))), some (.int (x3 + 1)), some (.int x4)], [], (hY I (uF F 6 (dsF ((F 2)) ((F 6)) ((I 5)) ((I 7)) 0)) sd))))) := by
  refine Eq.trans (pm_EV_at 3 (d := (39, [some (.ref 0), some (.int m), some (.int x2), some (.int x3), some (.int x4)], [.int 8, .int x4, .ref 0], (hY I F sd))) (x := if x4 < 8 then .inl (40, [some (.ref 0), some (.int m), some (.int x2), some (.int x3), some (.int x4)], [.ref 0], (hY I F sd)) else .inl (48, [some (.ref 0), some (.int m), some (.int x2), some (.int x3), some (.int x4)], [.ref 0], (hY I F sd))) rfl rfl) ?_
  refine pm_rc (fun p1 => ?_) (fun p1 => ?_)
  · show pm_EV (pm_run mt (d + 5)) (some .int) oX8_years (40, [some (.ref 0), some (.int m), some (.int x2), some (.int x3), some (.int x4)], [.ref 0], (hY I F sd)) = _
    refine Eq.trans (b := pm_EV (pm_run mt (d + 5)) (some .int) oX8_years (70, [some (.ref 0), some (.int m), some (.int x2), some (.int x3), some (.int x4)], [.int (bI (dsA ((F 2)) ((F 6)) ((I 5)) ((I 7)) ((I 4)) (109 + (10 * (x4 / 2)))))], (hY I (uF F 6 (dsF ((F 2)) ((F 6)) ((I 5)) ((I 7)) (109 + (10 * (x4 / 2))))) sd))) (pm_EV_cl 8 (call := pm_run mt (d + 5)) (d := (69, [some (.ref 0), some (.int m), some (.int x2), some (.int x3), some (.int x4)], [.int (109 + (10 * (x4 / 2))), .ref 0], (hY I F sd))) (a := 153) (as := [.ref 0, .int (109 + (10 * (x4 / 2)))]) (hp := (hY I F sd)) (hp2 := (hY I (uF F 6 (dsF ((F 2)) ((F 6)) ((I 5)) ((I 7)) (109 + (10 * (x4 / 2))))) sd)) (i2 := 70) (ls := [some (.ref 0), some (.int m), some (.int x2), some (.int x3), some (.int x4)]) (rest := []) (r := some (.int (bI (dsA ((F 2)) ((F 6)) ((I 5)) ((I 7)) ((I 4)) (109 + (10 * (x4 / 2))))))) rfl rfl (sp_X8_does_0 (d + 0) I F sd (109 + (10 * (x4 / 2))) (g1 p1) (g2 p1) (g3 p1) (g4 p1))) ?_
    exact pm_EV_go 10 (d := (17, [some (.ref 0), some (.int m), some (.int (x2 + (((uF F 6 (dsF ((F 2)) ((F 6)) ((I 5)) ((I 7)) (109 + (10 * (x4 / 2))))) 6) 19))), some (.int (x3 + 1)), some (.int x4)], [], (hY I (uF F 6 (dsF ((F 2)) ((F 6)) ((I 5)) ((I 7)) (109 + (10 * (x4 / 2))))) sd))) rfl
  · show pm_EV (pm_run mt (d + 5)) (some .int) oX8_years (48, [some (.ref 0), some (.int m), some (.int x2), some (.int x3), some (.int x4)], [.ref 0], (hY I F sd)) = _
    refine Eq.trans (pm_EV_at 2 (d := (50, [some (.ref 0), some (.int m), some (.int x2), some (.int x3), some (.int x4)], [.int 16, .int x4, .ref 0], (hY I F sd))) (x := if x4 < 16 then .inl (51, [some (.ref 0), some (.int m), some (.int x2), some (.int x3), some (.int x4)], [.ref 0], (hY I F sd)) else .inl (61, [some (.ref 0), some (.int m), some (.int x2), some (.int x3), some (.int x4)], [.ref 0], (hY I F sd))) rfl rfl) ?_
    refine pm_rc (fun p2 => ?_) (fun p2 => ?_)
    · show pm_EV (pm_run mt (d + 5)) (some .int) oX8_years (51, [some (.ref 0), some (.int m), some (.int x2), some (.int x3), some (.int x4)], [.ref 0], (hY I F sd)) = _
      refine Eq.trans (b := pm_EV (pm_run mt (d + 5)) (some .int) oX8_years (70, [some (.ref 0), some (.int m), some (.int x2), some (.int x3), some (.int x4)], [.int (bI (dsA ((F 2)) ((F 6)) ((I 5)) ((I 7)) ((I 4)) (201 + (10 * ((x4 - 8) / 2)))))], (hY I (uF F 6 (dsF ((F 2)) ((F 6)) ((I 5)) ((I 7)) (201 + (10 * ((x4 - 8) / 2))))) sd))) (pm_EV_cl 10 (call := pm_run mt (d + 5)) (d := (69, [some (.ref 0), some (.int m), some (.int x2), some (.int x3), some (.int x4)], [.int (201 + (10 * ((x4 - 8) / 2))), .ref 0], (hY I F sd))) (a := 153) (as := [.ref 0, .int (201 + (10 * ((x4 - 8) / 2)))]) (hp := (hY I F sd)) (hp2 := (hY I (uF F 6 (dsF ((F 2)) ((F 6)) ((I 5)) ((I 7)) (201 + (10 * ((x4 - 8) / 2))))) sd)) (i2 := 70) (ls := [some (.ref 0), some (.int m), some (.int x2), some (.int x3), some (.int x4)]) (rest := []) (r := some (.int (bI (dsA ((F 2)) ((F 6)) ((I 5)) ((I 7)) ((I 4)) (201 + (10 * ((x4 - 8) / 2))))))) rfl rfl (sp_X8_does_0 (d + 0) I F sd (201 + (10 * ((x4 - 8) / 2))) (g5 p1 p2) (g6 p1 p2) (g7 p1 p2) (g8 p1 p2))) ?_
      exact pm_EV_go 10 (d := (17, [some (.ref 0), some (.int m), some (.int (x2 + (((uF F 6 (dsF ((F 2)) ((F 6)) ((I 5)) ((I 7)) (201 + (10 * ((x4 - 8) / 2))))) 6) 19))), some (.int (x3 + 1)), some (.int x4)], [], (hY I (uF F 6 (dsF ((F 2)) ((F 6)) ((I 5)) ((I 7)) (201 + (10 * ((x4 - 8) / 2))))) sd))) rfl
    · show pm_EV (pm_run mt (d + 5)) (some .int) oX8_years (61, [some (.ref 0), some (.int m), some (.int x2), some (.int x3), some (.int x4)], [.ref 0], (hY I F sd)) = _
      refine Eq.trans (pm_EV_at 2 (d := (63, [some (.ref 0), some (.int m), some (.int x2), some (.int x3), some (.int x4)], [.int 26, .int x4, .ref 0], (hY I F sd))) (x := if x4 < 26 then .inl (64, [some (.ref 0), some (.int m), some (.int x2), some (.int x3), some (.int x4)], [.ref 0], (hY I F sd)) else .inl (68, [some (.ref 0), some (.int m), some (.int x2), some (.int x3), some (.int x4)], [.ref 0], (hY I F sd))) rfl rfl) ?_
      refine pm_rc (fun p3 => ?_) (fun p3 => ?_)
      · show pm_EV (pm_run mt (d + 5)) (some .int) oX8_years (64, [some (.ref 0), some (.int m), some (.int x2), some (.int x3), some (.int x4)], [.ref 0], (hY I F sd)) = _
        refine Eq.trans (b := pm_EV (pm_run mt (d + 5)) (some .int) oX8_years (70, [some (.ref 0), some (.int m), some (.int x2), some (.int x3), some (.int x4)], [.int (bI (dsA ((F 2)) ((F 6)) ((I 5)) ((I 7)) ((I 4)) (384 + x4)))], (hY I (uF F 6 (dsF ((F 2)) ((F 6)) ((I 5)) ((I 7)) (384 + x4))) sd))) (pm_EV_cl 4 (call := pm_run mt (d + 5)) (d := (69, [some (.ref 0), some (.int m), some (.int x2), some (.int x3), some (.int x4)], [.int (384 + x4), .ref 0], (hY I F sd))) (a := 153) (as := [.ref 0, .int (384 + x4)]) (hp := (hY I F sd)) (hp2 := (hY I (uF F 6 (dsF ((F 2)) ((F 6)) ((I 5)) ((I 7)) (384 + x4))) sd)) (i2 := 70) (ls := [some (.ref 0), some (.int m), some (.int x2), some (.int x3), some (.int x4)]) (rest := []) (r := some (.int (bI (dsA ((F 2)) ((F 6)) ((I 5)) ((I 7)) ((I 4)) (384 + x4))))) rfl rfl (sp_X8_does_0 (d + 0) I F sd (384 + x4) (g9 p1 p2 p3) (g10 p1 p2 p3) (g11 p1 p2 p3) (g12 p1 p2 p3))) ?_
        exact pm_EV_go 10 (d := (17, [some (.ref 0), some (.int m), some (.int (x2 + (((uF F 6 (dsF ((F 2)) ((F 6)) ((I 5)) ((I 7)) (384 + x4))) 6) 19))), some (.int (x3 + 1)), some (.int x4)], [], (hY I (uF F 6 (dsF ((F 2)) ((F 6)) ((I 5)) ((I 7)) (384 + x4))) sd))) rfl
      · show pm_EV (pm_run mt (d + 5)) (some .int) oX8_years (68, [some (.ref 0), some (.int m), some (.int x2), some (.int x3), some (.int x4)], [.ref 0], (hY I F sd)) = _
        refine Eq.trans (b := pm_EV (pm_run mt (d + 5)) (some .int) oX8_years (70, [some (.ref 0), some (.int m), some (.int x2), some (.int x3), some (.int x4)], [.int (bI (dsA ((F 2)) ((F 6)) ((I 5)) ((I 7)) ((I 4)) 0))], (hY I (uF F 6 (dsF ((F 2)) ((F 6)) ((I 5)) ((I 7)) 0)) sd))) (pm_EV_cl 1 (call := pm_run mt (d + 5)) (d := (69, [some (.ref 0), some (.int m), some (.int x2), some (.int x3), some (.int x4)], [.int 0, .ref 0], (hY I F sd))) (a := 153) (as := [.ref 0, .int 0]) (hp := (hY I F sd)) (hp2 := (hY I (uF F 6 (dsF ((F 2)) ((F 6)) ((I 5)) ((I 7)) 0)) sd)) (i2 := 70) (ls := [some (.ref 0), some (.int m), some (.int x2), some (.int x3), some (.int x4)]) (rest := []) (r := some (.int (bI (dsA ((F 2)) ((F 6)) ((I 5)) ((I 7)) ((I 4)) 0)))) rfl rfl (sp_X8_does_0 (d + 0) I F sd 0 (g13 p1 p2 p3) (g14 p1 p2 p3) (g15 p1 p2 p3) (g16 p1 p2 p3))) ?_
        exact pm_EV_go 10 (d := (17, [some (.ref 0), some (.int m), some (.int (x2 + (((uF F 6 (dsF ((F 2)) ((F 6)) ((I 5)) ((I 7)) 0)) 6) 19))), some (.int (x3 + 1)), some (.int x4)], [], (hY I (uF F 6 (dsF ((F 2)) ((F 6)) ((I 5)) ((I 7)) 0)) sd))) rfl
set_option maxRecDepth 100000 in
set_option maxHeartbeats 4000000 in
theorem en_X8_years_0 (d : Nat) (I : Nat → Int32) (F : Nat → Nat → Int32) (sd : Int64) (m : Int32) : pm_run mt (d + 6) 165 [.ref 0, .int m] (hY I F sd) = pm_EV (pm_run mt (d + 5)) (some .int) oX8_years (0, [some (.ref 0), some (.int m), none, none, none], [], (hY I F sd)) := rfl
set_option maxRecDepth 100000 in
set_option maxHeartbeats 4000000 in
theorem sp_X8_years_0 (d : Nat) (I : Nat → Int32) (F : Nat → Nat → Int32) (sd : Int64) (m : Int32) (h1 : inr (I 5) 5 = true) (h2 : inr (I 7) 6 = true) (h3 : inr (I 4) 10 = true) (h4 : inr (F 5 19) 10 = true) : pm_run mt (d + 6) 165 [.ref 0, .int m] (hY I F sd) = some (some (.int (yrA (F 2) (F 5) (F 6) (I 5) (I 7) m sd)), (hY (upd I 0 0) (uF F 6 (yr6 (F 2) (F 5) (F 6) (I 5) (I 7) m sd)) (yrD m sd))) := by
  rw [en_X8_years_0, tr_X8_years_0_0]
  simp only [bI_0]
  unfold yrA yr6 yrD
  cases c1 : yrb m
  · have c1 : lin m.toInt64 1 30 = false := c1
    simp only [c1, if_true, uF_self]
  · have c1 : lin m.toInt64 1 30 = true := c1
    simp only [c1, Bool.true_eq_false, if_false]
    have hp0 : inr (va_cpy (F 5) (F 6) 0 0 21 19) 10 = true := by rw [cpy_in (by decide)]; exact h4
    generalize va_cpy (F 5) (F 6) 0 0 21 = p at hp0 ⊢
    have stp : ∀ (q : Nat → Int32) (s : Int64) (x2 x3 x4 : Int32), inr (q 19) 10 = true → pm_EV (pm_run mt (d + 5)) (some .int) oX8_years (36, [some (.ref 0), some (.int m), some (.int x2), some (.int x3), some (.int x4)], [], hY (upd I 0 0) (uF F 6 q) s) = pm_EV (pm_run mt (d + 5)) (some .int) oX8_years (17, [some (.ref 0), some (.int m), some (.int (x2 + dsF (F 2) q (I 5) (I 7) (yrG x4) 19)), some (.int (x3 + 1)), some (.int x4)], [], hY (upd I 0 0) (uF F 6 (dsF (F 2) q (I 5) (I 7) (yrG x4))) s) := by
      intro q s x2 x3 x4 hq
      have e5 : upd I 0 0 5 = I 5 := rfl
      have e7 : upd I 0 0 7 = I 7 := rfl
      rw [tr_X8_years_0_36 d (upd I 0 0) (uF F 6 q) s m x2 x3 x4 (fun _ => h1) (fun _ => h2) (fun _ => h3) (fun _ => hq) (fun _ _ => h1) (fun _ _ => h2) (fun _ _ => h3) (fun _ _ => hq) (fun _ _ _ => h1) (fun _ _ _ => h2) (fun _ _ _ => h3) (fun _ _ _ => hq) (fun _ _ _ => h1) (fun _ _ _ => h2) (fun _ _ _ => h3) (fun _ _ _ => hq)]
      unfold yrG
      simp only [uF_uF, uF_at, uF_ne F q (show (2 : Nat) ≠ 6 by decide), e5, e7]
      by_cases z1 : x4 < 8
      · simp only [z1, if_true]
      · by_cases z2 : x4 < 16
        · simp only [z1, z2, if_true, if_false]
        · by_cases z3 : x4 < 26
          · simp only [z1, z2, z3, if_true, if_false]
          · simp only [z1, z2, z3, if_false]
    have key : ∀ (z k : Nat) (o4 : Option Value), k + z = m.toNatClampNeg → pm_EV (pm_run mt (d + 5)) (some .int) oX8_years (17, [some (.ref 0), some (.int m), some (.int (yrT (F 2) p (I 5) (I 7) sd k)), some (.int (nI k)), o4], [], hY (upd I 0 0) (uF F 6 (yrP (F 2) p (I 5) (I 7) sd k)) (yrS sd k)) = some (some (.int (yrT (F 2) p (I 5) (I 7) sd m.toNatClampNeg)), hY (upd I 0 0) (uF F 6 (yrP (F 2) p (I 5) (I 7) sd m.toNatClampNeg)) (yrS sd m.toNatClampNeg)) := by
      intro z
      induction z with
      | zero =>
        intro k o4 hk
        have hb := cl_bd m
        rw [tr_X8_years_0_17, if_neg (fun h => by rw [cl_lt (by omega)] at h; omega), ← hk]
        rfl
      | succ z ih =>
        intro k o4 hk
        have hb := cl_bd m
        rw [tr_X8_years_0_17, if_pos ((cl_lt (by omega)).mpr (by omega))]
        refine (stp (yrP (F 2) p (I 5) (I 7) sd k) (yrS sd (k + 1)) _ _ (yrX (yrS sd (k + 1))) (yrP_19 hp0 h1 h2 k)).trans ?_
        rw [nI_p1]
        exact ih (k + 1) _ (by omega)
    exact key _ 0 none (Nat.zero_add _)
def syY (p k s v : Int32) : Prop := sdG p k s
noncomputable def sy10 (p k s : Int32) (g : Nat → Int32) : Nat → Int32 := @ite _ (sdG p k s) (Classical.propDecidable _) (upd g s.toNatClampNeg p) g
noncomputable def sy11 (p k s : Int32) (g : Nat → Int32) : Nat → Int32 := @ite _ (sdG p k s) (Classical.propDecidable _) (upd g s.toNatClampNeg k) g
theorem k01 (k : Int32) : inr k 2 = true ↔ (k = 0 ∨ k = 1) := by
  constructor
  · intro h
    obtain ⟨z, hz, rfl⟩ := inr_nI (n := 2) (by decide) h
    rcases (show z = 0 ∨ z = 1 by omega) with rfl | rfl
    · exact Or.inl rfl
    · exact Or.inr rfl
  · intro h
    rcases h with rfl | rfl <;> decide +kernel
set_option maxRecDepth 100000 in
set_option maxHeartbeats 4000000 in
theorem tr_X8_say_0_0 (d : Nat) (I : Nat → Int32) (F : Nat → Nat → Int32) (sd : Int64) (p : Int32) (k : Int32) (g1 : ((bI (!inr p 10)) = 0) → (¬ ((bI (lin ((k : Int32).toInt64) 0 1)) = 0)) → (¬ ((I 20) = 6)) → pm_in (I 20) 6 = true) : pm_EV (pm_run mt (d + 2)) (some .int) oX8_say (0, [some (.ref 0), some (.int p), some (.int k)], [], (hY I F sd)) = (if (bI (!inr p 10)) = 0 then (if (bI (lin ((k : Int32).toInt64) 0 1)) = 0 then some (some (.int (-2)), (hY (upd I 0 0) F sd)) else (if (I 20) = 6 then some (some (.int (-4)), (hY (upd I 0 0) F sd)) else some (some (.int ((I 20) + 1)), (hY (upd (upd I 0 0) 20 ((I 20) + 1)) (uF (uF F 10 (upd (F 10) (I 20).toNatClampNeg p)) 11 (upd ((uF F 10 (upd (F 10) (I 20).toNatClampNeg p)) 11) (I 20).toNatClampNeg k)) sd)))) else some (some (.int (-1)), (hY (upd I 0 0) F sd))) := by
  refine Eq.trans (b := pm_EV (pm_run mt (d + 2)) (some .int) oX8_say (5, [some (.ref 0), some (.int p), some (.int k)], [.int (bI (!inr p 10))], (hY (upd I 0 0) F sd))) (pm_EV_cl 4 (call := pm_run mt (d + 2)) (d := (4, [some (.ref 0), some (.int p), some (.int k)], [.int p], (hY (upd I 0 0) F sd))) (a := 113) (as := [.int p]) (hp := (hY (upd I 0 0) F sd)) (hp2 := (hY (upd I 0 0) F sd)) (i2 := 5) (ls := [some (.ref 0), some (.int p), some (.int k)]) (rest := []) (r := some (.int (bI (!inr p 10)))) rfl rfl (sp_X8_noPlace (d + 0) (upd I 0 0) F sd p )) ?_
  refine Eq.trans (pm_EV_at 0 (d := (5, [some (.ref 0), some (.int p), some (.int k)], [.int (bI (!inr p 10))], (hY (upd I 0 0) F sd))) (x := if (bI (!inr p 10)) = 0 then .inl (8, [some (.ref 0), some (.int p), some (.int k)], [], (hY (upd I 0 0) F sd)) else .inl (6, [some (.ref 0), some (.int p), some (.int k)], [], (hY (upd I 0 0) F sd))) rfl rfl) ?_
  refine pm_rc (fun p1 => ?_) (fun p1 => ?_)
  · show pm_EV (pm_run mt (d + 2)) (some .int) oX8_say (8, [some (.ref 0), some (.int p), some (.int k)], [], (hY (upd I 0 0) F sd)) = _
    refine Eq.trans (b := pm_EV (pm_run mt (d + 2)) (some .int) oX8_say (13, [some (.ref 0), some (.int p), some (.int k)], [.int (bI (lin ((k : Int32).toInt64) 0 1))], (hY (upd I 0 0) F sd))) (pm_EV_cl 4 (call := pm_run mt (d + 2)) (d := (12, [some (.ref 0), some (.int p), some (.int k)], [.long 1, .long 0, .long ((k : Int32).toInt64)], (hY (upd I 0 0) F sd))) (a := 106) (as := [.long ((k : Int32).toInt64), .long 0, .long 1]) (hp := (hY (upd I 0 0) F sd)) (hp2 := (hY (upd I 0 0) F sd)) (i2 := 13) (ls := [some (.ref 0), some (.int p), some (.int k)]) (rest := []) (r := some (.int (bI (lin ((k : Int32).toInt64) 0 1)))) rfl rfl (sp_X8_in (d + 1) (upd I 0 0) F sd ((k : Int32).toInt64) 0 1 )) ?_
    refine Eq.trans (pm_EV_at 0 (d := (13, [some (.ref 0), some (.int p), some (.int k)], [.int (bI (lin ((k : Int32).toInt64) 0 1))], (hY (upd I 0 0) F sd))) (x := if (bI (lin ((k : Int32).toInt64) 0 1)) = 0 then .inl (14, [some (.ref 0), some (.int p), some (.int k)], [], (hY (upd I 0 0) F sd)) else .inl (16, [some (.ref 0), some (.int p), some (.int k)], [], (hY (upd I 0 0) F sd))) rfl rfl) ?_
    refine pm_rc (fun p2 => ?_) (fun p2 => ?_)
    · show pm_EV (pm_run mt (d + 2)) (some .int) oX8_say (14, [some (.ref 0), some (.int p), some (.int k)], [], (hY (upd I 0 0) F sd)) = _
      exact pm_EV_at 1 (d := (15, [some (.ref 0), some (.int p), some (.int k)], [.int (-2)], (hY (upd I 0 0) F sd))) rfl rfl
    · show pm_EV (pm_run mt (d + 2)) (some .int) oX8_say (16, [some (.ref 0), some (.int p), some (.int k)], [], (hY (upd I 0 0) F sd)) = _
      refine Eq.trans (pm_EV_at 3 (d := (19, [some (.ref 0), some (.int p), some (.int k)], [.int 6, .int (I 20)], (hY (upd I 0 0) F sd))) (x := if (I 20) = 6 then .inl (20, [some (.ref 0), some (.int p), some (.int k)], [], (hY (upd I 0 0) F sd)) else .inl (22, [some (.ref 0), some (.int p), some (.int k)], [], (hY (upd I 0 0) F sd))) rfl rfl) ?_
      refine pm_rc (fun p3 => ?_) (fun p3 => ?_)
      · show pm_EV (pm_run mt (d + 2)) (some .int) oX8_say (20, [some (.ref 0), some (.int p), some (.int k)], [], (hY (upd I 0 0) F sd)) = _
        exact pm_EV_at 1 (d := (21, [some (.ref 0), some (.int p), some (.int k)], [.int (-4)], (hY (upd I 0 0) F sd))) rfl rfl
      · show pm_EV (pm_run mt (d + 2)) (some .int) oX8_say (22, [some (.ref 0), some (.int p), some (.int k)], [], (hY (upd I 0 0) F sd)) = _
        refine Eq.trans (b := pm_EV (pm_run mt (d + 2)) (some .int) oX8_say (28, [some (.ref 0), some (.int p), some (.int k)], [], ((hY (upd I 0 0) F sd)).set 10 (.inl (0, 6, .inl (upd (F 10) (I 20).toNatClampNeg p))))) (pm_EV_gd 5 (d := (27, [some (.ref 0), some (.int p), some (.int k)], [.int p, .int (I 20), .ref 10], (hY (upd I 0 0) F sd))) (c1 := (28, [some (.ref 0), some (.int p), some (.int k)], [], ((hY (upd I 0 0) F sd)).set 10 (.inl (0, 6, .inl (upd (F 10) (I 20).toNatClampNeg p))))) rfl rfl ⟨rfl, g1 p1 p2 p3⟩) ?_
        refine Eq.trans (b := pm_EV (pm_run mt (d + 2)) (some .int) oX8_say (28, [some (.ref 0), some (.int p), some (.int k)], [], (hY (upd I 0 0) (uF F 10 (upd (F 10) (I 20).toNatClampNeg p)) sd))) (congrArg (fun hz => pm_EV (pm_run mt (d + 2)) (some .int) oX8_say (28, [some (.ref 0), some (.int p), some (.int k)], [], hz)) (hY_s10 (upd I 0 0) F sd (upd (F 10) (I 20).toNatClampNeg p))) ?_
        refine Eq.trans (b := pm_EV (pm_run mt (d + 2)) (some .int) oX8_say (34, [some (.ref 0), some (.int p), some (.int k)], [], ((hY (upd I 0 0) (uF F 10 (upd (F 10) (I 20).toNatClampNeg p)) sd)).set 11 (.inl (0, 6, .inl (upd ((uF F 10 (upd (F 10) (I 20).toNatClampNeg p)) 11) (I 20).toNatClampNeg k))))) (pm_EV_gd 5 (d := (33, [some (.ref 0), some (.int p), some (.int k)], [.int k, .int (I 20), .ref 11], (hY (upd I 0 0) (uF F 10 (upd (F 10) (I 20).toNatClampNeg p)) sd))) (c1 := (34, [some (.ref 0), some (.int p), some (.int k)], [], ((hY (upd I 0 0) (uF F 10 (upd (F 10) (I 20).toNatClampNeg p)) sd)).set 11 (.inl (0, 6, .inl (upd ((uF F 10 (upd (F 10) (I 20).toNatClampNeg p)) 11) (I 20).toNatClampNeg k))))) rfl rfl ⟨rfl, g1 p1 p2 p3⟩) ?_
        refine Eq.trans (b := pm_EV (pm_run mt (d + 2)) (some .int) oX8_say (34, [some (.ref 0), some (.int p), some (.int k)], [], (hY (upd I 0 0) (uF (uF F 10 (upd (F 10) (I 20).toNatClampNeg p)) 11 (upd ((uF F 10 (upd (F 10) (I 20).toNatClampNeg p)) 11) (I 20).toNatClampNeg k)) sd))) (congrArg (fun hz => pm_EV (pm_run mt (d + 2)) (some .int) oX8_say (34, [some (.ref 0), some (.int p), some (.int k)], [], hz)) (hY_s11 (upd I 0 0) (uF F 10 (upd (F 10) (I 20).toNatClampNeg p)) sd (upd ((uF F 10 (upd (F 10) (I 20).toNatClampNeg p)) 11) (I 20).toNatClampNeg k))) ?_
        exact pm_EV_at 8 (d := (42, [some (.ref 0), some (.int p), some (.int k)], [.int ((I 20) + 1)], (hY (upd (upd I 0 0) 20 ((I 20) + 1)) (uF (uF F 10 (upd (F 10) (I 20).toNatClampNeg p)) 11 (upd ((uF F 10 (upd (F 10) (I 20).toNatClampNeg p)) 11) (I 20).toNatClampNeg k)) sd))) rfl rfl
  · show pm_EV (pm_run mt (d + 2)) (some .int) oX8_say (6, [some (.ref 0), some (.int p), some (.int k)], [], (hY (upd I 0 0) F sd)) = _
    exact pm_EV_at 1 (d := (7, [some (.ref 0), some (.int p), some (.int k)], [.int (-1)], (hY (upd I 0 0) F sd))) rfl rfl
set_option maxRecDepth 100000 in
set_option maxHeartbeats 4000000 in
theorem en_X8_say_0 (d : Nat) (I : Nat → Int32) (F : Nat → Nat → Int32) (sd : Int64) (p : Int32) (k : Int32) : pm_run mt (d + 3) 159 [.ref 0, .int p, .int k] (hY I F sd) = pm_EV (pm_run mt (d + 2)) (some .int) oX8_say (0, [some (.ref 0), some (.int p), some (.int k)], [], (hY I F sd)) := rfl
set_option maxRecDepth 100000 in
set_option maxHeartbeats 4000000 in
theorem sp_X8_say_0 (d : Nat) (I : Nat → Int32) (F : Nat → Nat → Int32) (sd : Int64) (p : Int32) (k : Int32) (h1 : inr (I 20) 7 = true) : pm_run mt (d + 3) 159 [.ref 0, .int p, .int k] (hY I F sd) = some (some (.int (sdA p k (I 20))), (hY (upd (upd I 0 0) 20 (sdS p k (I 20))) (uF (uF F 10 (sy10 p k (I 20) (F 10))) 11 (sy11 p k (I 20) (F 11))) sd)) := by
  obtain ⟨n, hn, e⟩ := inr_nI (n := 7) (by decide) h1
  have h6 : (I 20 = 6) = ¬ (I 20 < 6) := by
    apply propext
    rw [e, show (6 : Int32) = nI 6 from rfl, nI_eq (by omega) (by decide), nI_ltI (by omega) (by decide)]
    omega
  rw [en_X8_say_0, tr_X8_say_0_0 _ _ _ _ _ _ (fun _ _ h => by rw [h6, e, show (6 : Int32) = nI 6 from rfl, nI_ltI (by omega) (by decide)] at h; rw [e]; exact pm_in_nI (by omega) (by decide)), lin01]
  simp only [bI_n, bI_0, h6]
  by_cases hg : sdG p k (I 20)
  · obtain ⟨g1, g2, g3⟩ := id hg
    have eS : sdS p k (I 20) = I 20 + 1 := if_pos hg
    have eA : sdA p k (I 20) = I 20 + 1 := by rw [sdA, g1, if_neg (by decide), if_neg (fun h => h g2), if_pos g3]
    have e10 : sy10 p k (I 20) (F 10) = upd (F 10) (I 20).toNatClampNeg p := if_pos hg
    have e11 : sy11 p k (I 20) (F 11) = upd (F 11) (I 20).toNatClampNeg k := if_pos hg
    rw [eS, eA, e10, e11, g1, (k01 k).mpr g2]
    simp only [if_true, Bool.not_true, Bool.true_eq_false, if_false, g3, not_true_eq_false]
    rw [uF_ne F _ (show (11 : Nat) ≠ 10 by decide)]
  · have eS : sdS p k (I 20) = I 20 := if_neg hg
    have e10 : sy10 p k (I 20) (F 10) = F 10 := if_neg hg
    have e11 : sy11 p k (I 20) (F 11) = F 11 := if_neg hg
    rw [eS, e10, e11, uF_self, uF_self, upd_c0 _ _ (by decide)]
    unfold sdA
    cases g1 : inr p 10
    · simp
    · cases g2 : inr k 2
      · have g2' : ¬ (k = 0 ∨ k = 1) := fun h => by rw [(k01 k).mpr h] at g2; exact absurd g2 (by decide)
        simp only [if_true, Bool.not_true, Bool.true_eq_false, if_false, g2', not_false_eq_true]
      · have g2' : k = 0 ∨ k = 1 := (k01 k).mp g2
        have g3 : ¬ I 20 < 6 := fun h => hg ⟨g1, g2', h⟩
        simp only [if_true, Bool.not_true, Bool.true_eq_false, if_false, g2', not_true_eq_false, g3, not_false_eq_true]
set_option maxRecDepth 100000 in
set_option maxHeartbeats 4000000 in
theorem tr_X8_unsay_0_0 (d : Nat) (I : Nat → Int32) (F : Nat → Nat → Int32) (sd : Int64) : pm_EV (pm_run mt (d + 0)) (some .int) oX8_unsay (0, [some (.ref 0), none], [], (hY I F sd)) = some (some (.int (I 20)), (hY (upd (upd I 0 0) 20 0) F sd)) := by
  exact pm_EV_at 10 (d := (10, [some (.ref 0), some (.int (I 20))], [.int (I 20)], (hY (upd (upd I 0 0) 20 0) F sd))) rfl rfl
set_option maxRecDepth 100000 in
set_option maxHeartbeats 4000000 in
theorem en_X8_unsay_0 (d : Nat) (I : Nat → Int32) (F : Nat → Nat → Int32) (sd : Int64) : pm_run mt (d + 1) 160 [.ref 0] (hY I F sd) = pm_EV (pm_run mt (d + 0)) (some .int) oX8_unsay (0, [some (.ref 0), none], [], (hY I F sd)) := rfl
set_option maxRecDepth 100000 in
set_option maxHeartbeats 4000000 in
theorem sp_X8_unsay_0 (d : Nat) (I : Nat → Int32) (F : Nat → Nat → Int32) (sd : Int64) : pm_run mt (d + 1) 160 [.ref 0] (hY I F sd) = some (some (.int (I 20)), (hY (upd (upd I 0 0) 20 0) F sd)) := by
  rw [en_X8_unsay_0, tr_X8_unsay_0_0]
set_option maxRecDepth 100000 in
set_option maxHeartbeats 4000000 in
theorem tr_X8_seed_0_0 (d : Nat) (I : Nat → Int32) (F : Nat → Nat → Int32) (sd : Int64) (v : Int64) : pm_EV (pm_run mt (d + 0)) (some .long) oX8_seed (0, [some (.ref 0), some (.long v), none, none, none], [], (hY I F sd)) = some (some (.long sd), (hY (upd I 0 0) F v)) := by
  exact pm_EV_at 10 (d := (10, [some (.ref 0), some (.long v), none, some (.long sd), none], [.long sd], (hY (upd I 0 0) F v))) rfl rfl
set_option maxRecDepth 100000 in
set_option maxHeartbeats 4000000 in
theorem en_X8_seed_0 (d : Nat) (I : Nat → Int32) (F : Nat → Nat → Int32) (sd : Int64) (v : Int64) : pm_run mt (d + 1) 164 [.ref 0, .long v] (hY I F sd) = pm_EV (pm_run mt (d + 0)) (some .long) oX8_seed (0, [some (.ref 0), some (.long v), none, none, none], [], (hY I F sd)) := rfl
set_option maxRecDepth 100000 in
set_option maxHeartbeats 4000000 in
theorem sp_X8_seed_0 (d : Nat) (I : Nat → Int32) (F : Nat → Nat → Int32) (sd : Int64) (v : Int64) : pm_run mt (d + 1) 164 [.ref 0, .long v] (hY I F sd) = some (some (.long sd), (hY (upd I 0 0) F v)) := by
  rw [en_X8_seed_0, tr_X8_seed_0_0]
