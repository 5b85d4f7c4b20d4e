/-! the reference: later, judged, years -/
def pqIt (K p : Nat → Int32) (n : Int32) : Nat → Nat → Int32
  | 0 => p
  | k + 1 => pqF K (pqIt K p n k) n
theorem pqL_at (p : Nat → Int32) : ∀ k, k ≤ 4 → ∀ j, pqL p k j = if (4 ≤ j ∧ j < 4 + k) ∨ (8 ≤ j ∧ j < 8 + k) then 0 else p j
  | 0, _, j => by rw [pqL, if_neg (by omega)]
  | k + 1, h, j => by
    rw [pqL]
    unfold upd
    rw [pqL_at p k (by omega) j]
    by_cases h1 : j = 8 + k
    · rw [if_pos h1, if_pos (by omega)]
    · rw [if_neg h1]
      by_cases h2 : j = 4 + k
      · rw [if_pos h2, if_pos (by omega)]
      · rw [if_neg h2]
        by_cases h3 : (4 ≤ j ∧ j < 4 + k) ∨ (8 ≤ j ∧ j < 8 + k)
        · rw [if_pos h3, if_pos (by omega)]
        · rw [if_neg h3, if_neg (by omega)]
theorem pqF_at (K p : Nat → Int32) (n : Int32) (j : Nat) : pqF K p n j = if j = 20 then p 20 + 1 else if j = 17 then 0 else if 4 ≤ j ∧ j < 12 then 0 else if j = 19 then pgw K p n else if j = 18 then (if 0 < pshort K p n then p 18 + pshort K p n else 0) else p j := by
  have e : ∀ i, pqL (pq1 K p n) 4 i = if 4 ≤ i ∧ i < 12 then 0 else if i = 19 then pgw K p n else if i = 18 then (if 0 < pshort K p n then p 18 + pshort K p n else 0) else p i := by
    intro i
    rw [pqL_at _ 4 (Nat.le_refl 4)]
    by_cases c : 4 ≤ i ∧ i < 12
    · rw [if_pos c, if_pos (by omega)]
    · rw [if_neg c, if_neg (by omega)]
      unfold pq1 upd
      rfl
  unfold pqF pq2
  by_cases h20 : j = 20
  · rw [if_pos h20, h20, upd_at, upd_ne _ _ (by decide), e]
    rfl
  · rw [if_neg h20, upd_ne _ _ h20]
    by_cases h17 : j = 17
    · rw [if_pos h17, h17, upd_at]
    · rw [if_neg h17, upd_ne _ _ h17, e]
theorem pqF_19 (K p : Nat → Int32) (n : Int32) : inr (pqF K p n 19) 10 = true := by
  rw [pqF_at, if_neg (by decide), if_neg (by decide), if_neg (by decide), if_pos rfl]
  unfold pgw
  by_cases c1 : pgw0 K p n < 0
  · rw [if_pos c1]; decide +kernel
  · rw [if_neg c1]
    by_cases c2 : 9 < pgw0 K p n
    · rw [if_pos c2]; decide +kernel
    · rw [if_neg c2, inr_sub (n := 10) (m := 10) (by omega) rfl]
      simp only [c1, show (10 : Int32) - 1 = 9 from rfl, c2, decide_false, Bool.not_false, Bool.and_self]
theorem pqIt_19 {K p : Nat → Int32} {n : Int32} (h : inr (p 19) 10 = true) : ∀ k, inr (pqIt K p n k 19) 10 = true
  | 0 => h
  | k + 1 => pqF_19 K _ n
def laYF (K p : Nat → Int32) (nf n w : Int32) : Nat → Int32 := pqIt K p nf n.toNatClampNeg
def laYb (n w : Int32) : Bool := lin n.toInt64 0 20 && lin w.toInt64 0 2
def laYA (K p q : Nat → Int32) (nf nt sk n w : Int32) : Int32 := if laYb n w = false then -2 else if w = 0 then pqIt K (va_cpy p q 0 0 21) nf n.toNatClampNeg 19 else if w = 1 then pqIt K (va_cpy p q 0 0 21) nf n.toNatClampNeg 18 else pknown (pqIt K (va_cpy p q 0 0 21) nf n.toNatClampNeg) sk nt
def laY6 (K p q : Nat → Int32) (nf n w : Int32) : Nat → Int32 := if laYb n w = false then q else pqIt K (va_cpy p q 0 0 21) nf n.toNatClampNeg
theorem cpy_in {f g : Nat → Int32} {n j : Nat} (h : j < n) : va_cpy f g 0 0 n j = f j := by
  unfold va_cpy
  rw [if_pos ⟨Nat.zero_le _, by omega⟩, Nat.sub_zero, Nat.zero_add]
set_option maxRecDepth 100000 in
set_option maxHeartbeats 4000000 in
theorem tr_X8_later_0_0 (d : Nat) (I : Nat → Int32) (F : Nat → Nat → Int32) (sd : Int64) (n : Int32) (w : Int32) : pm_EV (pm_run mt (d + 4)) (some .int) oX8_later (0, [some (.ref 0), some (.int n), some (.int w), none], [], (hY I F sd)) = (if (bI (lin ((n : Int32).toInt64) 0 20)) = 0 then some (some (.int (-2)), (hY (upd I 0 0) F sd)) else (if (bI (lin ((w : Int32).toInt64) 0 2)) = 0 then some (some (.int (-2)), (hY (upd I 0 0) F sd)) else pm_EV (pm_run mt (d + 4)) (some .int) oX8_later (21, [some (.ref 0), some (.int n), some (.int w), some (.int 0)], [], (hY (upd I 0 0) (uF F 6 (va_cpy ((F 5)) ((F 6)) 0 0 21)) sd)))) := by
  refine Eq.trans (b := pm_EV (pm_run mt (d + 4)) (some .int) oX8_later (8, [some (.ref 0), some (.int n), some (.int w), none], [.int (bI (lin ((n : Int32).toInt64) 0 20))], (hY (upd I 0 0) F sd))) (pm_EV_cl 7 (call := pm_run mt (d + 4)) (d := (7, [some (.ref 0), some (.int n), some (.int w), none], [.long 20, .long 0, .long ((n : Int32).toInt64)], (hY (upd I 0 0) F sd))) (a := 106) (as := [.long ((n : Int32).toInt64), .long 0, .long 20]) (hp := (hY (upd I 0 0) F sd)) (hp2 := (hY (upd I 0 0) F sd)) (i2 := 8) (ls := [some (.ref 0), some (.int n), some (.int w), none]) (rest := []) (r := some (.int (bI (lin ((n : Int32).toInt64) 0 20)))) rfl rfl (sp_X8_in (d + 3) (upd I 0 0) F sd ((n : Int32).toInt64) 0 20 )) ?_
  refine Eq.trans (pm_EV_at 0 (d := (8, [some (.ref 0), some (.int n), some (.int w), none], [.int (bI (lin ((n : Int32).toInt64) 0 20))], (hY (upd I 0 0) F sd))) (x := if (bI (lin ((n : Int32).toInt64) 0 20)) = 0 then .inl (15, [some (.ref 0), some (.int n), some (.int w), none], [], (hY (upd I 0 0) F sd)) else .inl (9, [some (.ref 0), some (.int n), some (.int w), none], [], (hY (upd I 0 0) F sd))) rfl rfl) ?_
  refine pm_rc (fun p1 => ?_) (fun p1 => ?_)
  · show pm_EV (pm_run mt (d + 4)) (some .int) oX8_later (15, [some (.ref 0), some (.int n), some (.int w), none], [], (hY (upd I 0 0) F sd)) = _
    exact pm_EV_at 1 (d := (16, [some (.ref 0), some (.int n), some (.int w), none], [.int (-2)], (hY (upd I 0 0) F sd))) rfl rfl
  · show pm_EV (pm_run mt (d + 4)) (some .int) oX8_later (9, [some (.ref 0), some (.int n), some (.int w), none], [], (hY (upd I 0 0) F sd)) = _
    refine Eq.trans (b := pm_EV (pm_run mt (d + 4)) (some .int) oX8_later (14, [some (.ref 0), some (.int n), some (.int w), none], [.int (bI (lin ((w : Int32).toInt64) 0 2))], (hY (upd I 0 0) F sd))) (pm_EV_cl 4 (call := pm_run mt (d + 4)) (d := (13, [some (.ref 0), some (.int n), some (.int w), none], [.long 2, .long 0, .long ((w : Int32).toInt64)], (hY (upd I 0 0) F sd))) (a := 106) (as := [.long ((w : Int32).toInt64), .long 0, .long 2]) (hp := (hY (upd I 0 0) F sd)) (hp2 := (hY (upd I 0 0) F sd)) (i2 := 14) (ls := [some (.ref 0), some (.int n), some (.int w), none]) (rest := []) (r := some (.int (bI (lin ((w : Int32).toInt64) 0 2)))) rfl rfl (sp_X8_in (d + 3) (upd I 0 0) F sd ((w : Int32).toInt64) 0 2 )) ?_
    refine Eq.trans (pm_EV_at 0 (d := (14, [some (.ref 0), some (.int n), some (.int w), none], [.int (bI (lin ((w : Int32).toInt64) 0 2))], (hY (upd I 0 0) F sd))) (x := if (bI (lin ((w : Int32).toInt64) 0 2)) = 0 then .inl (15, [some (.ref 0), some (.int n), some (.int w), none], [], (hY (upd I 0 0) F sd)) else .inl (17, [some (.ref 0), some (.int n), some (.int w), none], [], (hY (upd I 0 0) F sd))) rfl rfl) ?_
    refine pm_rc (fun p2 => ?_) (fun p2 => ?_)
    · show pm_EV (pm_run mt (d + 4)) (some .int) oX8_later (15, [some (.ref 0), some (.int n), some (.int w), none], [], (hY (upd I 0 0) F sd)) = _
      exact pm_EV_at 1 (d := (16, [some (.ref 0), some (.int n), some (.int w), none], [.int (-2)], (hY (upd I 0 0) F sd))) rfl rfl
    · show pm_EV (pm_run mt (d + 4)) (some .int) oX8_later (17, [some (.ref 0), some (.int n), some (.int w), none], [], (hY (upd I 0 0) F sd)) = _
      refine Eq.trans (b := pm_EV (pm_run mt (d + 4)) (some .int) oX8_later (19, [some (.ref 0), some (.int n), some (.int w), none], [], (hY (upd I 0 0) (uF F 6 (va_cpy ((F 5)) ((F 6)) 0 0 21)) sd))) (pm_EV_cl 1 (call := pm_run mt (d + 4)) (d := (18, [some (.ref 0), some (.int n), some (.int w), none], [.ref 0], (hY (upd I 0 0) F sd))) (a := 146) (as := [.ref 0]) (hp := (hY (upd I 0 0) F sd)) (hp2 := (hY (upd I 0 0) (uF F 6 (va_cpy ((F 5)) ((F 6)) 0 0 21)) sd)) (i2 := 19) (ls := [some (.ref 0), some (.int n), some (.int w), none]) (rest := []) (r := none) rfl rfl (sp_X8_begin_0 (d + 3) (upd I 0 0) F sd  )) ?_
      exact pm_EV_go 2 (d := (21, [some (.ref 0), some (.int n), some (.int w), some (.int 0)], [], (hY (upd I 0 0) (uF F 6 (va_cpy ((F 5)) ((F 6)) 0 0 21)) sd))) rfl
set_option maxRecDepth 100000 in
set_option maxHeartbeats 4000000 in
theorem tr_X8_later_0_21 (d : Nat) (I : Nat → Int32) (F : Nat → Nat → Int32) (sd : Int64) (n : Int32) (w : Int32) (x3 : Int32) (g1 : (x3 < n) → inr ((I 5)) 5 = true) (g2 : (¬ (x3 < n)) → (¬ (w = 0)) → (¬ (w = 1)) → inr ((I 4)) 10 = true) (g3 : (¬ (x3 < n)) → (¬ (w = 0)) → (¬ (w = 1)) → inr ((F 6) 19) 10 = true) (g4 : (¬ (x3 < n)) → (¬ (w = 0)) → (¬ (w = 1)) → inr ((I 7)) 6 = true) : pm_EV (pm_run mt (d + 4)) (some .int) oX8_later (21, [some (.ref 0), some (.int n), some (.int w), some (.int x3)], [], (hY I F sd)) = (if x3 < n then pm_EV (pm_run mt (d + 4)) (some .int) oX8_later (21, [some (.ref 0), some (.int n), some (.int w), some (.int (x3 + 1))], [], (hY I (uF F 6 (pqF ((F 2)) ((F 6)) ((I 5)))) sd)) else (if w = 0 then some (some (.int ((F 6) 19)), (hY I F sd)) else (if w = 1 then some (some (.int ((F 6) 18)), (hY I F sd)) else some (some (.int (pknown ((F 6)) ((I 4)) ((I 7)))), (hY I F sd))))) := by
  refine Eq.trans (pm_EV_at 2 (d := (23, [some (.ref 0), some (.int n), some (.int w), some (.int x3)], [.int n, .int x3], (hY I F sd))) (x := if x3 < n then .inl (24, [some (.ref 0), some (.int n), some (.int w), some (.int x3)], [], (hY I F sd)) else .inl (31, [some (.ref 0), some (.int n), some (.int w), some (.int x3)], [], (hY I F sd))) rfl rfl) ?_
  refine pm_rc (fun p1 => ?_) (fun p1 => ?_)
  · show pm_EV (pm_run mt (d + 4)) (some .int) oX8_later (24, [some (.ref 0), some (.int n), some (.int w), some (.int x3)], [], (hY I F sd)) = _
    refine Eq.trans (b := pm_EV (pm_run mt (d + 4)) (some .int) oX8_later (28, [some (.ref 0), some (.int n), some (.int w), some (.int x3)], [.int (pqF ((F 2)) ((F 6)) ((I 5)) 19)], (hY I (uF F 6 (pqF ((F 2)) ((F 6)) ((I 5)))) sd))) (pm_EV_cl 3 (call := pm_run mt (d + 4)) (d := (27, [some (.ref 0), some (.int n), some (.int w), some (.int x3)], [.ref 6, .ref 0], (hY I F sd))) (a := 130) (as := [.ref 0, .ref 6]) (hp := (hY I F sd)) (hp2 := (hY I (uF F 6 (pqF ((F 2)) ((F 6)) ((I 5)))) sd)) (i2 := 28) (ls := [some (.ref 0), some (.int n), some (.int w), some (.int x3)]) (rest := []) (r := some (.int (pqF ((F 2)) ((F 6)) ((I 5)) 19))) rfl rfl (sp_X8_goQuarter_0_6 (d + 0) I F sd  (g1 p1))) ?_
    exact pm_EV_go 3 (d := (21, [some (.ref 0), some (.int n), some (.int w), some (.int (x3 + 1))], [], (hY I (uF F 6 (pqF ((F 2)) ((F 6)) ((I 5)))) sd))) rfl
  · show pm_EV (pm_run mt (d + 4)) (some .int) oX8_later (31, [some (.ref 0), some (.int n), some (.int w), some (.int x3)], [], (hY I F sd)) = _
    refine Eq.trans (pm_EV_at 1 (d := (32, [some (.ref 0), some (.int n), some (.int w), some (.int x3)], [.int w], (hY I F sd))) (x := if w = 0 then .inl (33, [some (.ref 0), some (.int n), some (.int w), some (.int x3)], [], (hY I F sd)) else .inl (38, [some (.ref 0), some (.int n), some (.int w), some (.int x3)], [], (hY I F sd))) rfl rfl) ?_
    refine pm_rc (fun p2 => ?_) (fun p2 => ?_)
    · show pm_EV (pm_run mt (d + 4)) (some .int) oX8_later (33, [some (.ref 0), some (.int n), some (.int w), some (.int x3)], [], (hY I F sd)) = _
      exact pm_EV_at 5 (d := (50, [some (.ref 0), some (.int n), some (.int w), some (.int x3)], [.int ((F 6) 19)], (hY I F sd))) rfl rfl
    · show pm_EV (pm_run mt (d + 4)) (some .int) oX8_later (38, [some (.ref 0), some (.int n), some (.int w), some (.int x3)], [], (hY I F sd)) = _
      refine Eq.trans (pm_EV_at 2 (d := (40, [some (.ref 0), some (.int n), some (.int w), some (.int x3)], [.int 1, .int w], (hY I F sd))) (x := if w = 1 then .inl (41, [some (.ref 0), some (.int n), some (.int w), some (.int x3)], [], (hY I F sd)) else .inl (46, [some (.ref 0), some (.int n), some (.int w), some (.int x3)], [], (hY I F sd))) rfl rfl) ?_
      refine pm_rc (fun p3 => ?_) (fun p3 => ?_)
      · show pm_EV (pm_run mt (d + 4)) (some .int) oX8_later (41, [some (.ref 0), some (.int n), some (.int w), some (.int x3)], [], (hY I F sd)) = _
        exact pm_EV_at 5 (d := (50, [some (.ref 0), some (.int n), some (.int w), some (.int x3)], [.int ((F 6) 18)], (hY I F sd))) rfl rfl
      · show pm_EV (pm_run mt (d + 4)) (some .int) oX8_later (46, [some (.ref 0), some (.int n), some (.int w), some (.int x3)], [], (hY I F sd)) = _
        refine Eq.trans (b := pm_EV (pm_run mt (d + 4)) (some .int) oX8_later (50, [some (.ref 0), some (.int n), some (.int w), some (.int x3)], [.int (pknown ((F 6)) ((I 4)) ((I 7)))], (hY I F sd))) (pm_EV_cl 3 (call := pm_run mt (d + 4)) (d := (49, [some (.ref 0), some (.int n), some (.int w), some (.int x3)], [.ref 6, .ref 0], (hY I F sd))) (a := 129) (as := [.ref 0, .ref 6]) (hp := (hY I F sd)) (hp2 := (hY I F sd)) (i2 := 50) (ls := [some (.ref 0), some (.int n), some (.int w), some (.int x3)]) (rest := []) (r := some (.int (pknown ((F 6)) ((I 4)) ((I 7))))) rfl rfl (sp_X8_known_0_6 (d + 0) I F sd  (g2 p1 p2 p3) (g3 p1 p2 p3) (g4 p1 p2 p3))) ?_
        exact pm_EV_at 0 (d := (50, [some (.ref 0), some (.int n), some (.int w), some (.int x3)], [.int (pknown ((F 6)) ((I 4)) ((I 7)))], (hY I F sd))) rfl rfl
set_option maxRecDepth 100000 in
set_option maxHeartbeats 4000000 in
theorem en_X8_later_0 (d : Nat) (I : Nat → Int32) (F : Nat → Nat → Int32) (sd : Int64) (n : Int32) (w : Int32) : pm_run mt (d + 5) 147 [.ref 0, .int n, .int w] (hY I F sd) = pm_EV (pm_run mt (d + 4)) (some .int) oX8_later (0, [some (.ref 0), some (.int n), some (.int w), none], [], (hY I F sd)) := rfl
set_option maxRecDepth 100000 in
set_option maxHeartbeats 4000000 in
theorem sp_X8_later_0 (d : Nat) (I : Nat → Int32) (F : Nat → Nat → Int32) (sd : Int64) (n : Int32) (w : Int32) (h1 : inr (I 5) 5 = true) (h2 : inr (I 4) 10 = true) (h3 : inr (F 5 19) 10 = true) (h4 : inr (I 7) 6 = true) : pm_run mt (d + 5) 147 [.ref 0, .int n, .int w] (hY I F sd) = some (some (.int (laYA (F 2) (F 5) (F 6) (I 5) (I 7) (I 4) n w)), (hY (upd I 0 0) (uF F 6 (laY6 (F 2) (F 5) (F 6) (I 5) n w)) sd)) := by
  rw [en_X8_later_0, tr_X8_later_0_0]
  simp only [bI_0]
  have key : ∀ (m k : Nat) (q : Nat → Int32), inr (q 19) 10 = true → k + m = n.toNatClampNeg → pm_EV (pm_run mt (d + 4)) (some .int) oX8_later (21, [some (.ref 0), some (.int n), some (.int w), some (.int (nI k))], [], hY (upd I 0 0) (uF F 6 (pqIt (F 2) q (I 5) k)) sd) = some (some (.int (if w = 0 then pqIt (F 2) q (I 5) n.toNatClampNeg 19 else if w = 1 then pqIt (F 2) q (I 5) n.toNatClampNeg 18 else pknown (pqIt (F 2) q (I 5) n.toNatClampNeg) (I 4) (I 7))), hY (upd I 0 0) (uF F 6 (pqIt (F 2) q (I 5) n.toNatClampNeg)) sd) := by
    intro m
    induction m with
    | zero =>
      intro k q hq hk
      have hb := cl_bd n
      rw [tr_X8_later_0_21 d (upd I 0 0) (uF F 6 (pqIt (F 2) q (I 5) k)) sd n w (nI k) (fun _ => h1) (fun _ _ _ => h2) (fun _ _ _ => by rw [uF_at]; exact pqIt_19 hq k) (fun _ _ _ => h4), if_neg (fun h => by rw [cl_lt (by omega)] at h; omega), ← hk]
      simp only [pm_pi, uF_at]
      rfl
    | succ m ih =>
      intro k q hq hk
      have hb := cl_bd n
      rw [tr_X8_later_0_21 d (upd I 0 0) (uF F 6 (pqIt (F 2) q (I 5) k)) sd n w (nI k) (fun _ => h1) (fun _ _ _ => h2) (fun _ _ _ => by rw [uF_at]; exact pqIt_19 hq k) (fun _ _ _ => h4), if_pos ((cl_lt (by omega)).mpr (by omega)), nI_p1, uF_uF, uF_at, uF_ne _ _ (by decide)]
      exact ih (k + 1) q hq (by omega)
  have h0 := key _ 0 (va_cpy (F 5) (F 6) 0 0 21) (by rw [cpy_in (by decide)]; exact h3) (Nat.zero_add _)
  unfold laYA laY6 laYb
  cases c1 : lin n.toInt64 0 20
  · simp only [Bool.false_and, if_true, uF_self]
  · cases c2 : lin w.toInt64 0 2
    · simp only [Bool.true_and, Bool.true_eq_false, if_true, if_false, uF_self]
    · simp only [Bool.true_and, Bool.true_eq_false, if_false]
      exact h0
def jdYL (K : Nat → Int32) (nf nt sk : Int32) (R N : Nat) : Nat → Nat → (Nat → Int32) → Int32 × (Nat → Int32)
  | 0, _, p => (-9, p)
  | m + 1, k, p => if dsA K p nf nt sk (nI (R / 1000 ^ (N - 1 - k) % 1000)) = false then (nI k, dsF K p nf nt (nI (R / 1000 ^ (N - 1 - k) % 1000))) else jdYL K nf nt sk R N m (k + 1) (dsF K p nf nt (nI (R / 1000 ^ (N - 1 - k) % 1000)))
theorem ylS_N (b : Nat) : ∀ k, ylS (lN b) k = lN (b ^ k)
  | 0 => rfl
  | k + 1 => by rw [ylS, ylS_N b k, lN_mul, Nat.pow_succ]
theorem dsF_19 {K p : Nat → Int32} {nf nt g : Int32} (h : inr (p 19) 10 = true) (hn : inr nf 5 = true) (ht : inr nt 6 = true) : inr (dsF K p nf nt g 19) 10 = true := by
  unfold dsF
  by_cases c0 : g = 0
  · rw [if_pos c0]; exact pqF_19 K p nf
  · rw [if_neg c0]
    by_cases c1 : g / 100 = 1
    · rw [if_pos c1]
      by_cases c : inr (dg2 g) nf = true ∧ 0 < dg3 g
      · rw [if_pos c]
        have h4 := inr_wk (a := 4) hn (by decide) c.1
        obtain ⟨k, hk, e⟩ := inr_nI (by decide) h4
        unfold ppF
        by_cases c9 : 999 < p (dg2 g).toNatClampNeg + dg3 g
        · rw [if_pos c9]; exact h
        · rw [if_neg c9, e, show (8 : Int32) = nI 8 from rfl, cl_add _ _ (by omega), nI_clamp (by omega), upd_ne _ _ (by omega), upd_ne _ _ (by omega)]
          exact h
      · rw [if_neg c]; exact h
    · rw [if_neg c1]
      by_cases c2 : g / 100 = 2
      · rw [if_pos c2]
        by_cases c : inr (dg2 g) nf = true ∧ 0 < dg3 g
        · rw [if_pos c]
          have h4 := inr_wk (a := 4) hn (by decide) c.1
          obtain ⟨k, hk, e⟩ := inr_nI (by decide) h4
          unfold plF
          by_cases c9 : p (dg2 g).toNatClampNeg < pgr K (dg2 g) (dg3 g)
          · rw [if_pos c9]; exact h
          · rw [if_neg c9, e, show (4 : Int32) = nI 4 from rfl, cl_add _ _ (by omega), nI_clamp (by omega), upd_ne _ _ (by omega), upd_ne _ _ (by omega)]
            exact h
        · rw [if_neg c]; exact h
      · rw [if_neg c2]
        by_cases c3 : g / 100 = 3
        · rw [if_pos c3]
          unfold mvF
          by_cases c : inr (dg2 g) nt = true ∧ ¬ p (12 + dg2 g).toNatClampNeg = dg3 g
          · rw [if_pos c]
            have h4 := inr_wk (a := 5) ht (by decide) c.1
            obtain ⟨k, hk, e⟩ := inr_nI (by decide) h4
            rw [e, show (12 : Int32) = nI 12 from rfl, cl_add _ _ (by omega), upd_ne _ _ (by omega)]
            exact h
          · rw [if_neg c]; exact h
        · rw [if_neg c3]
          by_cases c4 : g / 100 = 4
          · rw [if_pos c4]
            by_cases c : dg2 g = 0
            · rw [if_pos c]
              unfold spF
              rw [upd_ne _ _ (by decide)]
              exact h
            · rw [if_neg c]; exact h
          · rw [if_neg c4]; exact h
def jdYb (n : Int32) (row : Int64) : Bool := lin n.toInt64 1 4 && lin row 0 (ylp 1000 n - 1)
def jdYA (K p q : Nat → Int32) (nf nt sk n : Int32) (row : Int64) : Int32 × (Nat → Int32) := if jdYb n row = false then (-2, q) else jdYL K nf nt sk row.toInt.toNat n.toNatClampNeg n.toNatClampNeg 0 (va_cpy p q 0 0 21)
theorem lin14 (n : Int32) : lin n.toInt64 1 4 = (!decide (n < 1) && !decide (4 < n)) := by
  rw [show (1 : Int64) = (1 : Int32).toInt64 from rfl, show (4 : Int64) = (4 : Int32).toInt64 from rfl, lin_lit]
theorem n14 {n : Int32} (h : lin n.toInt64 1 4 = true) : ∃ N : Nat, 1 ≤ N ∧ N ≤ 4 ∧ n = nI N := by
  rw [lin14] at h
  simp only [Bool.and_eq_true, Bool.not_eq_true', decide_eq_false_iff_not] at h
  have h0 : ¬ n < 0 := by
    have := h.1
    rw [Int32.lt_iff_toInt_lt] at this ⊢
    rw [Int32.toInt_zero]
    have e : (1 : Int32).toInt = 1 := rfl
    omega
  obtain ⟨N, hN, rfl⟩ := nI_of h0
  have h1 := h.1
  have h2 := h.2
  rw [show (1 : Int32) = nI 1 from rfl, nI_ltI hN (by decide)] at h1
  rw [show (4 : Int32) = nI 4 from rfl, nI_ltI (by decide) hN] at h2
  exact ⟨N, by omega, by omega, rfl⟩
theorem p1000 {k : Nat} (h : k ≤ 4) : 1000 ^ k ≤ 1000000000000 := by
  rcases (show k = 0 ∨ k = 1 ∨ k = 2 ∨ k = 3 ∨ k = 4 by omega) with rfl | rfl | rfl | rfl | rfl <;> decide
theorem lin_row {row : Int64} {n : Nat} (hn : n ≤ 4) : lin row 0 (lN (1000 ^ n) - 1) = true ↔ ∃ R : Nat, R < 1000 ^ n ∧ row = lN R := by
  have hp := p1000 hn
  have h0 : 0 < 1000 ^ n := Nat.pow_pos (by decide)
  have e1 : lN (1000 ^ n) - 1 = lN (1000 ^ n - 1) := lN_sub (b := 1) h0
  unfold lin
  rw [e1]
  simp only [Bool.and_eq_true, Bool.not_eq_true', decide_eq_false_iff_not]
  constructor
  · intro ⟨h1, h2⟩
    obtain ⟨R, hR, rfl⟩ := pk_lOf h1
    rw [pk_lLT (by omega) hR] at h2
    exact ⟨R, by omega, rfl⟩
  · intro ⟨R, hR, e⟩
    subst e
    refine ⟨?_, ?_⟩
    · rw [show (0 : Int64) = lN 0 from rfl, pk_lLT (by omega) (by decide)]; omega
    · rw [pk_lLT (by omega) (by omega)]; omega
set_option maxRecDepth 100000 in
set_option maxHeartbeats 4000000 in
theorem tr_X8_judge_0_0 (d : Nat) (I : Nat → Int32) (F : Nat → Nat → Int32) (sd : Int64) (n : Int32) (row : Int64) : pm_EV (pm_run mt (d + 5)) (some .int) oX8_judge (0, [some (.ref 0), some (.int n), some (.long row), none, none], [], (hY I F sd)) = (if (bI (lin ((n : Int32).toInt64) 1 4)) = 0 then some (some (.int (-2)), (hY (upd I 0 0) F sd)) else (if (bI (lin row 0 ((ylp 1000 n) - 1))) = 0 then some (some (.int (-2)), (hY (upd I 0 0) F sd)) else pm_EV (pm_run mt (d + 5)) (some .int) oX8_judge (24, [some (.ref 0), some (.int n), some (.long row), none, some (.int 0)], [], (hY (upd I 0 0) (uF F 6 (va_cpy ((F 5)) ((F 6)) 0 0 21)) sd)))) := by
  refine Eq.trans (b := pm_EV (pm_run mt (d + 5)) (some .int) oX8_judge (8, [some (.ref 0), some (.int n), some (.long row), none, none], [.int (bI (lin ((n : Int32).toInt64) 1 4))], (hY (upd I 0 0) F sd))) (pm_EV_cl 7 (call := pm_run mt (d + 5)) (d := (7, [some (.ref 0), some (.int n), some (.long row), none, none], [.long 4, .long 1, .long ((n : Int32).toInt64)], (hY (upd I 0 0) F sd))) (a := 106) (as := [.long ((n : Int32).toInt64), .long 1, .long 4]) (hp := (hY (upd I 0 0) F sd)) (hp2 := (hY (upd I 0 0) F sd)) (i2 := 8) (ls := [some (.ref 0), some (.int n), some (.long row), none, none]) (rest := []) (r := some (.int (bI (lin ((n : Int32).toInt64) 1 4)))) rfl rfl (sp_X8_in (d + 4) (upd I 0 0) F sd ((n : Int32).toInt64) 1 4 )) ?_
  refine Eq.trans (pm_EV_at 0 (d := (8, [some (.ref 0), some (.int n), some (.long row), none, none], [.int (bI (lin ((n : Int32).toInt64) 1 4))], (hY (upd I 0 0) F sd))) (x := if (bI (lin ((n : Int32).toInt64) 1 4)) = 0 then .inl (18, [some (.ref 0), some (.int n), some (.long row), none, none], [], (hY (upd I 0 0) F sd)) else .inl (9, [some (.ref 0), some (.int n), some (.long row), none, none], [], (hY (upd I 0 0) F sd))) rfl rfl) ?_
  refine pm_rc (fun p1 => ?_) (fun p1 => ?_)
  · show pm_EV (pm_run mt (d + 5)) (some .int) oX8_judge (18, [some (.ref 0), some (.int n), some (.long row), none, none], [], (hY (upd I 0 0) F sd)) = _
    exact pm_EV_at 1 (d := (19, [some (.ref 0), some (.int n), some (.long row), none, none], [.int (-2)], (hY (upd I 0 0) F sd))) rfl rfl
  · show pm_EV (pm_run mt (d + 5)) (some .int) oX8_judge (9, [some (.ref 0), some (.int n), some (.long row), none, none], [], (hY (upd I 0 0) F sd)) = _
    refine Eq.trans (b := pm_EV (pm_run mt (d + 5)) (some .int) oX8_judge (14, [some (.ref 0), some (.int n), some (.long row), none, none], [.long (ylp 1000 n), .long 0, .long row], (hY (upd I 0 0) F sd))) (pm_EV_cl 4 (call := pm_run mt (d + 5)) (d := (13, [some (.ref 0), some (.int n), some (.long row), none, none], [.int n, .long 1000, .long 0, .long row], (hY (upd I 0 0) F sd))) (a := 150) (as := [.long 1000, .int n]) (hp := (hY (upd I 0 0) F sd)) (hp2 := (hY (upd I 0 0) F sd)) (i2 := 14) (ls := [some (.ref 0), some (.int n), some (.long row), none, none]) (rest := [.long 0, .long row]) (r := some (.long (ylp 1000 n))) rfl rfl (sp_X8_longPower (d + 4) (upd I 0 0) F sd 1000 n )) ?_
    refine Eq.trans (b := pm_EV (pm_run mt (d + 5)) (some .int) oX8_judge (17, [some (.ref 0), some (.int n), some (.long row), none, none], [.int (bI (lin row 0 ((ylp 1000 n) - 1)))], (hY (upd I 0 0) F sd))) (pm_EV_cl 2 (call := pm_run mt (d + 5)) (d := (16, [some (.ref 0), some (.int n), some (.long row), none, none], [.long ((ylp 1000 n) - 1), .long 0, .long row], (hY (upd I 0 0) F sd))) (a := 106) (as := [.long row, .long 0, .long ((ylp 1000 n) - 1)]) (hp := (hY (upd I 0 0) F sd)) (hp2 := (hY (upd I 0 0) F sd)) (i2 := 17) (ls := [some (.ref 0), some (.int n), some (.long row), none, none]) (rest := []) (r := some (.int (bI (lin row 0 ((ylp 1000 n) - 1))))) rfl rfl (sp_X8_in (d + 4) (upd I 0 0) F sd row 0 ((ylp 1000 n) - 1) )) ?_
    refine Eq.trans (pm_EV_at 0 (d := (17, [some (.ref 0), some (.int n), some (.long row), none, none], [.int (bI (lin row 0 ((ylp 1000 n) - 1)))], (hY (upd I 0 0) F sd))) (x := if (bI (lin row 0 ((ylp 1000 n) - 1))) = 0 then .inl (18, [some (.ref 0), some (.int n), some (.long row), none, none], [], (hY (upd I 0 0) F sd)) else .inl (20, [some (.ref 0), some (.int n), some (.long row), none, none], [], (hY (upd I 0 0) F sd))) rfl rfl) ?_
    refine pm_rc (fun p2 => ?_) (fun p2 => ?_)
    · show pm_EV (pm_run mt (d + 5)) (some .int) oX8_judge (18, [some (.ref 0), some (.int n), some (.long row), none, none], [], (hY (upd I 0 0) F sd)) = _
      exact pm_EV_at 1 (d := (19, [some (.ref 0), some (.int n), some (.long row), none, none], [.int (-2)], (hY (upd I 0 0) F sd))) rfl rfl
    · show pm_EV (pm_run mt (d + 5)) (some .int) oX8_judge (20, [some (.ref 0), some (.int n), some (.long row), none, none], [], (hY (upd I 0 0) F sd)) = _
      refine Eq.trans (b := pm_EV (pm_run mt (d + 5)) (some .int) oX8_judge (22, [some (.ref 0), some (.int n), some (.long row), none, none], [], (hY (upd I 0 0) (uF F 6 (va_cpy ((F 5)) ((F 6)) 0 0 21)) sd))) (pm_EV_cl 1 (call := pm_run mt (d + 5)) (d := (21, [some (.ref 0), some (.int n), some (.long row), none, none], [.ref 0], (hY (upd I 0 0) F sd))) (a := 146) (as := [.ref 0]) (hp := (hY (upd I 0 0) F sd)) (hp2 := (hY (upd I 0 0) (uF F 6 (va_cpy ((F 5)) ((F 6)) 0 0 21)) sd)) (i2 := 22) (ls := [some (.ref 0), some (.int n), some (.long row), none, none]) (rest := []) (r := none) rfl rfl (sp_X8_begin_0 (d + 4) (upd I 0 0) F sd  )) ?_
      exact pm_EV_go 2 (d := (24, [some (.ref 0), some (.int n), some (.long row), none, some (.int 0)], [], (hY (upd I 0 0) (uF F 6 (va_cpy ((F 5)) ((F 6)) 0 0 21)) sd))) rfl
set_option maxRecDepth 100000 in
set_option maxHeartbeats 4000000 in
theorem tr_X8_judge_0_24 (d : Nat) (I : Nat → Int32) (F : Nat → Nat → Int32) (sd : Int64) (n : Int32) (row : Int64) (x4 : Int32) (g1 : (x4 < n) → ¬ (ylp 1000 ((n - 1) - x4)) = 0) (g2 : (x4 < n) → inr ((I 5)) 5 = true) (g3 : (x4 < n) → inr ((I 7)) 6 = true) (g4 : (x4 < n) → inr ((I 4)) 10 = true) (g5 : (x4 < n) → inr ((F 6) 19) 10 = true) : pm_EV (pm_run mt (d + 5)) (some .int) oX8_judge (24, [some (.ref 0), some (.int n), some (.long row), none, some (.int x4)], [], (hY I F sd)) = (if x4 < n then (if (bI (dsA ((F 2)) ((F 6)) ((I 5)) ((I 7)) ((I 4)) (((row / (ylp 1000 ((n - 1) - x4))) - (row / (ylp 1000 ((n - 1) - x4))) / 1000 * 1000 : Int64).toInt32))) = 0 then some (some (.int x4), (hY I (uF F 6 (dsF ((F 2)) ((F 6)) ((I 5)) ((I 7)) (((row / (ylp 1000 ((n - 1) - x4))) - (row / (ylp 1000 ((n - 1) - x4))) / 1000 * 1000 : Int64).toInt32))) sd)) else pm_EV (pm_run mt (d + 5)) (some .int) oX8_judge (24, [some (.ref 0), some (.int n), some (.long row), none, some (.int (x4 + 1))], [], (hY I (uF F 6 (dsF ((F 2)) ((F 6)) ((I 5)) ((I 7)) (((row / (ylp 1000 ((n - 1) - x4))) - (row / (ylp 1000 ((n - 1) - x4))) / 1000 * 1000 : Int64).toInt32))) sd))) else some (some (.int (-9)), (hY I F sd))) := by
  refine Eq.trans (pm_EV_at 2 (d := (26, [some (.ref 0), some (.int n), some (.long row), none, some (.int x4)], [.int n, .int x4], (hY I F sd))) (x := if x4 < n then .inl (27, [some (.ref 0), some (.int n), some (.long row), none, some (.int x4)], [], (hY I F sd)) else .inl (46, [some (.ref 0), some (.int n), some (.long row), none, some (.int x4)], [], (hY I F sd))) rfl rfl) ?_
  refine pm_rc (fun p1 => ?_) (fun p1 => ?_)
  · show pm_EV (pm_run mt (d + 5)) (some .int) oX8_judge (27, [some (.ref 0), some (.int n), some (.long row), none, some (.int x4)], [], (hY I F sd)) = _
    refine Eq.trans (b := pm_EV (pm_run mt (d + 5)) (some .int) oX8_judge (36, [some (.ref 0), some (.int n), some (.long row), none, some (.int x4)], [.long (ylp 1000 ((n - 1) - x4)), .long row, .ref 0], (hY I F sd))) (pm_EV_cl 8 (call := pm_run mt (d + 5)) (d := (35, [some (.ref 0), some (.int n), some (.long row), none, some (.int x4)], [.int ((n - 1) - x4), .long 1000, .long row, .ref 0], (hY I F sd))) (a := 150) (as := [.long 1000, .int ((n - 1) - x4)]) (hp := (hY I F sd)) (hp2 := (hY I F sd)) (i2 := 36) (ls := [some (.ref 0), some (.int n), some (.long row), none, some (.int x4)]) (rest := [.long row, .ref 0]) (r := some (.long (ylp 1000 ((n - 1) - x4)))) rfl rfl (sp_X8_longPower (d + 4) I F sd 1000 ((n - 1) - x4) )) ?_
    refine Eq.trans (b := pm_EV (pm_run mt (d + 5)) (some .int) oX8_judge (37, [some (.ref 0), some (.int n), some (.long row), none, some (.int x4)], [.long (row / (ylp 1000 ((n - 1) - x4))), .ref 0], (hY I F sd))) (pm_EV_nz 0 (d := (36, [some (.ref 0), some (.int n), some (.long row), none, some (.int x4)], [.long (ylp 1000 ((n - 1) - x4)), .long row, .ref 0], (hY I F sd))) (c1 := (37, [some (.ref 0), some (.int n), some (.long row), none, some (.int x4)], [.long (row / (ylp 1000 ((n - 1) - x4))), .ref 0], (hY I F sd))) rfl rfl (g1 p1)) ?_
    refine Eq.trans (b := pm_EV (pm_run mt (d + 5)) (some .int) oX8_judge (41, [some (.ref 0), some (.int n), some (.long row), none, some (.int x4)], [.int (bI (dsA ((F 2)) ((F 6)) ((I 5)) ((I 7)) ((I 4)) (((row / (ylp 1000 ((n - 1) - x4))) - (row / (ylp 1000 ((n - 1) - x4))) / 1000 * 1000 : Int64).toInt32)))], (hY I (uF F 6 (dsF ((F 2)) ((F 6)) ((I 5)) ((I 7)) (((row / (ylp 1000 ((n - 1) - x4))) - (row / (ylp 1000 ((n - 1) - x4))) / 1000 * 1000 : Int64).toInt32))) sd))) (pm_EV_cl 3 (call := pm_run mt (d + 5)) (d := (40, [some (.ref 0), some (.int n), some (.long row), none, some (.int x4)], [.int (((row / (ylp 1000 ((n - 1) - x4))) - (row / (ylp 1000 ((n - 1) - x4))) / 1000 * 1000 : Int64).toInt32), .ref 0], (hY I F sd))) (a := 153) (as := [.ref 0, .int (((row / (ylp 1000 ((n - 1) - x4))) - (row / (ylp 1000 ((n - 1) - x4))) / 1000 * 1000 : Int64).toInt32)]) (hp := (hY I F sd)) (hp2 := (hY I (uF F 6 (dsF ((F 2)) ((F 6)) ((I 5)) ((I 7)) (((row / (ylp 1000 ((n - 1) - x4))) - (row / (ylp 1000 ((n - 1) - x4))) / 1000 * 1000 : Int64).toInt32))) sd)) (i2 := 41) (ls := [some (.ref 0), some (.int n), some (.long row), none, some (.int x4)]) (rest := []) (r := some (.int (bI (dsA ((F 2)) ((F 6)) ((I 5)) ((I 7)) ((I 4)) (((row / (ylp 1000 ((n - 1) - x4))) - (row / (ylp 1000 ((n - 1) - x4))) / 1000 * 1000 : Int64).toInt32))))) rfl rfl (sp_X8_does_0 (d + 0) I F sd (((row / (ylp 1000 ((n - 1) - x4))) - (row / (ylp 1000 ((n - 1) - x4))) / 1000 * 1000 : Int64).toInt32) (g2 p1) (g3 p1) (g4 p1) (g5 p1))) ?_
    refine Eq.trans (pm_EV_at 0 (d := (41, [some (.ref 0), some (.int n), some (.long row), none, some (.int x4)], [.int (bI (dsA ((F 2)) ((F 6)) ((I 5)) ((I 7)) ((I 4)) (((row / (ylp 1000 ((n - 1) - x4))) - (row / (ylp 1000 ((n - 1) - x4))) / 1000 * 1000 : Int64).toInt32)))], (hY I (uF F 6 (dsF ((F 2)) ((F 6)) ((I 5)) ((I 7)) (((row / (ylp 1000 ((n - 1) - x4))) - (row / (ylp 1000 ((n - 1) - x4))) / 1000 * 1000 : Int64).toInt32))) sd))) (x := if (bI (dsA ((F 2)) ((F 6)) ((I 5)) ((I 7)) ((I 4)) (((row / (ylp 1000 ((n - 1) - x4))) - (row / (ylp 1000 ((n - 1) - x4))) / 1000 * 1000 : Int64).toInt32))) = 0 then .inl (42, [some (.ref 0), some (.int n), some (.long row), none, some (.int x4)], [], (hY I (uF F 6 (dsF ((F 2)) ((F 6)) ((I 5)) ((I 7)) (((row / (ylp 1000 ((n - 1) - x4))) - (row / (ylp 1000 ((n - 1) - x4))) / 1000 * 1000 : Int64).toInt32))) sd)) else .inl (44, [some (.ref 0), some (.int n), some (.long row), none, some (.int x4)], [], (hY I (uF F 6 (dsF ((F 2)) ((F 6)) ((I 5)) ((I 7)) (((row / (ylp 1000 ((n - 1) - x4))) - (row / (ylp 1000 ((n - 1) - x4))) / 1000 * 1000 : Int64).toInt32))) sd))) rfl rfl) ?_
    refine pm_rc (fun p2 => ?_) (fun p2 => ?_)
    · show pm_EV (pm_run mt (d + 5)) (some .int) oX8_judge (42, [some (.ref 0), some (.int n), some (.long row), none, some (.int x4)], [], (hY I (uF F 6 (dsF ((F 2)) ((F 6)) ((I 5)) ((I 7)) (((row / (ylp 1000 ((n - 1) - x4))) - (row / (ylp 1000 ((n - 1) - x4))) / 1000 * 1000 : Int64).toInt32))) sd)) = _
      exact pm_EV_at 1 (d := (43, [some (.ref 0), some (.int n), some (.long row), none, some (.int x4)], [.int x4], (hY I (uF F 6 (dsF ((F 2)) ((F 6)) ((I 5)) ((I 7)) (((row / (ylp 1000 ((n - 1) - x4))) - (row / (ylp 1000 ((n - 1) - x4))) / 1000 * 1000 : Int64).toInt32))) sd))) rfl rfl
    · show pm_EV (pm_run mt (d + 5)) (some .int) oX8_judge (44, [some (.ref 0), some (.int n), some (.long row), none, some (.int x4)], [], (hY I (uF F 6 (dsF ((F 2)) ((F 6)) ((I 5)) ((I 7)) (((row / (ylp 1000 ((n - 1) - x4))) - (row / (ylp 1000 ((n - 1) - x4))) / 1000 * 1000 : Int64).toInt32))) sd)) = _
      exact pm_EV_go 2 (d := (24, [some (.ref 0), some (.int n), some (.long row), none, some (.int (x4 + 1))], [], (hY I (uF F 6 (dsF ((F 2)) ((F 6)) ((I 5)) ((I 7)) (((row / (ylp 1000 ((n - 1) - x4))) - (row / (ylp 1000 ((n - 1) - x4))) / 1000 * 1000 : Int64).toInt32))) sd))) rfl
  · show pm_EV (pm_run mt (d + 5)) (some .int) oX8_judge (46, [some (.ref 0), some (.int n), some (.long row), none, some (.int x4)], [], (hY I F sd)) = _
    exact pm_EV_at 1 (d := (47, [some (.ref 0), some (.int n), some (.long row), none, some (.int x4)], [.int (-9)], (hY I F sd))) rfl rfl
set_option maxRecDepth 100000 in
set_option maxHeartbeats 4000000 in
theorem en_X8_judge_0 (d : Nat) (I : Nat → Int32) (F : Nat → Nat → Int32) (sd : Int64) (n : Int32) (row : Int64) : pm_run mt (d + 6) 154 [.ref 0, .int n, .long row] (hY I F sd) = pm_EV (pm_run mt (d + 5)) (some .int) oX8_judge (0, [some (.ref 0), some (.int n), some (.long row), none, none], [], (hY I F sd)) := rfl
set_option maxRecDepth 100000 in
set_option maxHeartbeats 4000000 in
theorem sp_X8_judge_0 (d : Nat) (I : Nat → Int32) (F : Nat → Nat → Int32) (sd : Int64) (n : Int32) (row : Int64) (h1 : inr (I 5) 5 = true) (h2 : inr (I 7) 6 = true) (h3 : inr (I 4) 10 = true) (h4 : inr (F 5 19) 10 = true) : pm_run mt (d + 6) 154 [.ref 0, .int n, .long row] (hY I F sd) = some (some (.int ((jdYA (F 2) (F 5) (F 6) (I 5) (I 7) (I 4) n row).1)), (hY (upd I 0 0) (uF F 6 ((jdYA (F 2) (F 5) (F 6) (I 5) (I 7) (I 4) n row).2)) sd)) := by
  rw [en_X8_judge_0, tr_X8_judge_0_0]
  simp only [bI_0]
  unfold jdYA jdYb
  cases c1 : lin n.toInt64 1 4
  · simp only [Bool.false_and, if_true, uF_self]
  · obtain ⟨N, hN1, hN4, rfl⟩ := n14 c1
    have eP : ylp 1000 (nI N) = lN (1000 ^ N) := by unfold ylp; rw [nI_clamp (by omega)]; exact ylS_N 1000 N
    cases c2 : lin row 0 (ylp 1000 (nI N) - 1)
    · simp only [Bool.true_and, Bool.true_eq_false, if_true, if_false, uF_self]
    · simp only [Bool.true_and, Bool.true_eq_false, if_false]
      rw [eP] at c2
      obtain ⟨R, hR, rfl⟩ := (lin_row hN4).mp c2
      have hpN := p1000 hN4
      rw [pk_lT (by omega), Int.toNat_natCast, nI_clamp (by omega)]
      have key : ∀ (m k : Nat) (p : Nat → Int32), inr (p 19) 10 = true → k + m = N → pm_EV (pm_run mt (d + 5)) (some .int) oX8_judge (24, [some (.ref 0), some (.int (nI N)), some (.long (lN R)), none, some (.int (nI k))], [], hY (upd I 0 0) (uF F 6 p) sd) = some (some (.int (jdYL (F 2) (I 5) (I 7) (I 4) R N m k p).1), hY (upd I 0 0) (uF F 6 (jdYL (F 2) (I 5) (I 7) (I 4) R N m k p).2) sd) := by
        intro m
        induction m with
        | zero =>
          intro k p hp hk
          rw [tr_X8_judge_0_24 d (upd I 0 0) (uF F 6 p) sd (nI N) (lN R) (nI k) (fun h => by rw [nI_ltI (by omega) (by omega)] at h; omega) (fun _ => h1) (fun _ => h2) (fun _ => h3) (fun _ => hp), if_neg (fun h => by rw [nI_ltI (by omega) (by omega)] at h; omega), jdYL]
        | succ m ih =>
          intro k p hp hk
          have hz : 0 < 1000 ^ (N - 1 - k) := Nat.pow_pos (by decide)
          have hz2 := p1000 (show N - 1 - k ≤ 4 by omega)
          have eq : ylp 1000 (nI N - 1 - nI k) = lN (1000 ^ (N - 1 - k)) := by
            rw [show (1 : Int32) = nI 1 from rfl, pk_sub (by omega), pk_sub (by omega)]
            unfold ylp
            rw [nI_clamp (by omega)]
            exact ylS_N 1000 _
          have eg : (lN R / ylp 1000 (nI N - 1 - nI k) - lN R / ylp 1000 (nI N - 1 - nI k) / 1000 * 1000).toInt32 = nI (R / 1000 ^ (N - 1 - k) % 1000) := by
            have hRd : R / 1000 ^ (N - 1 - k) ≤ R := Nat.div_le_self _ _
            rw [eq, pk_lDiv (by omega) hz (by omega), show (1000 : Int64) = lN 1000 from rfl, pk_lRem (by omega) (by decide) (by decide), lN_i]
          rw [tr_X8_judge_0_24 d (upd I 0 0) (uF F 6 p) sd (nI N) (lN R) (nI k) (fun _ h => by rw [eq, show (0 : Int64) = lN 0 from rfl, pk_lEQ (by omega) (by decide)] at h; omega) (fun _ => h1) (fun _ => h2) (fun _ => h3) (fun _ => hp), if_pos ((nI_ltI (by omega) (by omega)).mpr (by omega)), eg, nI_p1, uF_uF, uF_at, uF_ne _ _ (by decide), jdYL]
          simp only [bI_0]
          have e5 : upd I 0 0 5 = I 5 := rfl
          have e7 : upd I 0 0 7 = I 7 := rfl
          have e4 : upd I 0 0 4 = I 4 := rfl
          rw [e5, e7, e4]
          by_cases c : dsA (F 2) p (I 5) (I 7) (I 4) (nI (R / 1000 ^ (N - 1 - k) % 1000)) = false
          · simp only [c, if_true]
          · simp only [c, if_false]
            exact ih _ _ (dsF_19 hp h1 h2) (by omega)
      exact key N 0 _ (by rw [cpy_in (by decide)]; exact h4) (Nat.zero_add _)
