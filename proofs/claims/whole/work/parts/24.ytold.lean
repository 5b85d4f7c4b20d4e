/-! the reference: book, powers, fractions, told doings -/
def nt17 (a : Int32) : Int32 := if a = 14 then 14 else a + 1
def nt7 (p b : Nat → Int32) (a : Int32) : Nat → Int32 := if a = 14 then va_cpy p (va_cpy b b 21 0 273) 0 273 21 else va_cpy p b 0 (21 * a).toNatClampNeg 21
theorem cpy_sh (b : Nat → Int32) (k : Nat) : upd (va_cpy b b 21 0 k) k (va_cpy b b 21 0 k (k + 21)) = va_cpy b b 21 0 (k + 1) := by
  funext j
  unfold upd va_cpy
  by_cases h : j = k
  · subst h
    rw [if_pos rfl, if_neg (by omega), if_pos ⟨Nat.zero_le _, by omega⟩, Nat.sub_zero, Nat.add_comm]
  · rw [if_neg h]
    by_cases h2 : j < k
    · rw [if_pos ⟨Nat.zero_le _, by omega⟩, if_pos ⟨Nat.zero_le _, by omega⟩]
    · rw [if_neg (by omega), if_neg (by omega)]
theorem cpy_D (f g : Nat → Int32) (z k : Nat) : upd (va_cpy f g 0 z k) (z + k) (f k) = va_cpy f g 0 z (k + 1) := by
  funext j
  unfold upd va_cpy
  by_cases h : j = z + k
  · rw [if_pos h, if_pos (by omega), show 0 + (j - z) = k by omega]
  · rw [if_neg h]
    by_cases h2 : z ≤ j ∧ j < z + k
    · rw [if_pos h2, if_pos (by omega)]
    · rw [if_neg h2, if_neg (by omega)]
theorem cpy_E (f g : Nat → Int32) (z k : Nat) : upd (va_cpy f g z 0 k) k (f (z + k)) = va_cpy f g z 0 (k + 1) := by
  funext j
  unfold upd va_cpy
  by_cases h : j = k
  · rw [if_pos h, if_pos (by omega), h, Nat.sub_zero]
  · rw [if_neg h]
    by_cases h2 : 0 ≤ j ∧ j < 0 + k
    · rw [if_pos h2, if_pos (by omega)]
    · rw [if_neg h2, if_neg (by omega)]
theorem cpy_n0 (f g : Nat → Int32) (s z : Nat) : va_cpy f g s z 0 = g := by
  funext j
  unfold va_cpy
  rw [if_neg (by omega)]
theorem ix21 {a k : Nat} (ha : a ≤ 100) (hk : k < 21) : (21 : Int32) * nI a + nI k = nI (21 * a + k) := by
  rw [show (21 : Int32) = nI 21 from rfl, pk_mul, nI_add]
set_option maxRecDepth 100000 in
set_option maxHeartbeats 4000000 in
theorem tr_X8_note_0_0 (d : Nat) (I : Nat → Int32) (F : Nat → Nat → Int32) (sd : Int64) : pm_EV (pm_run mt (d + 0)) none oX8_note (0, [some (.ref 0), none], [], (hY I F sd)) = (if (I 17) = 14 then pm_EV (pm_run mt (d + 0)) none oX8_note (6, [some (.ref 0), some (.int 0)], [], (hY I F sd)) else pm_EV (pm_run mt (d + 0)) none oX8_note (29, [some (.ref 0), some (.int 0)], [], (hY I F sd))) := by
  refine Eq.trans (pm_EV_at 3 (d := (3, [some (.ref 0), none], [.int 14, .int (I 17)], (hY I F sd))) (x := if (I 17) = 14 then .inl (4, [some (.ref 0), none], [], (hY I F sd)) else .inl (27, [some (.ref 0), none], [], (hY I F sd))) rfl rfl) ?_
  refine pm_rc (fun p1 => ?_) (fun p1 => ?_)
  · show pm_EV (pm_run mt (d + 0)) none oX8_note (4, [some (.ref 0), none], [], (hY I F sd)) = _
    exact pm_EV_go 2 (d := (6, [some (.ref 0), some (.int 0)], [], (hY I F sd))) rfl
  · show pm_EV (pm_run mt (d + 0)) none oX8_note (27, [some (.ref 0), none], [], (hY I F sd)) = _
    exact pm_EV_go 2 (d := (29, [some (.ref 0), some (.int 0)], [], (hY I F sd))) rfl
set_option maxRecDepth 100000 in
set_option maxHeartbeats 4000000 in
theorem tr_X8_note_0_6 (d : Nat) (I : Nat → Int32) (F : Nat → Nat → Int32) (sd : Int64) (x1 : Int32) (g1 : (x1 < 273) → pm_in (x1 + 21) 294 = true) (g2 : (x1 < 273) → pm_in x1 294 = true) : pm_EV (pm_run mt (d + 0)) none oX8_note (6, [some (.ref 0), some (.int x1)], [], (hY I F sd)) = (if x1 < 273 then pm_EV (pm_run mt (d + 0)) none oX8_note (6, [some (.ref 0), some (.int (x1 + 1))], [], (hY I (uF F 7 (upd (F 7) x1.toNatClampNeg ((F 7) (x1 + 21).toNatClampNeg))) sd)) else pm_EV (pm_run mt (d + 0)) none oX8_note (29, [some (.ref 0), some (.int 0)], [], (hY (upd I 17 ((I 17) - 1)) F sd))) := by
  refine Eq.trans (pm_EV_at 2 (d := (8, [some (.ref 0), some (.int x1)], [.int 273, .int x1], (hY I F sd))) (x := if x1 < 273 then .inl (9, [some (.ref 0), some (.int x1)], [], (hY I F sd)) else .inl (21, [some (.ref 0), some (.int x1)], [], (hY I F sd))) rfl rfl) ?_
  refine pm_rc (fun p1 => ?_) (fun p1 => ?_)
  · show pm_EV (pm_run mt (d + 0)) none oX8_note (9, [some (.ref 0), some (.int x1)], [], (hY I F sd)) = _
    refine Eq.trans (b := pm_EV (pm_run mt (d + 0)) none oX8_note (18, [some (.ref 0), some (.int x1)], [.int ((F 7) (x1 + 21).toNatClampNeg), .int x1, .ref 7], (hY I F sd))) (pm_EV_gd 8 (d := (17, [some (.ref 0), some (.int x1)], [.int (x1 + 21), .ref 7, .int x1, .ref 7], (hY I F sd))) (c1 := (18, [some (.ref 0), some (.int x1)], [.int ((F 7) (x1 + 21).toNatClampNeg), .int x1, .ref 7], (hY I F sd))) rfl rfl (⟨rfl, g1 p1⟩)) ?_
    refine Eq.trans (b := pm_EV (pm_run mt (d + 0)) none oX8_note (19, [some (.ref 0), some (.int x1)], [], ((hY I F sd)).set 7 (.inl (0, 294, .inl (upd (F 7) x1.toNatClampNeg ((F 7) (x1 + 21).toNatClampNeg)))))) (pm_EV_gd 0 (d := (18, [some (.ref 0), some (.int x1)], [.int ((F 7) (x1 + 21).toNatClampNeg), .int x1, .ref 7], (hY I F sd))) (c1 := (19, [some (.ref 0), some (.int x1)], [], ((hY I F sd)).set 7 (.inl (0, 294, .inl (upd (F 7) x1.toNatClampNeg ((F 7) (x1 + 21).toNatClampNeg)))))) rfl rfl ⟨rfl, g2 p1⟩) ?_
    refine Eq.trans (b := pm_EV (pm_run mt (d + 0)) none oX8_note (19, [some (.ref 0), some (.int x1)], [], (hY I (uF F 7 (upd (F 7) x1.toNatClampNeg ((F 7) (x1 + 21).toNatClampNeg))) sd))) (congrArg (fun hz => pm_EV (pm_run mt (d + 0)) none oX8_note (19, [some (.ref 0), some (.int x1)], [], hz)) (hY_s7 I F sd (upd (F 7) x1.toNatClampNeg ((F 7) (x1 + 21).toNatClampNeg)))) ?_
    exact pm_EV_go 2 (d := (6, [some (.ref 0), some (.int (x1 + 1))], [], (hY I (uF F 7 (upd (F 7) x1.toNatClampNeg ((F 7) (x1 + 21).toNatClampNeg))) sd))) rfl
  · show pm_EV (pm_run mt (d + 0)) none oX8_note (21, [some (.ref 0), some (.int x1)], [], (hY I F sd)) = _
    exact pm_EV_go 8 (d := (29, [some (.ref 0), some (.int 0)], [], (hY (upd I 17 ((I 17) - 1)) F sd))) rfl
set_option maxRecDepth 100000 in
set_option maxHeartbeats 4000000 in
theorem tr_X8_note_0_29 (d : Nat) (I : Nat → Int32) (F : Nat → Nat → Int32) (sd : Int64) (x1 : Int32) (g1 : (x1 < 21) → pm_in x1 21 = true) (g2 : (x1 < 21) → pm_in ((21 * (I 17)) + x1) 294 = true) : pm_EV (pm_run mt (d + 0)) none oX8_note (29, [some (.ref 0), some (.int x1)], [], (hY I F sd)) = (if x1 < 21 then pm_EV (pm_run mt (d + 0)) none oX8_note (29, [some (.ref 0), some (.int (x1 + 1))], [], (hY I (uF F 7 (upd (F 7) ((21 * (I 17)) + x1).toNatClampNeg ((F 5) x1.toNatClampNeg))) sd)) else some (none, (hY (upd I 17 ((I 17) + 1)) F sd))) := by
  refine Eq.trans (pm_EV_at 2 (d := (31, [some (.ref 0), some (.int x1)], [.int 21, .int x1], (hY I F sd))) (x := if x1 < 21 then .inl (32, [some (.ref 0), some (.int x1)], [], (hY I F sd)) else .inl (47, [some (.ref 0), some (.int x1)], [], (hY I F sd))) rfl rfl) ?_
  refine pm_rc (fun p1 => ?_) (fun p1 => ?_)
  · show pm_EV (pm_run mt (d + 0)) none oX8_note (32, [some (.ref 0), some (.int x1)], [], (hY I F sd)) = _
    refine Eq.trans (b := pm_EV (pm_run mt (d + 0)) none oX8_note (44, [some (.ref 0), some (.int x1)], [.int ((F 5) x1.toNatClampNeg), .int ((21 * (I 17)) + x1), .ref 7], (hY I F sd))) (pm_EV_gd 11 (d := (43, [some (.ref 0), some (.int x1)], [.int x1, .ref 5, .int ((21 * (I 17)) + x1), .ref 7], (hY I F sd))) (c1 := (44, [some (.ref 0), some (.int x1)], [.int ((F 5) x1.toNatClampNeg), .int ((21 * (I 17)) + x1), .ref 7], (hY I F sd))) rfl rfl (⟨rfl, g1 p1⟩)) ?_
    refine Eq.trans (b := pm_EV (pm_run mt (d + 0)) none oX8_note (45, [some (.ref 0), some (.int x1)], [], ((hY I F sd)).set 7 (.inl (0, 294, .inl (upd (F 7) ((21 * (I 17)) + x1).toNatClampNeg ((F 5) x1.toNatClampNeg)))))) (pm_EV_gd 0 (d := (44, [some (.ref 0), some (.int x1)], [.int ((F 5) x1.toNatClampNeg), .int ((21 * (I 17)) + x1), .ref 7], (hY I F sd))) (c1 := (45, [some (.ref 0), some (.int x1)], [], ((hY I F sd)).set 7 (.inl (0, 294, .inl (upd (F 7) ((21 * (I 17)) + x1).toNatClampNeg ((F 5) x1.toNatClampNeg)))))) rfl rfl ⟨rfl, g2 p1⟩) ?_
    refine Eq.trans (b := pm_EV (pm_run mt (d + 0)) none oX8_note (45, [some (.ref 0), some (.int x1)], [], (hY I (uF F 7 (upd (F 7) ((21 * (I 17)) + x1).toNatClampNeg ((F 5) x1.toNatClampNeg))) sd))) (congrArg (fun hz => pm_EV (pm_run mt (d + 0)) none oX8_note (45, [some (.ref 0), some (.int x1)], [], hz)) (hY_s7 I F sd (upd (F 7) ((21 * (I 17)) + x1).toNatClampNeg ((F 5) x1.toNatClampNeg)))) ?_
    exact pm_EV_go 2 (d := (29, [some (.ref 0), some (.int (x1 + 1))], [], (hY I (uF F 7 (upd (F 7) ((21 * (I 17)) + x1).toNatClampNeg ((F 5) x1.toNatClampNeg))) sd))) rfl
  · show pm_EV (pm_run mt (d + 0)) none oX8_note (47, [some (.ref 0), some (.int x1)], [], (hY I F sd)) = _
    exact pm_EV_at 6 (d := (53, [some (.ref 0), some (.int x1)], [], (hY (upd I 17 ((I 17) + 1)) F sd))) rfl rfl
set_option maxRecDepth 100000 in
set_option maxHeartbeats 4000000 in
theorem en_X8_note_0 (d : Nat) (I : Nat → Int32) (F : Nat → Nat → Int32) (sd : Int64) : pm_run mt (d + 1) 135 [.ref 0] (hY I F sd) = pm_EV (pm_run mt (d + 0)) none oX8_note (0, [some (.ref 0), none], [], (hY I F sd)) := rfl
set_option maxRecDepth 100000 in
set_option maxHeartbeats 4000000 in
theorem sp_X8_note_0 (d : Nat) (I : Nat → Int32) (F : Nat → Nat → Int32) (sd : Int64) (h1 : inr (I 17) 15 = true) : pm_run mt (d + 1) 135 [.ref 0] (hY I F sd) = some (none, (hY (upd I 17 (nt17 (I 17))) (uF F 7 (nt7 (F 5) (F 7) (I 17))) sd)) := by
  obtain ⟨a, ha, e⟩ := inr_nI (n := 15) (by decide) h1
  have wr : ∀ (z : Nat) (J : Nat → Int32) (b : Nat → Int32), z < 14 → J 17 = nI z → ∀ (m k : Nat), k + m = 21 → pm_EV (pm_run mt (d + 0)) none oX8_note (29, [some (.ref 0), some (.int (nI k))], [], hY J (uF F 7 (va_cpy (F 5) b 0 (21 * z) k)) sd) = some (none, hY (upd J 17 (nI z + 1)) (uF F 7 (va_cpy (F 5) b 0 (21 * z) 21)) sd) := by
    intro z J b hz hJ m
    induction m with
    | zero =>
      intro k hk
      obtain rfl : k = 21 := by omega
      rw [tr_X8_note_0_29 _ _ _ _ _ (fun h => absurd h (by decide)) (fun h => absurd h (by decide)), if_neg (by decide), hJ]
    | succ m ih =>
      intro k hk
      rw [tr_X8_note_0_29 _ _ _ _ _ (fun h => pm_in_nI (by omega) (by decide)) (fun h => by rw [hJ, ix21 (by omega) (by omega)]; exact pm_in_nI (by omega) (by decide)), if_pos (by rw [show (21 : Int32) = nI 21 from rfl, nI_ltI (by omega) (by decide)]; omega), hJ, ix21 (by omega) (by omega), nI_clamp (by omega), nI_clamp (by omega), nI_p1, uF_uF, uF_at, uF_ne _ _ (by decide), cpy_D]
      exact ih (k + 1) (by omega)
  have sh : ∀ (m k : Nat), k + m = 273 → pm_EV (pm_run mt (d + 0)) none oX8_note (6, [some (.ref 0), some (.int (nI k))], [], hY I (uF F 7 (va_cpy (F 7) (F 7) 21 0 k)) sd) = pm_EV (pm_run mt (d + 0)) none oX8_note (29, [some (.ref 0), some (.int 0)], [], hY (upd I 17 (I 17 - 1)) (uF F 7 (va_cpy (F 7) (F 7) 21 0 273)) sd) := by
    intro m
    induction m with
    | zero =>
      intro k hk
      obtain rfl : k = 273 := by omega
      rw [tr_X8_note_0_6 _ _ _ _ _ (fun h => absurd h (by decide)) (fun h => absurd h (by decide)), if_neg (by decide)]
    | succ m ih =>
      intro k hk
      rw [tr_X8_note_0_6 _ _ _ _ _ (fun h => by rw [show (21 : Int32) = nI 21 from rfl, nI_add]; exact pm_in_nI (by omega) (by decide)) (fun h => pm_in_nI (by omega) (by decide)), if_pos (by rw [show (273 : Int32) = nI 273 from rfl, nI_ltI (by omega) (by decide)]; omega), show (21 : Int32) = nI 21 from rfl, cl_add _ _ (by omega), nI_clamp (by omega), nI_p1, uF_uF, uF_at, cpy_sh]
      exact ih (k + 1) (by omega)
  rw [en_X8_note_0, tr_X8_note_0_0]
  unfold nt17 nt7
  by_cases c : I 17 = 14
  · rw [if_pos c, if_pos c, if_pos c]
    have h2 := sh 273 0 rfl
    rw [cpy_n0, uF_self] at h2
    refine h2.trans ?_
    have h3 := wr 13 (upd I 17 (I 17 - 1)) (va_cpy (F 7) (F 7) 21 0 273) (by decide) (by rw [upd_at, c]; rfl) 21 0 rfl
    rw [cpy_n0, upd_up] at h3
    exact h3
  · rw [if_neg c, if_neg c, if_neg c]
    have ha2 : a < 14 := by
      have : a ≠ 14 := fun z => c (by rw [e, z]; rfl)
      omega
    have h3 := wr a I (F 7) ha2 e 21 0 rfl
    rw [cpy_n0, uF_self] at h3
    refine h3.trans ?_
    rw [e, show (21 : Int32) = nI 21 from rfl, pk_mul, nI_clamp (by omega)]
def ylS (a : Int64) : Nat → Int64
  | 0 => 1
  | k + 1 => ylS a k * a
def ylp (a : Int64) (n : Int32) : Int64 := ylS a n.toNatClampNeg
set_option maxRecDepth 100000 in
set_option maxHeartbeats 4000000 in
theorem tr_X8_longPower_0 (d : Nat) (I : Nat → Int32) (F : Nat → Nat → Int32) (sd : Int64) (a : Int64) (n : Int32) : pm_EV (pm_run mt (d + 0)) (some .long) oX8_longPower (0, [some (.long a), none, some (.int n), none, none, none], [], (hY I F sd)) = pm_EV (pm_run mt (d + 0)) (some .long) oX8_longPower (4, [some (.long a), none, some (.int n), some (.long 1), none, some (.int 0)], [], (hY I F sd)) := by
  exact pm_EV_go 4 (d := (4, [some (.long a), none, some (.int n), some (.long 1), none, some (.int 0)], [], (hY I F sd))) rfl
set_option maxRecDepth 100000 in
set_option maxHeartbeats 4000000 in
theorem tr_X8_longPower_4 (d : Nat) (I : Nat → Int32) (F : Nat → Nat → Int32) (sd : Int64) (a : Int64) (n : Int32) (x3 : Int64) (x5 : Int32) : pm_EV (pm_run mt (d + 0)) (some .long) oX8_longPower (4, [some (.long a), none, some (.int n), some (.long x3), none, some (.int x5)], [], (hY I F sd)) = (if x5 < n then pm_EV (pm_run mt (d + 0)) (some .long) oX8_longPower (4, [some (.long a), none, some (.int n), some (.long (x3 * a)), none, some (.int (x5 + 1))], [], (hY I F sd)) else some (some (.long x3), (hY I F sd))) := by
  refine Eq.trans (pm_EV_at 2 (d := (6, [some (.long a), none, some (.int n), some (.long x3), none, some (.int x5)], [.int n, .int x5], (hY I F sd))) (x := if x5 < n then .inl (7, [some (.long a), none, some (.int n), some (.long x3), none, some (.int x5)], [], (hY I F sd)) else .inl (13, [some (.long a), none, some (.int n), some (.long x3), none, some (.int x5)], [], (hY I F sd))) rfl rfl) ?_
  refine pm_rc (fun p1 => ?_) (fun p1 => ?_)
  · show pm_EV (pm_run mt (d + 0)) (some .long) oX8_longPower (7, [some (.long a), none, some (.int n), some (.long x3), none, some (.int x5)], [], (hY I F sd)) = _
    exact pm_EV_go 6 (d := (4, [some (.long a), none, some (.int n), some (.long (x3 * a)), none, some (.int (x5 + 1))], [], (hY I F sd))) rfl
  · show pm_EV (pm_run mt (d + 0)) (some .long) oX8_longPower (13, [some (.long a), none, some (.int n), some (.long x3), none, some (.int x5)], [], (hY I F sd)) = _
    exact pm_EV_at 1 (d := (14, [some (.long a), none, some (.int n), some (.long x3), none, some (.int x5)], [.long x3], (hY I F sd))) rfl rfl
set_option maxRecDepth 100000 in
set_option maxHeartbeats 4000000 in
theorem en_X8_longPower (d : Nat) (I : Nat → Int32) (F : Nat → Nat → Int32) (sd : Int64) (a : Int64) (n : Int32) : pm_run mt (d + 1) 150 [.long a, .int n] (hY I F sd) = pm_EV (pm_run mt (d + 0)) (some .long) oX8_longPower (0, [some (.long a), none, some (.int n), none, none, none], [], (hY I F sd)) := rfl
set_option maxRecDepth 100000 in
set_option maxHeartbeats 4000000 in
theorem sp_X8_longPower (d : Nat) (I : Nat → Int32) (F : Nat → Nat → Int32) (sd : Int64) (a : Int64) (n : Int32) : pm_run mt (d + 1) 150 [.long a, .int n] (hY I F sd) = some (some (.long (ylp a n)), (hY I F sd)) := by
  rw [en_X8_longPower, tr_X8_longPower_0]
  have key : ∀ (m k : Nat), k + m = n.toNatClampNeg → pm_EV (pm_run mt (d + 0)) (some .long) oX8_longPower (4, [some (.long a), none, some (.int n), some (.long (ylS a k)), none, some (.int (nI k))], [], hY I F sd) = some (some (.long (ylp a n)), hY I F sd) := by
    intro m
    induction m with
    | zero =>
      intro k hk
      have hb := cl_bd n
      rw [tr_X8_longPower_4, if_neg (fun h => by rw [cl_lt (by omega)] at h; omega), ylp, ← hk]
      rfl
    | succ m ih =>
      intro k hk
      have hb := cl_bd n
      rw [tr_X8_longPower_4, if_pos ((cl_lt (by omega)).mpr (by omega)), nI_p1]
      exact ih (k + 1) (by omega)
  exact key _ 0 (Nat.zero_add _)
set_option maxRecDepth 100000 in
set_option maxHeartbeats 4000000 in
theorem tr_X8_ways_0 (d : Nat) (I : Nat → Int32) (F : Nat → Nat → Int32) (sd : Int64) (n : Int32) : pm_EV (pm_run mt (d + 0)) (some .int) oX8_ways (0, [some (.int n), none, none], [], (hY I F sd)) = pm_EV (pm_run mt (d + 0)) (some .int) oX8_ways (4, [some (.int n), some (.int 1), some (.int 2)], [], (hY I F sd)) := by
  exact pm_EV_go 4 (d := (4, [some (.int n), some (.int 1), some (.int 2)], [], (hY I F sd))) rfl
set_option maxRecDepth 100000 in
set_option maxHeartbeats 4000000 in
theorem tr_X8_ways_4 (d : Nat) (I : Nat → Int32) (F : Nat → Nat → Int32) (sd : Int64) (n : Int32) (x1 : Int32) (x2 : Int32) : pm_EV (pm_run mt (d + 0)) (some .int) oX8_ways (4, [some (.int n), some (.int x1), some (.int x2)], [], (hY I F sd)) = (if n < x2 then some (some (.int x1), (hY I F sd)) else pm_EV (pm_run mt (d + 0)) (some .int) oX8_ways (4, [some (.int n), some (.int (x1 * x2)), some (.int (x2 + 1))], [], (hY I F sd))) := by
  refine Eq.trans (pm_EV_at 2 (d := (6, [some (.int n), some (.int x1), some (.int x2)], [.int n, .int x2], (hY I F sd))) (x := if n < x2 then .inl (13, [some (.int n), some (.int x1), some (.int x2)], [], (hY I F sd)) else .inl (7, [some (.int n), some (.int x1), some (.int x2)], [], (hY I F sd))) rfl rfl) ?_
  refine pm_rc (fun p1 => ?_) (fun p1 => ?_)
  · show pm_EV (pm_run mt (d + 0)) (some .int) oX8_ways (13, [some (.int n), some (.int x1), some (.int x2)], [], (hY I F sd)) = _
    exact pm_EV_at 1 (d := (14, [some (.int n), some (.int x1), some (.int x2)], [.int x1], (hY I F sd))) rfl rfl
  · show pm_EV (pm_run mt (d + 0)) (some .int) oX8_ways (7, [some (.int n), some (.int x1), some (.int x2)], [], (hY I F sd)) = _
    exact pm_EV_go 6 (d := (4, [some (.int n), some (.int (x1 * x2)), some (.int (x2 + 1))], [], (hY I F sd))) rfl
set_option maxRecDepth 100000 in
set_option maxHeartbeats 4000000 in
theorem en_X8_ways (d : Nat) (I : Nat → Int32) (F : Nat → Nat → Int32) (sd : Int64) (n : Int32) : pm_run mt (d + 1) 155 [.int n] (hY I F sd) = pm_EV (pm_run mt (d + 0)) (some .int) oX8_ways (0, [some (.int n), none, none], [], (hY I F sd)) := rfl
set_option maxRecDepth 100000 in
set_option maxHeartbeats 4000000 in
theorem sp_X8_ways (d : Nat) (I : Nat → Int32) (F : Nat → Nat → Int32) (sd : Int64) (n : Int32) (h1 : inr n 5 = true) : pm_run mt (d + 1) 155 [.int n] (hY I F sd) = some (some (.int (xfac n)), (hY I F sd)) := by
  rw [en_X8_ways, tr_X8_ways_0]
  obtain ⟨k, hk, rfl⟩ := inr_nI (n := 5) (by decide) h1
  rcases (show k = 0 ∨ k = 1 ∨ k = 2 ∨ k = 3 ∨ k = 4 by omega) with rfl | rfl | rfl | rfl | rfl
  · rw [tr_X8_ways_4, if_pos (by decide)]; rfl
  · rw [tr_X8_ways_4, if_pos (by decide)]; rfl
  · rw [tr_X8_ways_4, if_neg (by decide), tr_X8_ways_4, if_pos (by decide)]; rfl
  · rw [tr_X8_ways_4, if_neg (by decide), tr_X8_ways_4, if_neg (by decide), tr_X8_ways_4, if_pos (by decide)]; rfl
  · rw [tr_X8_ways_4, if_neg (by decide), tr_X8_ways_4, if_neg (by decide), tr_X8_ways_4, if_neg (by decide), tr_X8_ways_4, if_pos (by decide)]; rfl
def ydiv (a b : Int32) : Int32 := nI (Nat.gcd a.toNatClampNeg b.toNatClampNeg)
set_option maxRecDepth 100000 in
set_option maxHeartbeats 4000000 in
theorem tr_X8_divisor_0 (d : Nat) (I : Nat → Int32) (F : Nat → Nat → Int32) (sd : Int64) (a : Int32) (b : Int32) : pm_EV (pm_run mt (d + 0)) (some .int) oX8_divisor (0, [some (.int a), some (.int b), none, none, none], [], (hY I F sd)) = (if a < 0 then pm_EV (pm_run mt (d + 0)) (some .int) oX8_divisor (9, [some (.int a), some (.int b), some (.int (-a)), some (.int b), none], [], (hY I F sd)) else pm_EV (pm_run mt (d + 0)) (some .int) oX8_divisor (9, [some (.int a), some (.int b), some (.int a), some (.int b), none], [], (hY I F sd))) := by
  refine Eq.trans (pm_EV_at 1 (d := (1, [some (.int a), some (.int b), none, none, none], [.int a], (hY I F sd))) (x := if a < 0 then .inl (2, [some (.int a), some (.int b), none, none, none], [], (hY I F sd)) else .inl (5, [some (.int a), some (.int b), none, none, none], [], (hY I F sd))) rfl rfl) ?_
  refine pm_rc (fun p1 => ?_) (fun p1 => ?_)
  · show pm_EV (pm_run mt (d + 0)) (some .int) oX8_divisor (2, [some (.int a), some (.int b), none, none, none], [], (hY I F sd)) = _
    exact pm_EV_go 6 (d := (9, [some (.int a), some (.int b), some (.int (-a)), some (.int b), none], [], (hY I F sd))) rfl
  · show pm_EV (pm_run mt (d + 0)) (some .int) oX8_divisor (5, [some (.int a), some (.int b), none, none, none], [], (hY I F sd)) = _
    exact pm_EV_go 4 (d := (9, [some (.int a), some (.int b), some (.int a), some (.int b), none], [], (hY I F sd))) rfl
set_option maxRecDepth 100000 in
set_option maxHeartbeats 4000000 in
theorem tr_X8_divisor_9 (d : Nat) (I : Nat → Int32) (F : Nat → Nat → Int32) (sd : Int64) (a : Int32) (b : Int32) (x2 : Int32) (x3 : Int32) (o4 : Option Value) (g1 : (¬ (x3 = 0)) → ¬ x3 = 0) : pm_EV (pm_run mt (d + 0)) (some .int) oX8_divisor (9, [some (.int a), some (.int b), some (.int x2), some (.int x3), o4], [], (hY I F sd)) = (if x3 = 0 then some (some (.int x2), (hY I F sd)) else pm_EV (pm_run mt (d + 0)) (some .int) oX8_divisor (9, [some (.int a), some (.int b), some (.int x3), some (.int (x2 - x2 / x3 * x3)), some (.int (x2 - x2 / x3 * x3))], [], (hY I F sd))) := by
  refine Eq.trans (pm_EV_at 1 (d := (10, [some (.int a), some (.int b), some (.int x2), some (.int x3), o4], [.int x3], (hY I F sd))) (x := if x3 = 0 then .inl (20, [some (.int a), some (.int b), some (.int x2), some (.int x3), o4], [], (hY I F sd)) else .inl (11, [some (.int a), some (.int b), some (.int x2), some (.int x3), o4], [], (hY I F sd))) rfl rfl) ?_
  refine pm_rc (fun p1 => ?_) (fun p1 => ?_)
  · show pm_EV (pm_run mt (d + 0)) (some .int) oX8_divisor (20, [some (.int a), some (.int b), some (.int x2), some (.int x3), o4], [], (hY I F sd)) = _
    exact pm_EV_at 1 (d := (21, [some (.int a), some (.int b), some (.int x2), some (.int x3), o4], [.int x2], (hY I F sd))) rfl rfl
  · show pm_EV (pm_run mt (d + 0)) (some .int) oX8_divisor (11, [some (.int a), some (.int b), some (.int x2), some (.int x3), o4], [], (hY I F sd)) = _
    refine Eq.trans (b := pm_EV (pm_run mt (d + 0)) (some .int) oX8_divisor (14, [some (.int a), some (.int b), some (.int x2), some (.int x3), o4], [.int (x2 - x2 / x3 * x3)], (hY I F sd))) (pm_EV_nz 2 (d := (13, [some (.int a), some (.int b), some (.int x2), some (.int x3), o4], [.int x3, .int x2], (hY I F sd))) (c1 := (14, [some (.int a), some (.int b), some (.int x2), some (.int x3), o4], [.int (x2 - x2 / x3 * x3)], (hY I F sd))) rfl rfl (g1 p1)) ?_
    exact pm_EV_go 6 (d := (9, [some (.int a), some (.int b), some (.int x3), some (.int (x2 - x2 / x3 * x3)), some (.int (x2 - x2 / x3 * x3))], [], (hY I F sd))) rfl
set_option maxRecDepth 100000 in
set_option maxHeartbeats 4000000 in
theorem en_X8_divisor (d : Nat) (I : Nat → Int32) (F : Nat → Nat → Int32) (sd : Int64) (a : Int32) (b : Int32) : pm_run mt (d + 1) 156 [.int a, .int b] (hY I F sd) = pm_EV (pm_run mt (d + 0)) (some .int) oX8_divisor (0, [some (.int a), some (.int b), none, none, none], [], (hY I F sd)) := rfl
set_option maxRecDepth 100000 in
set_option maxHeartbeats 4000000 in
theorem sp_X8_divisor (d : Nat) (I : Nat → Int32) (F : Nat → Nat → Int32) (sd : Int64) (a : Int32) (b : Int32) (h1 : frOk a b) : pm_run mt (d + 1) 156 [.int a, .int b] (hY I F sd) = some (some (.int (ydiv a b)), (hY I F sd)) := by
  obtain ⟨x, y, hx, hy0, hy, rfl, rfl⟩ := h1
  rw [en_X8_divisor, tr_X8_divisor_0, if_neg (nI_pos hx)]
  have key : ∀ (q p : Nat) (o : Option Value), p < 2 ^ 31 → q < 2 ^ 31 → pm_EV (pm_run mt (d + 0)) (some .int) oX8_divisor (9, [some (.int (nI x)), some (.int (nI y)), some (.int (nI p)), some (.int (nI q)), o], [], hY I F sd) = some (some (.int (nI (Nat.gcd p q))), hY I F sd) := by
    intro q
    induction q using Nat.strongRecOn with
    | ind q ih =>
      intro p o hp hq
      rw [tr_X8_divisor_9 _ _ _ _ _ _ _ _ _ (fun h => h)]
      rcases Nat.eq_zero_or_pos q with h0 | h0
      · subst h0
        rw [if_pos (show nI 0 = 0 from rfl), Nat.gcd_zero_right]
      · rw [if_neg (nI_ne0 h0 hq), pk_rem hp h0 hq, Nat.gcd_comm, Nat.gcd_rec, Nat.gcd_comm]
        exact ih (p % q) (Nat.mod_lt _ h0) q _ hq (by have := Nat.mod_lt p h0; omega)
  refine (key y x none hx (by omega)).trans ?_
  unfold ydiv
  rw [nI_clamp hx, nI_clamp (by omega)]
set_option maxRecDepth 100000 in
set_option maxHeartbeats 4000000 in
theorem tr_X8_fraction_0 (d : Nat) (I : Nat → Int32) (F : Nat → Nat → Int32) (sd : Int64) (a : Int32) (b : Int32) (u : Int32) (g1 : frOk a b) (g2 : (u = 0) → ¬ (ydiv a b) = 0) (g3 : (¬ (u = 0)) → ¬ (ydiv a b) = 0) : pm_EV (pm_run mt (d + 1)) (some .int) oX8_fraction (0, [some (.int a), some (.int b), some (.int u), none], [], (hY I F sd)) = (if u = 0 then some (some (.int (b / (ydiv a b))), (hY I F sd)) else some (some (.int (a / (ydiv a b))), (hY I F sd))) := by
  refine Eq.trans (b := pm_EV (pm_run mt (d + 1)) (some .int) oX8_fraction (3, [some (.int a), some (.int b), some (.int u), none], [.int (ydiv a b)], (hY I F sd))) (pm_EV_cl 2 (call := pm_run mt (d + 1)) (d := (2, [some (.int a), some (.int b), some (.int u), none], [.int b, .int a], (hY I F sd))) (a := 156) (as := [.int a, .int b]) (hp := (hY I F sd)) (hp2 := (hY I F sd)) (i2 := 3) (ls := [some (.int a), some (.int b), some (.int u), none]) (rest := []) (r := some (.int (ydiv a b))) rfl rfl (sp_X8_divisor (d + 0) I F sd a b g1)) ?_
  refine Eq.trans (pm_EV_at 2 (d := (5, [some (.int a), some (.int b), some (.int u), some (.int (ydiv a b))], [.int u], (hY I F sd))) (x := if u = 0 then .inl (10, [some (.int a), some (.int b), some (.int u), some (.int (ydiv a b))], [], (hY I F sd)) else .inl (6, [some (.int a), some (.int b), some (.int u), some (.int (ydiv a b))], [], (hY I F sd))) rfl rfl) ?_
  refine pm_rc (fun p1 => ?_) (fun p1 => ?_)
  · show pm_EV (pm_run mt (d + 1)) (some .int) oX8_fraction (10, [some (.int a), some (.int b), some (.int u), some (.int (ydiv a b))], [], (hY I F sd)) = _
    refine Eq.trans (b := pm_EV (pm_run mt (d + 1)) (some .int) oX8_fraction (13, [some (.int a), some (.int b), some (.int u), some (.int (ydiv a b))], [.int (b / (ydiv a b))], (hY I F sd))) (pm_EV_nz 2 (d := (12, [some (.int a), some (.int b), some (.int u), some (.int (ydiv a b))], [.int (ydiv a b), .int b], (hY I F sd))) (c1 := (13, [some (.int a), some (.int b), some (.int u), some (.int (ydiv a b))], [.int (b / (ydiv a b))], (hY I F sd))) rfl rfl (g2 p1)) ?_
    exact pm_EV_at 0 (d := (13, [some (.int a), some (.int b), some (.int u), some (.int (ydiv a b))], [.int (b / (ydiv a b))], (hY I F sd))) rfl rfl
  · show pm_EV (pm_run mt (d + 1)) (some .int) oX8_fraction (6, [some (.int a), some (.int b), some (.int u), some (.int (ydiv a b))], [], (hY I F sd)) = _
    refine Eq.trans (b := pm_EV (pm_run mt (d + 1)) (some .int) oX8_fraction (9, [some (.int a), some (.int b), some (.int u), some (.int (ydiv a b))], [.int (a / (ydiv a b))], (hY I F sd))) (pm_EV_nz 2 (d := (8, [some (.int a), some (.int b), some (.int u), some (.int (ydiv a b))], [.int (ydiv a b), .int a], (hY I F sd))) (c1 := (9, [some (.int a), some (.int b), some (.int u), some (.int (ydiv a b))], [.int (a / (ydiv a b))], (hY I F sd))) rfl rfl (g3 p1)) ?_
    exact pm_EV_at 1 (d := (13, [some (.int a), some (.int b), some (.int u), some (.int (ydiv a b))], [.int (a / (ydiv a b))], (hY I F sd))) rfl rfl
set_option maxRecDepth 100000 in
set_option maxHeartbeats 4000000 in
theorem en_X8_fraction (d : Nat) (I : Nat → Int32) (F : Nat → Nat → Int32) (sd : Int64) (a : Int32) (b : Int32) (u : Int32) : pm_run mt (d + 2) 157 [.int a, .int b, .int u] (hY I F sd) = pm_EV (pm_run mt (d + 1)) (some .int) oX8_fraction (0, [some (.int a), some (.int b), some (.int u), none], [], (hY I F sd)) := rfl
set_option maxRecDepth 100000 in
set_option maxHeartbeats 4000000 in
theorem sp_X8_fraction (d : Nat) (I : Nat → Int32) (F : Nat → Nat → Int32) (sd : Int64) (a : Int32) (b : Int32) (u : Int32) (h1 : frOk a b) : pm_run mt (d + 2) 157 [.int a, .int b, .int u] (hY I F sd) = some (some (.int (xtold a b u)), (hY I F sd)) := by
  obtain ⟨x, y, hx, hy0, hy, rfl, rfl⟩ := id h1
  have hg : 0 < Nat.gcd x y := Nat.gcd_pos_of_pos_right _ hy0
  have hg2 : Nat.gcd x y < 2 ^ 31 := Nat.lt_of_le_of_lt (Nat.le_of_dvd hy0 (Nat.gcd_dvd_right x y)) (by omega)
  have e : ydiv (nI x) (nI y) = nI (Nat.gcd x y) := by unfold ydiv; rw [nI_clamp hx, nI_clamp (by omega)]
  rw [en_X8_fraction, tr_X8_fraction_0 _ _ _ _ _ _ _ h1 (fun _ => by rw [e]; exact nI_ne0 hg hg2) (fun _ => by rw [e]; exact nI_ne0 hg hg2), e, pk_div (by omega) hg hg2, pk_div hx hg hg2]
  unfold xtold
  rw [nI_clamp hx, nI_clamp (by omega)]
  simp only [pm_pi]
def mvA (p : Nat → Int32) (n t q : Int32) : Bool := inr t n && !decide (p (12 + t).toNatClampNeg = q)
def mvF (p : Nat → Int32) (n t q : Int32) : Nat → Int32 := if inr t n = true ∧ ¬ p (12 + t).toNatClampNeg = q then upd p (12 + t).toNatClampNeg q else p
def spF (p : Nat → Int32) (q : Int32) : Nat → Int32 := upd p 17 (p 17 ||| ((1 : Int32) <<< (q &&& 31)))
theorem bI_n (b : Bool) : (bI (!b) = 0) = (b = true) := by cases b <;> decide +kernel
theorem inr_wk {t n : Int32} {a : Nat} (hn : inr n (nI (a + 1)) = true) (ha : a < 100) (h : inr t n = true) : inr t (nI a) = true := by
  obtain ⟨k, hk, rfl⟩ := inr_nI (by omega) hn
  obtain ⟨j, hj, rfl⟩ := inr_nI (by omega) h
  exact inr_mk (by omega) (by omega)
set_option maxRecDepth 100000 in
set_option maxHeartbeats 4000000 in
theorem tr_X8_moves_0_0 (d : Nat) (I : Nat → Int32) (F : Nat → Nat → Int32) (sd : Int64) (t : Int32) (p : Int32) (g1 : inr ((I 7)) 6 = true) (g2 : ((bI (!inr t ((I 7)))) = 0) → pm_in (12 + t) 21 = true) (g3 : ((bI (!inr t ((I 7)))) = 0) → (¬ (((F 6) (12 + t).toNatClampNeg) = p)) → pm_in (12 + t) 21 = true) : pm_EV (pm_run mt (d + 2)) (some .boolean) oX8_moves (0, [some (.ref 0), some (.int t), some (.int p), none], [], (hY I F sd)) = (if (bI (!inr t ((I 7)))) = 0 then (if ((F 6) (12 + t).toNatClampNeg) = p then some (some (.int 0), (hY I F sd)) else some (some (.int 1), (hY I (uF F 6 (upd (F 6) (12 + t).toNatClampNeg p)) sd))) else some (some (.int 0), (hY I F sd))) := by
  refine Eq.trans (b := pm_EV (pm_run mt (d + 2)) (some .boolean) oX8_moves (3, [some (.ref 0), some (.int t), some (.int p), none], [.int (bI (!inr t ((I 7))))], (hY I F sd))) (pm_EV_cl 2 (call := pm_run mt (d + 2)) (d := (2, [some (.ref 0), some (.int t), some (.int p), none], [.int t, .ref 0], (hY I F sd))) (a := 112) (as := [.ref 0, .int t]) (hp := (hY I F sd)) (hp2 := (hY I F sd)) (i2 := 3) (ls := [some (.ref 0), some (.int t), some (.int p), none]) (rest := []) (r := some (.int (bI (!inr t ((I 7)))))) rfl rfl (sp_X8_noThing_0 (d + 0) I F sd t g1)) ?_
  refine Eq.trans (pm_EV_at 0 (d := (3, [some (.ref 0), some (.int t), some (.int p), none], [.int (bI (!inr t ((I 7))))], (hY I F sd))) (x := if (bI (!inr t ((I 7)))) = 0 then .inl (4, [some (.ref 0), some (.int t), some (.int p), none], [], (hY I F sd)) else .inl (14, [some (.ref 0), some (.int t), some (.int p), none], [], (hY I F sd))) rfl rfl) ?_
  refine pm_rc (fun p1 => ?_) (fun p1 => ?_)
  · show pm_EV (pm_run mt (d + 2)) (some .boolean) oX8_moves (4, [some (.ref 0), some (.int t), some (.int p), none], [], (hY I F sd)) = _
    refine Eq.trans (b := pm_EV (pm_run mt (d + 2)) (some .boolean) oX8_moves (10, [some (.ref 0), some (.int t), some (.int p), none], [.int ((F 6) (12 + t).toNatClampNeg)], (hY I F sd))) (pm_EV_gd 5 (d := (9, [some (.ref 0), some (.int t), some (.int p), none], [.int (12 + t), .ref 6], (hY I F sd))) (c1 := (10, [some (.ref 0), some (.int t), some (.int p), none], [.int ((F 6) (12 + t).toNatClampNeg)], (hY I F sd))) rfl rfl (⟨rfl, g2 p1⟩)) ?_
    refine Eq.trans (pm_EV_at 1 (d := (11, [some (.ref 0), some (.int t), some (.int p), none], [.int p, .int ((F 6) (12 + t).toNatClampNeg)], (hY I F sd))) (x := if ((F 6) (12 + t).toNatClampNeg) = p then .inl (14, [some (.ref 0), some (.int t), some (.int p), none], [], (hY I F sd)) else .inl (12, [some (.ref 0), some (.int t), some (.int p), none], [], (hY I F sd))) rfl rfl) ?_
    refine pm_rc (fun p2 => ?_) (fun p2 => ?_)
    · show pm_EV (pm_run mt (d + 2)) (some .boolean) oX8_moves (14, [some (.ref 0), some (.int t), some (.int p), none], [], (hY I F sd)) = _
      exact pm_EV_at 5 (d := (26, [some (.ref 0), some (.int t), some (.int p), some (.int 0)], [.int 0], (hY I F sd))) rfl rfl
    · show pm_EV (pm_run mt (d + 2)) (some .boolean) oX8_moves (12, [some (.ref 0), some (.int t), some (.int p), none], [], (hY I F sd)) = _
      refine Eq.trans (b := pm_EV (pm_run mt (d + 2)) (some .boolean) oX8_moves (25, [some (.ref 0), some (.int t), some (.int p), some (.int 1)], [], ((hY I F sd)).set 6 (.inl (0, 21, .inl (upd (F 6) (12 + t).toNatClampNeg p))))) (pm_EV_gd 11 (d := (24, [some (.ref 0), some (.int t), some (.int p), some (.int 1)], [.int p, .int (12 + t), .ref 6], (hY I F sd))) (c1 := (25, [some (.ref 0), some (.int t), some (.int p), some (.int 1)], [], ((hY I F sd)).set 6 (.inl (0, 21, .inl (upd (F 6) (12 + t).toNatClampNeg p))))) rfl rfl ⟨rfl, g3 p1 p2⟩) ?_
      refine Eq.trans (b := pm_EV (pm_run mt (d + 2)) (some .boolean) oX8_moves (25, [some (.ref 0), some (.int t), some (.int p), some (.int 1)], [], (hY I (uF F 6 (upd (F 6) (12 + t).toNatClampNeg p)) sd))) (congrArg (fun hz => pm_EV (pm_run mt (d + 2)) (some .boolean) oX8_moves (25, [some (.ref 0), some (.int t), some (.int p), some (.int 1)], [], hz)) (hY_s6 I F sd (upd (F 6) (12 + t).toNatClampNeg p))) ?_
      exact pm_EV_at 1 (d := (26, [some (.ref 0), some (.int t), some (.int p), some (.int 1)], [.int 1], (hY I (uF F 6 (upd (F 6) (12 + t).toNatClampNeg p)) sd))) rfl rfl
  · show pm_EV (pm_run mt (d + 2)) (some .boolean) oX8_moves (14, [some (.ref 0), some (.int t), some (.int p), none], [], (hY I F sd)) = _
    exact pm_EV_at 5 (d := (26, [some (.ref 0), some (.int t), some (.int p), some (.int 0)], [.int 0], (hY I F sd))) rfl rfl
set_option maxRecDepth 100000 in
set_option maxHeartbeats 4000000 in
theorem en_X8_moves_0 (d : Nat) (I : Nat → Int32) (F : Nat → Nat → Int32) (sd : Int64) (t : Int32) (p : Int32) : pm_run mt (d + 3) 151 [.ref 0, .int t, .int p] (hY I F sd) = pm_EV (pm_run mt (d + 2)) (some .boolean) oX8_moves (0, [some (.ref 0), some (.int t), some (.int p), none], [], (hY I F sd)) := rfl
set_option maxRecDepth 100000 in
set_option maxHeartbeats 4000000 in
theorem sp_X8_moves_0 (d : Nat) (I : Nat → Int32) (F : Nat → Nat → Int32) (sd : Int64) (t : Int32) (p : Int32) (h1 : inr (I 7) 6 = true) : pm_run mt (d + 3) 151 [.ref 0, .int t, .int p] (hY I F sd) = some (some (.int (bI (mvA (F 6) (I 7) t p))), (hY I (uF F 6 (mvF (F 6) (I 7) t p)) sd)) := by
  have g : bI (!inr t (I 7)) = 0 → pm_in (12 + t) 21 = true := fun h => in_add (a := 12) (n := 5) (by decide) (by decide) (inr_wk (a := 5) h1 (by decide) (by rw [bI_n] at h; exact h))
  rw [en_X8_moves_0, tr_X8_moves_0_0 _ _ _ _ _ _ h1 g (fun h _ => g h)]
  simp only [bI_n]
  unfold mvA mvF bI
  cases c1 : inr t (I 7)
  · simp [uF_self]
  · by_cases c2 : F 6 (12 + t).toNatClampNeg = p
    · simp [c2, uF_self]
    · simp [c2]
set_option maxRecDepth 100000 in
set_option maxHeartbeats 4000000 in
theorem tr_X8_sprinkles_0_0 (d : Nat) (I : Nat → Int32) (F : Nat → Nat → Int32) (sd : Int64) (p : Int32) : pm_EV (pm_run mt (d + 1)) (some .boolean) oX8_sprinkles (0, [some (.ref 0), some (.int p), none], [], (hY I F sd)) = (if (bI (yhas ((F 6) 17) p)) = 0 then some (some (.int 1), (hY I (uF F 6 (upd (F 6) 17 (((F 6) 17) ||| ((1 : Int32) <<< (p &&& 31))))) sd)) else some (some (.int 0), (hY I (uF F 6 (upd (F 6) 17 (((F 6) 17) ||| ((1 : Int32) <<< (p &&& 31))))) sd))) := by
  refine Eq.trans (b := pm_EV (pm_run mt (d + 1)) (some .boolean) oX8_sprinkles (6, [some (.ref 0), some (.int p), none], [.int (bI (yhas ((F 6) 17) p))], (hY I F sd))) (pm_EV_cl 5 (call := pm_run mt (d + 1)) (d := (5, [some (.ref 0), some (.int p), none], [.int p, .int ((F 6) 17)], (hY I F sd))) (a := 107) (as := [.int ((F 6) 17), .int p]) (hp := (hY I F sd)) (hp2 := (hY I F sd)) (i2 := 6) (ls := [some (.ref 0), some (.int p), none]) (rest := []) (r := some (.int (bI (yhas ((F 6) 17) p)))) rfl rfl (sp_X8_has (d + 0) I F sd ((F 6) 17) p )) ?_
  refine Eq.trans (pm_EV_at 0 (d := (6, [some (.ref 0), some (.int p), none], [.int (bI (yhas ((F 6) 17) p))], (hY I F sd))) (x := if (bI (yhas ((F 6) 17) p)) = 0 then .inl (7, [some (.ref 0), some (.int p), none], [], (hY I F sd)) else .inl (9, [some (.ref 0), some (.int p), none], [], (hY I F sd))) rfl rfl) ?_
  refine pm_rc (fun p1 => ?_) (fun p1 => ?_)
  · show pm_EV (pm_run mt (d + 1)) (some .boolean) oX8_sprinkles (7, [some (.ref 0), some (.int p), none], [], (hY I F sd)) = _
    refine Eq.trans (b := pm_EV (pm_run mt (d + 1)) (some .boolean) oX8_sprinkles (21, [some (.ref 0), some (.int p), some (.int 1)], [], ((hY I F sd)).set 6 (.inl (0, 21, .inl (upd (F 6) 17 (((F 6) 17) ||| ((1 : Int32) <<< (p &&& 31)))))))) (pm_EV_go 13 (d := (21, [some (.ref 0), some (.int p), some (.int 1)], [], ((hY I F sd)).set 6 (.inl (0, 21, .inl (upd (F 6) 17 (((F 6) 17) ||| ((1 : Int32) <<< (p &&& 31)))))))) rfl) ?_
    refine Eq.trans (b := pm_EV (pm_run mt (d + 1)) (some .boolean) oX8_sprinkles (21, [some (.ref 0), some (.int p), some (.int 1)], [], (hY I (uF F 6 (upd (F 6) 17 (((F 6) 17) ||| ((1 : Int32) <<< (p &&& 31))))) sd))) (congrArg (fun hz => pm_EV (pm_run mt (d + 1)) (some .boolean) oX8_sprinkles (21, [some (.ref 0), some (.int p), some (.int 1)], [], hz)) (hY_s6 I F sd (upd (F 6) 17 (((F 6) 17) ||| ((1 : Int32) <<< (p &&& 31)))))) ?_
    exact pm_EV_at 1 (d := (22, [some (.ref 0), some (.int p), some (.int 1)], [.int 1], (hY I (uF F 6 (upd (F 6) 17 (((F 6) 17) ||| ((1 : Int32) <<< (p &&& 31))))) sd))) rfl rfl
  · show pm_EV (pm_run mt (d + 1)) (some .boolean) oX8_sprinkles (9, [some (.ref 0), some (.int p), none], [], (hY I F sd)) = _
    refine Eq.trans (b := pm_EV (pm_run mt (d + 1)) (some .boolean) oX8_sprinkles (21, [some (.ref 0), some (.int p), some (.int 0)], [], ((hY I F sd)).set 6 (.inl (0, 21, .inl (upd (F 6) 17 (((F 6) 17) ||| ((1 : Int32) <<< (p &&& 31)))))))) (pm_EV_go 12 (d := (21, [some (.ref 0), some (.int p), some (.int 0)], [], ((hY I F sd)).set 6 (.inl (0, 21, .inl (upd (F 6) 17 (((F 6) 17) ||| ((1 : Int32) <<< (p &&& 31)))))))) rfl) ?_
    refine Eq.trans (b := pm_EV (pm_run mt (d + 1)) (some .boolean) oX8_sprinkles (21, [some (.ref 0), some (.int p), some (.int 0)], [], (hY I (uF F 6 (upd (F 6) 17 (((F 6) 17) ||| ((1 : Int32) <<< (p &&& 31))))) sd))) (congrArg (fun hz => pm_EV (pm_run mt (d + 1)) (some .boolean) oX8_sprinkles (21, [some (.ref 0), some (.int p), some (.int 0)], [], hz)) (hY_s6 I F sd (upd (F 6) 17 (((F 6) 17) ||| ((1 : Int32) <<< (p &&& 31)))))) ?_
    exact pm_EV_at 1 (d := (22, [some (.ref 0), some (.int p), some (.int 0)], [.int 0], (hY I (uF F 6 (upd (F 6) 17 (((F 6) 17) ||| ((1 : Int32) <<< (p &&& 31))))) sd))) rfl rfl
set_option maxRecDepth 100000 in
set_option maxHeartbeats 4000000 in
theorem en_X8_sprinkles_0 (d : Nat) (I : Nat → Int32) (F : Nat → Nat → Int32) (sd : Int64) (p : Int32) : pm_run mt (d + 2) 152 [.ref 0, .int p] (hY I F sd) = pm_EV (pm_run mt (d + 1)) (some .boolean) oX8_sprinkles (0, [some (.ref 0), some (.int p), none], [], (hY I F sd)) := rfl
set_option maxRecDepth 100000 in
set_option maxHeartbeats 4000000 in
theorem sp_X8_sprinkles_0 (d : Nat) (I : Nat → Int32) (F : Nat → Nat → Int32) (sd : Int64) (p : Int32) : pm_run mt (d + 2) 152 [.ref 0, .int p] (hY I F sd) = some (some (.int (bI (!yhas (F 6 17) p))), (hY I (uF F 6 (spF (F 6) p)) sd)) := by
  rw [en_X8_sprinkles_0, tr_X8_sprinkles_0_0]
  simp only [bI_0]
  unfold spF bI
  cases c1 : yhas (F 6 17) p <;> simp
def dsF (K p : Nat → Int32) (nf nt g : Int32) : Nat → Int32 := if g = 0 then pqF K p nf else if g / 100 = 1 then (if inr (dg2 g) nf = true ∧ 0 < dg3 g then ppF p (dg2 g) (dg3 g) else p) else if g / 100 = 2 then (if inr (dg2 g) nf = true ∧ 0 < dg3 g then plF K p (dg2 g) (dg3 g) else p) else if g / 100 = 3 then mvF p nt (dg2 g) (dg3 g) else if g / 100 = 4 then (if dg2 g = 0 then spF p (dg3 g) else p) else p
def dsA (K p : Nat → Int32) (nf nt sk g : Int32) : Bool := if g = 0 then true else if g / 100 = 1 then (inr (dg2 g) nf && (decide (0 < dg3 g) && !decide (999 < p (dg2 g).toNatClampNeg + dg3 g))) else if g / 100 = 2 then (inr (dg2 g) nf && (decide (0 < dg3 g) && !decide (p (dg2 g).toNatClampNeg < pgr K (dg2 g) (dg3 g)))) else if g / 100 = 3 then mvA p nt (dg2 g) (dg3 g) else if g / 100 = 4 then (decide (dg2 g = 0) && !yhas (p 17) (dg3 g)) else if g / 100 = 5 then (decide (dg2 g = 0) && (inr (dg3 g) nt && yhas (pknown p sk nt) (dg3 g))) else if g / 100 = 6 then (decide (dg2 g = 0) && !decide (p 19 < dg3 g)) else false
set_option maxRecDepth 100000 in
set_option maxHeartbeats 4000000 in
theorem tr_X8_does_0_0 (d : Nat) (I : Nat → Int32) (F : Nat → Nat → Int32) (sd : Int64) (g : Int32) (g1 : (g = 0) → inr ((I 5)) 5 = true) (g2 : (¬ (g = 0)) → ((g / 100) = 1) → inr ((I 5)) 5 = true) (g3 : (¬ (g = 0)) → ((g / 100) = 1) → ((bI (!inr ((g / 10) - (g / 10) / 10 * 10) ((I 5)))) = 0) → (0 < (g - g / 10 * 10)) → inr ((g / 10) - (g / 10) / 10 * 10) 4 = true) (g4 : (¬ (g = 0)) → (¬ ((g / 100) = 1)) → ((g / 100) = 2) → inr ((I 5)) 5 = true) (g5 : (¬ (g = 0)) → (¬ ((g / 100) = 1)) → ((g / 100) = 2) → ((bI (!inr ((g / 10) - (g / 10) / 10 * 10) ((I 5)))) = 0) → (0 < (g - g / 10 * 10)) → inr ((g / 10) - (g / 10) / 10 * 10) 4 = true) (g6 : (¬ (g = 0)) → (¬ ((g / 100) = 1)) → (¬ ((g / 100) = 2)) → ((g / 100) = 3) → inr ((I 7)) 6 = true) (g7 : (¬ (g = 0)) → (¬ ((g / 100) = 1)) → (¬ ((g / 100) = 2)) → (¬ ((g / 100) = 3)) → (¬ ((g / 100) = 4)) → ((g / 100) = 5) → (((g / 10) - (g / 10) / 10 * 10) = 0) → inr ((I 7)) 6 = true) (g8 : (¬ (g = 0)) → (¬ ((g / 100) = 1)) → (¬ ((g / 100) = 2)) → (¬ ((g / 100) = 3)) → (¬ ((g / 100) = 4)) → ((g / 100) = 5) → (((g / 10) - (g / 10) / 10 * 10) = 0) → ((bI (!inr (g - g / 10 * 10) ((I 7)))) = 0) → inr ((I 4)) 10 = true) (g9 : (¬ (g = 0)) → (¬ ((g / 100) = 1)) → (¬ ((g / 100) = 2)) → (¬ ((g / 100) = 3)) → (¬ ((g / 100) = 4)) → ((g / 100) = 5) → (((g / 10) - (g / 10) / 10 * 10) = 0) → ((bI (!inr (g - g / 10 * 10) ((I 7)))) = 0) → inr ((F 6) 19) 10 = true) (g10 : (¬ (g = 0)) → (¬ ((g / 100) = 1)) → (¬ ((g / 100) = 2)) → (¬ ((g / 100) = 3)) → (¬ ((g / 100) = 4)) → ((g / 100) = 5) → (((g / 10) - (g / 10) / 10 * 10) = 0) → ((bI (!inr (g - g / 10 * 10) ((I 7)))) = 0) → inr ((I 7)) 6 = true) : pm_EV (pm_run mt (d + 4)) (some .boolean) oX8_does (0, [some (.ref 0), some (.int g), none, none, none], [], (hY I F sd)) = (if g = 0 then some (some (.int 1), (hY I (uF F 6 (pqF ((F 2)) ((F 6)) ((I 5)))) sd)) else (if (g / 100) = 1 then (if (bI (!inr ((g / 10) - (g / 10) / 10 * 10) ((I 5)))) = 0 then (if 0 < (g - g / 10 * 10) then (if (bI (!decide (999 < (F 6) ((g / 10) - (g / 10) / 10 * 10).toNatClampNeg + (g - g / 10 * 10)))) = 0 then some (some (.int 0), (hY I (uF F 6 (ppF ((F 6)) ((g / 10) - (g / 10) / 10 * 10) (g - g / 10 * 10))) sd)) else some (some (.int 1), (hY I (uF F 6 (ppF ((F 6)) ((g / 10) - (g / 10) / 10 * 10) (g - g / 10 * 10))) sd))) else some (some (.int 0), (hY I F sd))) else some (some (.int 0), (hY I F sd))) else (if (g / 100) = 2 then (if (bI (!inr ((g / 10) - (g / 10) / 10 * 10) ((I 5)))) = 0 then (if 0 < (g - g / 10 * 10) then (if (bI (!decide ((F 6) ((g / 10) - (g / 10) / 10 * 10).toNatClampNeg < pgr ((F 2)) ((g / 10) - (g / 10) / 10 * 10) (g - g / 10 * 10)))) = 0 then some (some (.int 0), (hY I (uF F 6 (plF ((F 2)) ((F 6)) ((g / 10) - (g / 10) / 10 * 10) (g - g / 10 * 10))) sd)) else some (some (.int 1), (hY I (uF F 6 (plF ((F 2)) ((F 6)) ((g / 10) - (g / 10) / 10 * 10) (g - g / 10 * 10))) sd))) else some (some (.int 0), (hY I F sd))) else some (some (.int 0), (hY I F sd))) else (if (g / 100) = 3 then some (some (.int (bI (mvA ((F 6)) ((I 7)) ((g / 10) - (g / 10) / 10 * 10) (g - g / 10 * 10)))), (hY I (uF F 6 (mvF ((F 6)) ((I 7)) ((g / 10) - (g / 10) / 10 * 10) (g - g / 10 * 10))) sd)) else (if (g / 100) = 4 then (if ((g / 10) - (g / 10) / 10 * 10) = 0 then (if (bI (!yhas ((F 6) 17) (g - g / 10 * 10))) = 0 then some (some (.int 0), (hY I (uF F 6 (spF ((F 6)) (g - g / 10 * 10))) sd)) else some (some (.int 1), (hY I (uF F 6 (spF ((F 6)) (g - g / 10 * 10))) sd))) else some (some (.int 0), (hY I F sd))) else (if (g / 100) = 5 then (if ((g / 10) - (g / 10) / 10 * 10) = 0 then (if (bI (!inr (g - g / 10 * 10) ((I 7)))) = 0 then (if (bI (yhas (pknown ((F 6)) ((I 4)) ((I 7))) (g - g / 10 * 10))) = 0 then some (some (.int 0), (hY I F sd)) else some (some (.int 1), (hY I F sd))) else some (some (.int 0), (hY I F sd))) else some (some (.int 0), (hY I F sd))) else (if (g / 100) = 6 then (if ((g / 10) - (g / 10) / 10 * 10) = 0 then (if ((F 6) 19) < (g - g / 10 * 10) then some (some (.int 0), (hY I F sd)) else some (some (.int 1), (hY I F sd))) else some (some (.int 0), (hY I F sd))) else some (some (.int 0), (hY I F sd))))))))) := by
  refine Eq.trans (pm_EV_at 15 (d := (15, [some (.ref 0), some (.int g), some (.int (g / 100)), some (.int ((g / 10) - (g / 10) / 10 * 10)), some (.int (g - g / 10 * 10))], [.int g], (hY I F sd))) (x := if g = 0 then .inl (16, [some (.ref 0), some (.int g), some (.int (g / 100)), some (.int ((g / 10) - (g / 10) / 10 * 10)), some (.int (g - g / 10 * 10))], [], (hY I F sd)) else .inl (23, [some (.ref 0), some (.int g), some (.int (g / 100)), some (.int ((g / 10) - (g / 10) / 10 * 10)), some (.int (g - g / 10 * 10))], [], (hY I F sd))) rfl rfl) ?_
  refine pm_rc (fun p1 => ?_) (fun p1 => ?_)
  · show pm_EV (pm_run mt (d + 4)) (some .boolean) oX8_does (16, [some (.ref 0), some (.int g), some (.int (g / 100)), some (.int ((g / 10) - (g / 10) / 10 * 10)), some (.int (g - g / 10 * 10))], [], (hY I F sd)) = _
    refine Eq.trans (b := pm_EV (pm_run mt (d + 4)) (some .boolean) oX8_does (20, [some (.ref 0), some (.int g), some (.int (g / 100)), some (.int ((g / 10) - (g / 10) / 10 * 10)), some (.int (g - g / 10 * 10))], [.int (pqF ((F 2)) ((F 6)) ((I 5)) 19)], (hY I (uF F 6 (pqF ((F 2)) ((F 6)) ((I 5)))) sd))) (pm_EV_cl 3 (call := pm_run mt (d + 4)) (d := (19, [some (.ref 0), some (.int g), some (.int (g / 100)), some (.int ((g / 10) - (g / 10) / 10 * 10)), some (.int (g - g / 10 * 10))], [.ref 6, .ref 0], (hY I F sd))) (a := 130) (as := [.ref 0, .ref 6]) (hp := (hY I F sd)) (hp2 := (hY I (uF F 6 (pqF ((F 2)) ((F 6)) ((I 5)))) sd)) (i2 := 20) (ls := [some (.ref 0), some (.int g), some (.int (g / 100)), some (.int ((g / 10) - (g / 10) / 10 * 10)), some (.int (g - g / 10 * 10))]) (rest := []) (r := some (.int (pqF ((F 2)) ((F 6)) ((I 5)) 19))) rfl rfl (sp_X8_goQuarter_0_6 (d + 0) I F sd  (g1 p1))) ?_
    exact pm_EV_at 2 (d := (22, [some (.ref 0), some (.int g), some (.int (g / 100)), some (.int ((g / 10) - (g / 10) / 10 * 10)), some (.int (g - g / 10 * 10))], [.int 1], (hY I (uF F 6 (pqF ((F 2)) ((F 6)) ((I 5)))) sd))) rfl rfl
  · show pm_EV (pm_run mt (d + 4)) (some .boolean) oX8_does (23, [some (.ref 0), some (.int g), some (.int (g / 100)), some (.int ((g / 10) - (g / 10) / 10 * 10)), some (.int (g - g / 10 * 10))], [], (hY I F sd)) = _
    refine Eq.trans (pm_EV_at 1 (d := (24, [some (.ref 0), some (.int g), some (.int (g / 100)), some (.int ((g / 10) - (g / 10) / 10 * 10)), some (.int (g - g / 10 * 10))], [.int (g / 100)], (hY I F sd))) (x := if (g / 100) = 1 then .inl (25, [some (.ref 0), some (.int g), some (.int (g / 100)), some (.int ((g / 10) - (g / 10) / 10 * 10)), some (.int (g - g / 10 * 10))], [], (hY I F sd)) else if (g / 100) = 2 then .inl (41, [some (.ref 0), some (.int g), some (.int (g / 100)), some (.int ((g / 10) - (g / 10) / 10 * 10)), some (.int (g - g / 10 * 10))], [], (hY I F sd)) else if (g / 100) = 3 then .inl (58, [some (.ref 0), some (.int g), some (.int (g / 100)), some (.int ((g / 10) - (g / 10) / 10 * 10)), some (.int (g - g / 10 * 10))], [], (hY I F sd)) else if (g / 100) = 4 then .inl (63, [some (.ref 0), some (.int g), some (.int (g / 100)), some (.int ((g / 10) - (g / 10) / 10 * 10)), some (.int (g - g / 10 * 10))], [], (hY I F sd)) else if (g / 100) = 5 then .inl (73, [some (.ref 0), some (.int g), some (.int (g / 100)), some (.int ((g / 10) - (g / 10) / 10 * 10)), some (.int (g - g / 10 * 10))], [], (hY I F sd)) else .inl (90, [some (.ref 0), some (.int g), some (.int (g / 100)), some (.int ((g / 10) - (g / 10) / 10 * 10)), some (.int (g - g / 10 * 10))], [], (hY I F sd))) rfl rfl) ?_
    refine pm_rc (fun p2 => ?_) (fun p2 => ?_)
    · show pm_EV (pm_run mt (d + 4)) (some .boolean) oX8_does (25, [some (.ref 0), some (.int g), some (.int (g / 100)), some (.int ((g / 10) - (g / 10) / 10 * 10)), some (.int (g - g / 10 * 10))], [], (hY I F sd)) = _
      refine Eq.trans (b := pm_EV (pm_run mt (d + 4)) (some .boolean) oX8_does (28, [some (.ref 0), some (.int g), some (.int (g / 100)), some (.int ((g / 10) - (g / 10) / 10 * 10)), some (.int (g - g / 10 * 10))], [.int (bI (!inr ((g / 10) - (g / 10) / 10 * 10) ((I 5))))], (hY I F sd))) (pm_EV_cl 2 (call := pm_run mt (d + 4)) (d := (27, [some (.ref 0), some (.int g), some (.int (g / 100)), some (.int ((g / 10) - (g / 10) / 10 * 10)), some (.int (g - g / 10 * 10))], [.int ((g / 10) - (g / 10) / 10 * 10), .ref 0], (hY I F sd))) (a := 111) (as := [.ref 0, .int ((g / 10) - (g / 10) / 10 * 10)]) (hp := (hY I F sd)) (hp2 := (hY I F sd)) (i2 := 28) (ls := [some (.ref 0), some (.int g), some (.int (g / 100)), some (.int ((g / 10) - (g / 10) / 10 * 10)), some (.int (g - g / 10 * 10))]) (rest := []) (r := some (.int (bI (!inr ((g / 10) - (g / 10) / 10 * 10) ((I 5)))))) rfl rfl (sp_X8_noFood_0 (d + 2) I F sd ((g / 10) - (g / 10) / 10 * 10) (g2 p1 p2))) ?_
      refine Eq.trans (pm_EV_at 0 (d := (28, [some (.ref 0), some (.int g), some (.int (g / 100)), some (.int ((g / 10) - (g / 10) / 10 * 10)), some (.int (g - g / 10 * 10))], [.int (bI (!inr ((g / 10) - (g / 10) / 10 * 10) ((I 5))))], (hY I F sd))) (x := if (bI (!inr ((g / 10) - (g / 10) / 10 * 10) ((I 5)))) = 0 then .inl (29, [some (.ref 0), some (.int g), some (.int (g / 100)), some (.int ((g / 10) - (g / 10) / 10 * 10)), some (.int (g - g / 10 * 10))], [], (hY I F sd)) else .inl (39, [some (.ref 0), some (.int g), some (.int (g / 100)), some (.int ((g / 10) - (g / 10) / 10 * 10)), some (.int (g - g / 10 * 10))], [], (hY I F sd))) rfl rfl) ?_
      refine pm_rc (fun p3 => ?_) (fun p3 => ?_)
      · show pm_EV (pm_run mt (d + 4)) (some .boolean) oX8_does (29, [some (.ref 0), some (.int g), some (.int (g / 100)), some (.int ((g / 10) - (g / 10) / 10 * 10)), some (.int (g - g / 10 * 10))], [], (hY I F sd)) = _
        refine Eq.trans (pm_EV_at 1 (d := (30, [some (.ref 0), some (.int g), some (.int (g / 100)), some (.int ((g / 10) - (g / 10) / 10 * 10)), some (.int (g - g / 10 * 10))], [.int (g - g / 10 * 10)], (hY I F sd))) (x := if 0 < (g - g / 10 * 10) then .inl (31, [some (.ref 0), some (.int g), some (.int (g / 100)), some (.int ((g / 10) - (g / 10) / 10 * 10)), some (.int (g - g / 10 * 10))], [], (hY I F sd)) else .inl (39, [some (.ref 0), some (.int g), some (.int (g / 100)), some (.int ((g / 10) - (g / 10) / 10 * 10)), some (.int (g - g / 10 * 10))], [], (hY I F sd))) rfl rfl) ?_
        refine pm_rc (fun p4 => ?_) (fun p4 => ?_)
        · show pm_EV (pm_run mt (d + 4)) (some .boolean) oX8_does (31, [some (.ref 0), some (.int g), some (.int (g / 100)), some (.int ((g / 10) - (g / 10) / 10 * 10)), some (.int (g - g / 10 * 10))], [], (hY I F sd)) = _
          refine Eq.trans (b := pm_EV (pm_run mt (d + 4)) (some .boolean) oX8_does (36, [some (.ref 0), some (.int g), some (.int (g / 100)), some (.int ((g / 10) - (g / 10) / 10 * 10)), some (.int (g - g / 10 * 10))], [.int (bI (!decide (999 < (F 6) ((g / 10) - (g / 10) / 10 * 10).toNatClampNeg + (g - g / 10 * 10))))], (hY I (uF F 6 (ppF ((F 6)) ((g / 10) - (g / 10) / 10 * 10) (g - g / 10 * 10))) sd))) (pm_EV_cl 4 (call := pm_run mt (d + 4)) (d := (35, [some (.ref 0), some (.int g), some (.int (g / 100)), some (.int ((g / 10) - (g / 10) / 10 * 10)), some (.int (g - g / 10 * 10))], [.int (g - g / 10 * 10), .int ((g / 10) - (g / 10) / 10 * 10), .ref 6], (hY I F sd))) (a := 137) (as := [.ref 6, .int ((g / 10) - (g / 10) / 10 * 10), .int (g - g / 10 * 10)]) (hp := (hY I F sd)) (hp2 := (hY I (uF F 6 (ppF ((F 6)) ((g / 10) - (g / 10) / 10 * 10) (g - g / 10 * 10))) sd)) (i2 := 36) (ls := [some (.ref 0), some (.int g), some (.int (g / 100)), some (.int ((g / 10) - (g / 10) / 10 * 10)), some (.int (g - g / 10 * 10))]) (rest := []) (r := some (.int (bI (!decide (999 < (F 6) ((g / 10) - (g / 10) / 10 * 10).toNatClampNeg + (g - g / 10 * 10)))))) rfl rfl (sp_X8_goPut_6 (d + 3) I F sd ((g / 10) - (g / 10) / 10 * 10) (g - g / 10 * 10) (g3 p1 p2 p3 p4))) ?_
          refine Eq.trans (pm_EV_at 0 (d := (36, [some (.ref 0), some (.int g), some (.int (g / 100)), some (.int ((g / 10) - (g / 10) / 10 * 10)), some (.int (g - g / 10 * 10))], [.int (bI (!decide (999 < (F 6) ((g / 10) - (g / 10) / 10 * 10).toNatClampNeg + (g - g / 10 * 10))))], (hY I (uF F 6 (ppF ((F 6)) ((g / 10) - (g / 10) / 10 * 10) (g - g / 10 * 10))) sd))) (x := if (bI (!decide (999 < (F 6) ((g / 10) - (g / 10) / 10 * 10).toNatClampNeg + (g - g / 10 * 10)))) = 0 then .inl (39, [some (.ref 0), some (.int g), some (.int (g / 100)), some (.int ((g / 10) - (g / 10) / 10 * 10)), some (.int (g - g / 10 * 10))], [], (hY I (uF F 6 (ppF ((F 6)) ((g / 10) - (g / 10) / 10 * 10) (g - g / 10 * 10))) sd)) else .inl (37, [some (.ref 0), some (.int g), some (.int (g / 100)), some (.int ((g / 10) - (g / 10) / 10 * 10)), some (.int (g - g / 10 * 10))], [], (hY I (uF F 6 (ppF ((F 6)) ((g / 10) - (g / 10) / 10 * 10) (g - g / 10 * 10))) sd))) rfl rfl) ?_
          refine pm_rc (fun p5 => ?_) (fun p5 => ?_)
          · show pm_EV (pm_run mt (d + 4)) (some .boolean) oX8_does (39, [some (.ref 0), some (.int g), some (.int (g / 100)), some (.int ((g / 10) - (g / 10) / 10 * 10)), some (.int (g - g / 10 * 10))], [], (hY I (uF F 6 (ppF ((F 6)) ((g / 10) - (g / 10) / 10 * 10) (g - g / 10 * 10))) sd)) = _
            exact pm_EV_at 1 (d := (40, [some (.ref 0), some (.int g), some (.int (g / 100)), some (.int ((g / 10) - (g / 10) / 10 * 10)), some (.int (g - g / 10 * 10))], [.int 0], (hY I (uF F 6 (ppF ((F 6)) ((g / 10) - (g / 10) / 10 * 10) (g - g / 10 * 10))) sd))) rfl rfl
          · show pm_EV (pm_run mt (d + 4)) (some .boolean) oX8_does (37, [some (.ref 0), some (.int g), some (.int (g / 100)), some (.int ((g / 10) - (g / 10) / 10 * 10)), some (.int (g - g / 10 * 10))], [], (hY I (uF F 6 (ppF ((F 6)) ((g / 10) - (g / 10) / 10 * 10) (g - g / 10 * 10))) sd)) = _
            exact pm_EV_at 2 (d := (40, [some (.ref 0), some (.int g), some (.int (g / 100)), some (.int ((g / 10) - (g / 10) / 10 * 10)), some (.int (g - g / 10 * 10))], [.int 1], (hY I (uF F 6 (ppF ((F 6)) ((g / 10) - (g / 10) / 10 * 10) (g - g / 10 * 10))) sd))) rfl rfl
        · show pm_EV (pm_run mt (d + 4)) (some .boolean) oX8_does (39, [some (.ref 0), some (.int g), some (.int (g / 100)), some (.int ((g / 10) - (g / 10) / 10 * 10)), some (.int (g - g / 10 * 10))], [], (hY I F sd)) = _
          exact pm_EV_at 1 (d := (40, [some (.ref 0), some (.int g), some (.int (g / 100)), some (.int ((g / 10) - (g / 10) / 10 * 10)), some (.int (g - g / 10 * 10))], [.int 0], (hY I F sd))) rfl rfl
      · show pm_EV (pm_run mt (d + 4)) (some .boolean) oX8_does (39, [some (.ref 0), some (.int g), some (.int (g / 100)), some (.int ((g / 10) - (g / 10) / 10 * 10)), some (.int (g - g / 10 * 10))], [], (hY I F sd)) = _
        exact pm_EV_at 1 (d := (40, [some (.ref 0), some (.int g), some (.int (g / 100)), some (.int ((g / 10) - (g / 10) / 10 * 10)), some (.int (g - g / 10 * 10))], [.int 0], (hY I F sd))) rfl rfl
    · refine pm_rc (fun p3 => ?_) (fun p3 => ?_)
      · show pm_EV (pm_run mt (d + 4)) (some .boolean) oX8_does (41, [some (.ref 0), some (.int g), some (.int (g / 100)), some (.int ((g / 10) - (g / 10) / 10 * 10)), some (.int (g - g / 10 * 10))], [], (hY I F sd)) = _
        refine Eq.trans (b := pm_EV (pm_run mt (d + 4)) (some .boolean) oX8_does (44, [some (.ref 0), some (.int g), some (.int (g / 100)), some (.int ((g / 10) - (g / 10) / 10 * 10)), some (.int (g - g / 10 * 10))], [.int (bI (!inr ((g / 10) - (g / 10) / 10 * 10) ((I 5))))], (hY I F sd))) (pm_EV_cl 2 (call := pm_run mt (d + 4)) (d := (43, [some (.ref 0), some (.int g), some (.int (g / 100)), some (.int ((g / 10) - (g / 10) / 10 * 10)), some (.int (g - g / 10 * 10))], [.int ((g / 10) - (g / 10) / 10 * 10), .ref 0], (hY I F sd))) (a := 111) (as := [.ref 0, .int ((g / 10) - (g / 10) / 10 * 10)]) (hp := (hY I F sd)) (hp2 := (hY I F sd)) (i2 := 44) (ls := [some (.ref 0), some (.int g), some (.int (g / 100)), some (.int ((g / 10) - (g / 10) / 10 * 10)), some (.int (g - g / 10 * 10))]) (rest := []) (r := some (.int (bI (!inr ((g / 10) - (g / 10) / 10 * 10) ((I 5)))))) rfl rfl (sp_X8_noFood_0 (d + 2) I F sd ((g / 10) - (g / 10) / 10 * 10) (g4 p1 p2 p3))) ?_
        refine Eq.trans (pm_EV_at 0 (d := (44, [some (.ref 0), some (.int g), some (.int (g / 100)), some (.int ((g / 10) - (g / 10) / 10 * 10)), some (.int (g - g / 10 * 10))], [.int (bI (!inr ((g / 10) - (g / 10) / 10 * 10) ((I 5))))], (hY I F sd))) (x := if (bI (!inr ((g / 10) - (g / 10) / 10 * 10) ((I 5)))) = 0 then .inl (45, [some (.ref 0), some (.int g), some (.int (g / 100)), some (.int ((g / 10) - (g / 10) / 10 * 10)), some (.int (g - g / 10 * 10))], [], (hY I F sd)) else .inl (56, [some (.ref 0), some (.int g), some (.int (g / 100)), some (.int ((g / 10) - (g / 10) / 10 * 10)), some (.int (g - g / 10 * 10))], [], (hY I F sd))) rfl rfl) ?_
        refine pm_rc (fun p4 => ?_) (fun p4 => ?_)
        · show pm_EV (pm_run mt (d + 4)) (some .boolean) oX8_does (45, [some (.ref 0), some (.int g), some (.int (g / 100)), some (.int ((g / 10) - (g / 10) / 10 * 10)), some (.int (g - g / 10 * 10))], [], (hY I F sd)) = _
          refine Eq.trans (pm_EV_at 1 (d := (46, [some (.ref 0), some (.int g), some (.int (g / 100)), some (.int ((g / 10) - (g / 10) / 10 * 10)), some (.int (g - g / 10 * 10))], [.int (g - g / 10 * 10)], (hY I F sd))) (x := if 0 < (g - g / 10 * 10) then .inl (47, [some (.ref 0), some (.int g), some (.int (g / 100)), some (.int ((g / 10) - (g / 10) / 10 * 10)), some (.int (g - g / 10 * 10))], [], (hY I F sd)) else .inl (56, [some (.ref 0), some (.int g), some (.int (g / 100)), some (.int ((g / 10) - (g / 10) / 10 * 10)), some (.int (g - g / 10 * 10))], [], (hY I F sd))) rfl rfl) ?_
          refine pm_rc (fun p5 => ?_) (fun p5 => ?_)
          · show pm_EV (pm_run mt (d + 4)) (some .boolean) oX8_does (47, [some (.ref 0), some (.int g), some (.int (g / 100)), some (.int ((g / 10) - (g / 10) / 10 * 10)), some (.int (g - g / 10 * 10))], [], (hY I F sd)) = _
            refine Eq.trans (b := pm_EV (pm_run mt (d + 4)) (some .boolean) oX8_does (53, [some (.ref 0), some (.int g), some (.int (g / 100)), some (.int ((g / 10) - (g / 10) / 10 * 10)), some (.int (g - g / 10 * 10))], [.int (bI (!decide ((F 6) ((g / 10) - (g / 10) / 10 * 10).toNatClampNeg < pgr ((F 2)) ((g / 10) - (g / 10) / 10 * 10) (g - g / 10 * 10))))], (hY I (uF F 6 (plF ((F 2)) ((F 6)) ((g / 10) - (g / 10) / 10 * 10) (g - g / 10 * 10))) sd))) (pm_EV_cl 5 (call := pm_run mt (d + 4)) (d := (52, [some (.ref 0), some (.int g), some (.int (g / 100)), some (.int ((g / 10) - (g / 10) / 10 * 10)), some (.int (g - g / 10 * 10))], [.int (g - g / 10 * 10), .int ((g / 10) - (g / 10) / 10 * 10), .ref 6, .ref 0], (hY I F sd))) (a := 139) (as := [.ref 0, .ref 6, .int ((g / 10) - (g / 10) / 10 * 10), .int (g - g / 10 * 10)]) (hp := (hY I F sd)) (hp2 := (hY I (uF F 6 (plF ((F 2)) ((F 6)) ((g / 10) - (g / 10) / 10 * 10) (g - g / 10 * 10))) sd)) (i2 := 53) (ls := [some (.ref 0), some (.int g), some (.int (g / 100)), some (.int ((g / 10) - (g / 10) / 10 * 10)), some (.int (g - g / 10 * 10))]) (rest := []) (r := some (.int (bI (!decide ((F 6) ((g / 10) - (g / 10) / 10 * 10).toNatClampNeg < pgr ((F 2)) ((g / 10) - (g / 10) / 10 * 10) (g - g / 10 * 10)))))) rfl rfl (sp_X8_goLeave_0_6 (d + 2) I F sd ((g / 10) - (g / 10) / 10 * 10) (g - g / 10 * 10) (g5 p1 p2 p3 p4 p5))) ?_
            refine Eq.trans (pm_EV_at 0 (d := (53, [some (.ref 0), some (.int g), some (.int (g / 100)), some (.int ((g / 10) - (g / 10) / 10 * 10)), some (.int (g - g / 10 * 10))], [.int (bI (!decide ((F 6) ((g / 10) - (g / 10) / 10 * 10).toNatClampNeg < pgr ((F 2)) ((g / 10) - (g / 10) / 10 * 10) (g - g / 10 * 10))))], (hY I (uF F 6 (plF ((F 2)) ((F 6)) ((g / 10) - (g / 10) / 10 * 10) (g - g / 10 * 10))) sd))) (x := if (bI (!decide ((F 6) ((g / 10) - (g / 10) / 10 * 10).toNatClampNeg < pgr ((F 2)) ((g / 10) - (g / 10) / 10 * 10) (g - g / 10 * 10)))) = 0 then .inl (56, [some (.ref 0), some (.int g), some (.int (g / 100)), some (.int ((g / 10) - (g / 10) / 10 * 10)), some (.int (g - g / 10 * 10))], [], (hY I (uF F 6 (plF ((F 2)) ((F 6)) ((g / 10) - (g / 10) / 10 * 10) (g - g / 10 * 10))) sd)) else .inl (54, [some (.ref 0), some (.int g), some (.int (g / 100)), some (.int ((g / 10) - (g / 10) / 10 * 10)), some (.int (g - g / 10 * 10))], [], (hY I (uF F 6 (plF ((F 2)) ((F 6)) ((g / 10) - (g / 10) / 10 * 10) (g - g / 10 * 10))) sd))) rfl rfl) ?_
            refine pm_rc (fun p6 => ?_) (fun p6 => ?_)
            · show pm_EV (pm_run mt (d + 4)) (some .boolean) oX8_does (56, [some (.ref 0), some (.int g), some (.int (g / 100)), some (.int ((g / 10) - (g / 10) / 10 * 10)), some (.int (g - g / 10 * 10))], [], (hY I (uF F 6 (plF ((F 2)) ((F 6)) ((g / 10) - (g / 10) / 10 * 10) (g - g / 10 * 10))) sd)) = _
              exact pm_EV_at 1 (d := (57, [some (.ref 0), some (.int g), some (.int (g / 100)), some (.int ((g / 10) - (g / 10) / 10 * 10)), some (.int (g - g / 10 * 10))], [.int 0], (hY I (uF F 6 (plF ((F 2)) ((F 6)) ((g / 10) - (g / 10) / 10 * 10) (g - g / 10 * 10))) sd))) rfl rfl
            · show pm_EV (pm_run mt (d + 4)) (some .boolean) oX8_does (54, [some (.ref 0), some (.int g), some (.int (g / 100)), some (.int ((g / 10) - (g / 10) / 10 * 10)), some (.int (g - g / 10 * 10))], [], (hY I (uF F 6 (plF ((F 2)) ((F 6)) ((g / 10) - (g / 10) / 10 * 10) (g - g / 10 * 10))) sd)) = _
              exact pm_EV_at 2 (d := (57, [some (.ref 0), some (.int g), some (.int (g / 100)), some (.int ((g / 10) - (g / 10) / 10 * 10)), some (.int (g - g / 10 * 10))], [.int 1], (hY I (uF F 6 (plF ((F 2)) ((F 6)) ((g / 10) - (g / 10) / 10 * 10) (g - g / 10 * 10))) sd))) rfl rfl
          · show pm_EV (pm_run mt (d + 4)) (some .boolean) oX8_does (56, [some (.ref 0), some (.int g), some (.int (g / 100)), some (.int ((g / 10) - (g / 10) / 10 * 10)), some (.int (g - g / 10 * 10))], [], (hY I F sd)) = _
            exact pm_EV_at 1 (d := (57, [some (.ref 0), some (.int g), some (.int (g / 100)), some (.int ((g / 10) - (g / 10) / 10 * 10)), some (.int (g - g / 10 * 10))], [.int 0], (hY I F sd))) rfl rfl
        · show pm_EV (pm_run mt (d + 4)) (some .boolean) oX8_does (56, [some (.ref 0), some (.int g), some (.int (g / 100)), some (.int ((g / 10) - (g / 10) / 10 * 10)), some (.int (g - g / 10 * 10))], [], (hY I F sd)) = _
          exact pm_EV_at 1 (d := (57, [some (.ref 0), some (.int g), some (.int (g / 100)), some (.int ((g / 10) - (g / 10) / 10 * 10)), some (.int (g - g / 10 * 10))], [.int 0], (hY I F sd))) rfl rfl
      · refine pm_rc (fun p4 => ?_) (fun p4 => ?_)
        · show pm_EV (pm_run mt (d + 4)) (some .boolean) oX8_does (58, [some (.ref 0), some (.int g), some (.int (g / 100)), some (.int ((g / 10) - (g / 10) / 10 * 10)), some (.int (g - g / 10 * 10))], [], (hY I F sd)) = _
          refine Eq.trans (b := pm_EV (pm_run mt (d + 4)) (some .boolean) oX8_does (62, [some (.ref 0), some (.int g), some (.int (g / 100)), some (.int ((g / 10) - (g / 10) / 10 * 10)), some (.int (g - g / 10 * 10))], [.int (bI (mvA ((F 6)) ((I 7)) ((g / 10) - (g / 10) / 10 * 10) (g - g / 10 * 10)))], (hY I (uF F 6 (mvF ((F 6)) ((I 7)) ((g / 10) - (g / 10) / 10 * 10) (g - g / 10 * 10))) sd))) (pm_EV_cl 3 (call := pm_run mt (d + 4)) (d := (61, [some (.ref 0), some (.int g), some (.int (g / 100)), some (.int ((g / 10) - (g / 10) / 10 * 10)), some (.int (g - g / 10 * 10))], [.int (g - g / 10 * 10), .int ((g / 10) - (g / 10) / 10 * 10), .ref 0], (hY I F sd))) (a := 151) (as := [.ref 0, .int ((g / 10) - (g / 10) / 10 * 10), .int (g - g / 10 * 10)]) (hp := (hY I F sd)) (hp2 := (hY I (uF F 6 (mvF ((F 6)) ((I 7)) ((g / 10) - (g / 10) / 10 * 10) (g - g / 10 * 10))) sd)) (i2 := 62) (ls := [some (.ref 0), some (.int g), some (.int (g / 100)), some (.int ((g / 10) - (g / 10) / 10 * 10)), some (.int (g - g / 10 * 10))]) (rest := []) (r := some (.int (bI (mvA ((F 6)) ((I 7)) ((g / 10) - (g / 10) / 10 * 10) (g - g / 10 * 10))))) rfl rfl (sp_X8_moves_0 (d + 1) I F sd ((g / 10) - (g / 10) / 10 * 10) (g - g / 10 * 10) (g6 p1 p2 p3 p4))) ?_
          exact (pm_EV_rb 0 (d := (62, [some (.ref 0), some (.int g), some (.int (g / 100)), some (.int ((g / 10) - (g / 10) / 10 * 10)), some (.int (g - g / 10 * 10))], [.int (bI (mvA ((F 6)) ((I 7)) ((g / 10) - (g / 10) / 10 * 10) (g - g / 10 * 10)))], (hY I (uF F 6 (mvF ((F 6)) ((I 7)) ((g / 10) - (g / 10) / 10 * 10) (g - g / 10 * 10))) sd))) (x := bI (mvA ((F 6)) ((I 7)) ((g / 10) - (g / 10) / 10 * 10) (g - g / 10 * 10))) (hp := (hY I (uF F 6 (mvF ((F 6)) ((I 7)) ((g / 10) - (g / 10) / 10 * 10) (g - g / 10 * 10))) sd)) rfl rfl (pm_rz_b _))
        · refine pm_rc (fun p5 => ?_) (fun p5 => ?_)
          · show pm_EV (pm_run mt (d + 4)) (some .boolean) oX8_does (63, [some (.ref 0), some (.int g), some (.int (g / 100)), some (.int ((g / 10) - (g / 10) / 10 * 10)), some (.int (g - g / 10 * 10))], [], (hY I F sd)) = _
            refine Eq.trans (pm_EV_at 1 (d := (64, [some (.ref 0), some (.int g), some (.int (g / 100)), some (.int ((g / 10) - (g / 10) / 10 * 10)), some (.int (g - g / 10 * 10))], [.int ((g / 10) - (g / 10) / 10 * 10)], (hY I F sd))) (x := if ((g / 10) - (g / 10) / 10 * 10) = 0 then .inl (65, [some (.ref 0), some (.int g), some (.int (g / 100)), some (.int ((g / 10) - (g / 10) / 10 * 10)), some (.int (g - g / 10 * 10))], [], (hY I F sd)) else .inl (71, [some (.ref 0), some (.int g), some (.int (g / 100)), some (.int ((g / 10) - (g / 10) / 10 * 10)), some (.int (g - g / 10 * 10))], [], (hY I F sd))) rfl rfl) ?_
            refine pm_rc (fun p6 => ?_) (fun p6 => ?_)
            · show pm_EV (pm_run mt (d + 4)) (some .boolean) oX8_does (65, [some (.ref 0), some (.int g), some (.int (g / 100)), some (.int ((g / 10) - (g / 10) / 10 * 10)), some (.int (g - g / 10 * 10))], [], (hY I F sd)) = _
              refine Eq.trans (b := pm_EV (pm_run mt (d + 4)) (some .boolean) oX8_does (68, [some (.ref 0), some (.int g), some (.int (g / 100)), some (.int ((g / 10) - (g / 10) / 10 * 10)), some (.int (g - g / 10 * 10))], [.int (bI (!yhas ((F 6) 17) (g - g / 10 * 10)))], (hY I (uF F 6 (spF ((F 6)) (g - g / 10 * 10))) sd))) (pm_EV_cl 2 (call := pm_run mt (d + 4)) (d := (67, [some (.ref 0), some (.int g), some (.int (g / 100)), some (.int ((g / 10) - (g / 10) / 10 * 10)), some (.int (g - g / 10 * 10))], [.int (g - g / 10 * 10), .ref 0], (hY I F sd))) (a := 152) (as := [.ref 0, .int (g - g / 10 * 10)]) (hp := (hY I F sd)) (hp2 := (hY I (uF F 6 (spF ((F 6)) (g - g / 10 * 10))) sd)) (i2 := 68) (ls := [some (.ref 0), some (.int g), some (.int (g / 100)), some (.int ((g / 10) - (g / 10) / 10 * 10)), some (.int (g - g / 10 * 10))]) (rest := []) (r := some (.int (bI (!yhas ((F 6) 17) (g - g / 10 * 10))))) rfl rfl (sp_X8_sprinkles_0 (d + 2) I F sd (g - g / 10 * 10) )) ?_
              refine Eq.trans (pm_EV_at 0 (d := (68, [some (.ref 0), some (.int g), some (.int (g / 100)), some (.int ((g / 10) - (g / 10) / 10 * 10)), some (.int (g - g / 10 * 10))], [.int (bI (!yhas ((F 6) 17) (g - g / 10 * 10)))], (hY I (uF F 6 (spF ((F 6)) (g - g / 10 * 10))) sd))) (x := if (bI (!yhas ((F 6) 17) (g - g / 10 * 10))) = 0 then .inl (71, [some (.ref 0), some (.int g), some (.int (g / 100)), some (.int ((g / 10) - (g / 10) / 10 * 10)), some (.int (g - g / 10 * 10))], [], (hY I (uF F 6 (spF ((F 6)) (g - g / 10 * 10))) sd)) else .inl (69, [some (.ref 0), some (.int g), some (.int (g / 100)), some (.int ((g / 10) - (g / 10) / 10 * 10)), some (.int (g - g / 10 * 10))], [], (hY I (uF F 6 (spF ((F 6)) (g - g / 10 * 10))) sd))) rfl rfl) ?_
              refine pm_rc (fun p7 => ?_) (fun p7 => ?_)
              · show pm_EV (pm_run mt (d + 4)) (some .boolean) oX8_does (71, [some (.ref 0), some (.int g), some (.int (g / 100)), some (.int ((g / 10) - (g / 10) / 10 * 10)), some (.int (g - g / 10 * 10))], [], (hY I (uF F 6 (spF ((F 6)) (g - g / 10 * 10))) sd)) = _
                exact pm_EV_at 1 (d := (72, [some (.ref 0), some (.int g), some (.int (g / 100)), some (.int ((g / 10) - (g / 10) / 10 * 10)), some (.int (g - g / 10 * 10))], [.int 0], (hY I (uF F 6 (spF ((F 6)) (g - g / 10 * 10))) sd))) rfl rfl
              · show pm_EV (pm_run mt (d + 4)) (some .boolean) oX8_does (69, [some (.ref 0), some (.int g), some (.int (g / 100)), some (.int ((g / 10) - (g / 10) / 10 * 10)), some (.int (g - g / 10 * 10))], [], (hY I (uF F 6 (spF ((F 6)) (g - g / 10 * 10))) sd)) = _
                exact pm_EV_at 2 (d := (72, [some (.ref 0), some (.int g), some (.int (g / 100)), some (.int ((g / 10) - (g / 10) / 10 * 10)), some (.int (g - g / 10 * 10))], [.int 1], (hY I (uF F 6 (spF ((F 6)) (g - g / 10 * 10))) sd))) rfl rfl
            · show pm_EV (pm_run mt (d + 4)) (some .boolean) oX8_does (71, [some (.ref 0), some (.int g), some (.int (g / 100)), some (.int ((g / 10) - (g / 10) / 10 * 10)), some (.int (g - g / 10 * 10))], [], (hY I F sd)) = _
              exact pm_EV_at 1 (d := (72, [some (.ref 0), some (.int g), some (.int (g / 100)), some (.int ((g / 10) - (g / 10) / 10 * 10)), some (.int (g - g / 10 * 10))], [.int 0], (hY I F sd))) rfl rfl
          · refine pm_rc (fun p6 => ?_) (fun p6 => ?_)
            · show pm_EV (pm_run mt (d + 4)) (some .boolean) oX8_does (73, [some (.ref 0), some (.int g), some (.int (g / 100)), some (.int ((g / 10) - (g / 10) / 10 * 10)), some (.int (g - g / 10 * 10))], [], (hY I F sd)) = _
              refine Eq.trans (pm_EV_at 1 (d := (74, [some (.ref 0), some (.int g), some (.int (g / 100)), some (.int ((g / 10) - (g / 10) / 10 * 10)), some (.int (g - g / 10 * 10))], [.int ((g / 10) - (g / 10) / 10 * 10)], (hY I F sd))) (x := if ((g / 10) - (g / 10) / 10 * 10) = 0 then .inl (75, [some (.ref 0), some (.int g), some (.int (g / 100)), some (.int ((g / 10) - (g / 10) / 10 * 10)), some (.int (g - g / 10 * 10))], [], (hY I F sd)) else .inl (88, [some (.ref 0), some (.int g), some (.int (g / 100)), some (.int ((g / 10) - (g / 10) / 10 * 10)), some (.int (g - g / 10 * 10))], [], (hY I F sd))) rfl rfl) ?_
              refine pm_rc (fun p7 => ?_) (fun p7 => ?_)
              · show pm_EV (pm_run mt (d + 4)) (some .boolean) oX8_does (75, [some (.ref 0), some (.int g), some (.int (g / 100)), some (.int ((g / 10) - (g / 10) / 10 * 10)), some (.int (g - g / 10 * 10))], [], (hY I F sd)) = _
                refine Eq.trans (b := pm_EV (pm_run mt (d + 4)) (some .boolean) oX8_does (78, [some (.ref 0), some (.int g), some (.int (g / 100)), some (.int ((g / 10) - (g / 10) / 10 * 10)), some (.int (g - g / 10 * 10))], [.int (bI (!inr (g - g / 10 * 10) ((I 7))))], (hY I F sd))) (pm_EV_cl 2 (call := pm_run mt (d + 4)) (d := (77, [some (.ref 0), some (.int g), some (.int (g / 100)), some (.int ((g / 10) - (g / 10) / 10 * 10)), some (.int (g - g / 10 * 10))], [.int (g - g / 10 * 10), .ref 0], (hY I F sd))) (a := 112) (as := [.ref 0, .int (g - g / 10 * 10)]) (hp := (hY I F sd)) (hp2 := (hY I F sd)) (i2 := 78) (ls := [some (.ref 0), some (.int g), some (.int (g / 100)), some (.int ((g / 10) - (g / 10) / 10 * 10)), some (.int (g - g / 10 * 10))]) (rest := []) (r := some (.int (bI (!inr (g - g / 10 * 10) ((I 7)))))) rfl rfl (sp_X8_noThing_0 (d + 2) I F sd (g - g / 10 * 10) (g7 p1 p2 p3 p4 p5 p6 p7))) ?_
                refine Eq.trans (pm_EV_at 0 (d := (78, [some (.ref 0), some (.int g), some (.int (g / 100)), some (.int ((g / 10) - (g / 10) / 10 * 10)), some (.int (g - g / 10 * 10))], [.int (bI (!inr (g - g / 10 * 10) ((I 7))))], (hY I F sd))) (x := if (bI (!inr (g - g / 10 * 10) ((I 7)))) = 0 then .inl (79, [some (.ref 0), some (.int g), some (.int (g / 100)), some (.int ((g / 10) - (g / 10) / 10 * 10)), some (.int (g - g / 10 * 10))], [], (hY I F sd)) else .inl (88, [some (.ref 0), some (.int g), some (.int (g / 100)), some (.int ((g / 10) - (g / 10) / 10 * 10)), some (.int (g - g / 10 * 10))], [], (hY I F sd))) rfl rfl) ?_
                refine pm_rc (fun p8 => ?_) (fun p8 => ?_)
                · show pm_EV (pm_run mt (d + 4)) (some .boolean) oX8_does (79, [some (.ref 0), some (.int g), some (.int (g / 100)), some (.int ((g / 10) - (g / 10) / 10 * 10)), some (.int (g - g / 10 * 10))], [], (hY I F sd)) = _
                  refine Eq.trans (b := pm_EV (pm_run mt (d + 4)) (some .boolean) oX8_does (83, [some (.ref 0), some (.int g), some (.int (g / 100)), some (.int ((g / 10) - (g / 10) / 10 * 10)), some (.int (g - g / 10 * 10))], [.int (pknown ((F 6)) ((I 4)) ((I 7)))], (hY I F sd))) (pm_EV_cl 3 (call := pm_run mt (d + 4)) (d := (82, [some (.ref 0), some (.int g), some (.int (g / 100)), some (.int ((g / 10) - (g / 10) / 10 * 10)), some (.int (g - g / 10 * 10))], [.ref 6, .ref 0], (hY I F sd))) (a := 129) (as := [.ref 0, .ref 6]) (hp := (hY I F sd)) (hp2 := (hY I F sd)) (i2 := 83) (ls := [some (.ref 0), some (.int g), some (.int (g / 100)), some (.int ((g / 10) - (g / 10) / 10 * 10)), some (.int (g - g / 10 * 10))]) (rest := []) (r := some (.int (pknown ((F 6)) ((I 4)) ((I 7))))) rfl rfl (sp_X8_known_0_6 (d + 0) I F sd  (g8 p1 p2 p3 p4 p5 p6 p7 p8) (g9 p1 p2 p3 p4 p5 p6 p7 p8) (g10 p1 p2 p3 p4 p5 p6 p7 p8))) ?_
                  refine Eq.trans (b := pm_EV (pm_run mt (d + 4)) (some .boolean) oX8_does (85, [some (.ref 0), some (.int g), some (.int (g / 100)), some (.int ((g / 10) - (g / 10) / 10 * 10)), some (.int (g - g / 10 * 10))], [.int (bI (yhas (pknown ((F 6)) ((I 4)) ((I 7))) (g - g / 10 * 10)))], (hY I F sd))) (pm_EV_cl 1 (call := pm_run mt (d + 4)) (d := (84, [some (.ref 0), some (.int g), some (.int (g / 100)), some (.int ((g / 10) - (g / 10) / 10 * 10)), some (.int (g - g / 10 * 10))], [.int (g - g / 10 * 10), .int (pknown ((F 6)) ((I 4)) ((I 7)))], (hY I F sd))) (a := 107) (as := [.int (pknown ((F 6)) ((I 4)) ((I 7))), .int (g - g / 10 * 10)]) (hp := (hY I F sd)) (hp2 := (hY I F sd)) (i2 := 85) (ls := [some (.ref 0), some (.int g), some (.int (g / 100)), some (.int ((g / 10) - (g / 10) / 10 * 10)), some (.int (g - g / 10 * 10))]) (rest := []) (r := some (.int (bI (yhas (pknown ((F 6)) ((I 4)) ((I 7))) (g - g / 10 * 10))))) rfl rfl (sp_X8_has (d + 3) I F sd (pknown ((F 6)) ((I 4)) ((I 7))) (g - g / 10 * 10) )) ?_
                  refine Eq.trans (pm_EV_at 0 (d := (85, [some (.ref 0), some (.int g), some (.int (g / 100)), some (.int ((g / 10) - (g / 10) / 10 * 10)), some (.int (g - g / 10 * 10))], [.int (bI (yhas (pknown ((F 6)) ((I 4)) ((I 7))) (g - g / 10 * 10)))], (hY I F sd))) (x := if (bI (yhas (pknown ((F 6)) ((I 4)) ((I 7))) (g - g / 10 * 10))) = 0 then .inl (88, [some (.ref 0), some (.int g), some (.int (g / 100)), some (.int ((g / 10) - (g / 10) / 10 * 10)), some (.int (g - g / 10 * 10))], [], (hY I F sd)) else .inl (86, [some (.ref 0), some (.int g), some (.int (g / 100)), some (.int ((g / 10) - (g / 10) / 10 * 10)), some (.int (g - g / 10 * 10))], [], (hY I F sd))) rfl rfl) ?_
                  refine pm_rc (fun p9 => ?_) (fun p9 => ?_)
                  · show pm_EV (pm_run mt (d + 4)) (some .boolean) oX8_does (88, [some (.ref 0), some (.int g), some (.int (g / 100)), some (.int ((g / 10) - (g / 10) / 10 * 10)), some (.int (g - g / 10 * 10))], [], (hY I F sd)) = _
                    exact pm_EV_at 1 (d := (89, [some (.ref 0), some (.int g), some (.int (g / 100)), some (.int ((g / 10) - (g / 10) / 10 * 10)), some (.int (g - g / 10 * 10))], [.int 0], (hY I F sd))) rfl rfl
                  · show pm_EV (pm_run mt (d + 4)) (some .boolean) oX8_does (86, [some (.ref 0), some (.int g), some (.int (g / 100)), some (.int ((g / 10) - (g / 10) / 10 * 10)), some (.int (g - g / 10 * 10))], [], (hY I F sd)) = _
                    exact pm_EV_at 2 (d := (89, [some (.ref 0), some (.int g), some (.int (g / 100)), some (.int ((g / 10) - (g / 10) / 10 * 10)), some (.int (g - g / 10 * 10))], [.int 1], (hY I F sd))) rfl rfl
                · show pm_EV (pm_run mt (d + 4)) (some .boolean) oX8_does (88, [some (.ref 0), some (.int g), some (.int (g / 100)), some (.int ((g / 10) - (g / 10) / 10 * 10)), some (.int (g - g / 10 * 10))], [], (hY I F sd)) = _
                  exact pm_EV_at 1 (d := (89, [some (.ref 0), some (.int g), some (.int (g / 100)), some (.int ((g / 10) - (g / 10) / 10 * 10)), some (.int (g - g / 10 * 10))], [.int 0], (hY I F sd))) rfl rfl
              · show pm_EV (pm_run mt (d + 4)) (some .boolean) oX8_does (88, [some (.ref 0), some (.int g), some (.int (g / 100)), some (.int ((g / 10) - (g / 10) / 10 * 10)), some (.int (g - g / 10 * 10))], [], (hY I F sd)) = _
                exact pm_EV_at 1 (d := (89, [some (.ref 0), some (.int g), some (.int (g / 100)), some (.int ((g / 10) - (g / 10) / 10 * 10)), some (.int (g - g / 10 * 10))], [.int 0], (hY I F sd))) rfl rfl
            · show pm_EV (pm_run mt (d + 4)) (some .boolean) oX8_does (90, [some (.ref 0), some (.int g), some (.int (g / 100)), some (.int ((g / 10) - (g / 10) / 10 * 10)), some (.int (g - g / 10 * 10))], [], (hY I F sd)) = _
              refine Eq.trans (pm_EV_at 2 (d := (92, [some (.ref 0), some (.int g), some (.int (g / 100)), some (.int ((g / 10) - (g / 10) / 10 * 10)), some (.int (g - g / 10 * 10))], [.int 6, .int (g / 100)], (hY I F sd))) (x := if (g / 100) = 6 then .inl (93, [some (.ref 0), some (.int g), some (.int (g / 100)), some (.int ((g / 10) - (g / 10) / 10 * 10)), some (.int (g - g / 10 * 10))], [], (hY I F sd)) else .inl (103, [some (.ref 0), some (.int g), some (.int (g / 100)), some (.int ((g / 10) - (g / 10) / 10 * 10)), some (.int (g - g / 10 * 10))], [], (hY I F sd))) rfl rfl) ?_
              refine pm_rc (fun p7 => ?_) (fun p7 => ?_)
              · show pm_EV (pm_run mt (d + 4)) (some .boolean) oX8_does (93, [some (.ref 0), some (.int g), some (.int (g / 100)), some (.int ((g / 10) - (g / 10) / 10 * 10)), some (.int (g - g / 10 * 10))], [], (hY I F sd)) = _
                refine Eq.trans (pm_EV_at 1 (d := (94, [some (.ref 0), some (.int g), some (.int (g / 100)), some (.int ((g / 10) - (g / 10) / 10 * 10)), some (.int (g - g / 10 * 10))], [.int ((g / 10) - (g / 10) / 10 * 10)], (hY I F sd))) (x := if ((g / 10) - (g / 10) / 10 * 10) = 0 then .inl (95, [some (.ref 0), some (.int g), some (.int (g / 100)), some (.int ((g / 10) - (g / 10) / 10 * 10)), some (.int (g - g / 10 * 10))], [], (hY I F sd)) else .inl (103, [some (.ref 0), some (.int g), some (.int (g / 100)), some (.int ((g / 10) - (g / 10) / 10 * 10)), some (.int (g - g / 10 * 10))], [], (hY I F sd))) rfl rfl) ?_
                refine pm_rc (fun p8 => ?_) (fun p8 => ?_)
                · show pm_EV (pm_run mt (d + 4)) (some .boolean) oX8_does (95, [some (.ref 0), some (.int g), some (.int (g / 100)), some (.int ((g / 10) - (g / 10) / 10 * 10)), some (.int (g - g / 10 * 10))], [], (hY I F sd)) = _
                  refine Eq.trans (pm_EV_at 5 (d := (100, [some (.ref 0), some (.int g), some (.int (g / 100)), some (.int ((g / 10) - (g / 10) / 10 * 10)), some (.int (g - g / 10 * 10))], [.int (g - g / 10 * 10), .int ((F 6) 19)], (hY I F sd))) (x := if ((F 6) 19) < (g - g / 10 * 10) then .inl (103, [some (.ref 0), some (.int g), some (.int (g / 100)), some (.int ((g / 10) - (g / 10) / 10 * 10)), some (.int (g - g / 10 * 10))], [], (hY I F sd)) else .inl (101, [some (.ref 0), some (.int g), some (.int (g / 100)), some (.int ((g / 10) - (g / 10) / 10 * 10)), some (.int (g - g / 10 * 10))], [], (hY I F sd))) rfl rfl) ?_
                  refine pm_rc (fun p9 => ?_) (fun p9 => ?_)
                  · show pm_EV (pm_run mt (d + 4)) (some .boolean) oX8_does (103, [some (.ref 0), some (.int g), some (.int (g / 100)), some (.int ((g / 10) - (g / 10) / 10 * 10)), some (.int (g - g / 10 * 10))], [], (hY I F sd)) = _
                    exact pm_EV_at 1 (d := (104, [some (.ref 0), some (.int g), some (.int (g / 100)), some (.int ((g / 10) - (g / 10) / 10 * 10)), some (.int (g - g / 10 * 10))], [.int 0], (hY I F sd))) rfl rfl
                  · show pm_EV (pm_run mt (d + 4)) (some .boolean) oX8_does (101, [some (.ref 0), some (.int g), some (.int (g / 100)), some (.int ((g / 10) - (g / 10) / 10 * 10)), some (.int (g - g / 10 * 10))], [], (hY I F sd)) = _
                    exact pm_EV_at 2 (d := (104, [some (.ref 0), some (.int g), some (.int (g / 100)), some (.int ((g / 10) - (g / 10) / 10 * 10)), some (.int (g - g / 10 * 10))], [.int 1], (hY I F sd))) rfl rfl
                · show pm_EV (pm_run mt (d + 4)) (some .boolean) oX8_does (103, [some (.ref 0), some (.int g), some (.int (g / 100)), some (.int ((g / 10) - (g / 10) / 10 * 10)), some (.int (g - g / 10 * 10))], [], (hY I F sd)) = _
                  exact pm_EV_at 1 (d := (104, [some (.ref 0), some (.int g), some (.int (g / 100)), some (.int ((g / 10) - (g / 10) / 10 * 10)), some (.int (g - g / 10 * 10))], [.int 0], (hY I F sd))) rfl rfl
              · show pm_EV (pm_run mt (d + 4)) (some .boolean) oX8_does (103, [some (.ref 0), some (.int g), some (.int (g / 100)), some (.int ((g / 10) - (g / 10) / 10 * 10)), some (.int (g - g / 10 * 10))], [], (hY I F sd)) = _
                exact pm_EV_at 1 (d := (104, [some (.ref 0), some (.int g), some (.int (g / 100)), some (.int ((g / 10) - (g / 10) / 10 * 10)), some (.int (g - g / 10 * 10))], [.int 0], (hY I F sd))) rfl rfl
set_option maxRecDepth 100000 in
set_option maxHeartbeats 4000000 in
theorem en_X8_does_0 (d : Nat) (I : Nat → Int32) (F : Nat → Nat → Int32) (sd : Int64) (g : Int32) : pm_run mt (d + 5) 153 [.ref 0, .int g] (hY I F sd) = pm_EV (pm_run mt (d + 4)) (some .boolean) oX8_does (0, [some (.ref 0), some (.int g), none, none, none], [], (hY I F sd)) := rfl
set_option maxRecDepth 100000 in
set_option maxHeartbeats 4000000 in
theorem sp_X8_does_0 (d : Nat) (I : Nat → Int32) (F : Nat → Nat → Int32) (sd : Int64) (g : Int32) (h1 : inr (I 5) 5 = true) (h2 : inr (I 7) 6 = true) (h3 : inr (I 4) 10 = true) (h4 : inr (F 6 19) 10 = true) : pm_run mt (d + 5) 153 [.ref 0, .int g] (hY I F sd) = some (some (.int (bI (dsA (F 2) (F 6) (I 5) (I 7) (I 4) g))), (hY I (uF F 6 (dsF (F 2) (F 6) (I 5) (I 7) g)) sd)) := by
  have w4 : ∀ {t : Int32}, bI (!inr t (I 5)) = 0 → inr t 4 = true := fun h => inr_wk (a := 4) h1 (by decide) (by rw [bI_n] at h; exact h)
  rw [en_X8_does_0, tr_X8_does_0_0 _ _ _ _ _ (fun _ => h1) (fun _ _ => h1) (fun _ _ h _ => w4 h) (fun _ _ _ => h1) (fun _ _ _ h _ => w4 h) (fun _ _ _ _ => h2) (fun _ _ _ _ _ _ _ => h2) (fun _ _ _ _ _ _ _ _ => h3) (fun _ _ _ _ _ _ _ _ => h4) (fun _ _ _ _ _ _ _ _ => h2)]
  rw [show (g / 10) - (g / 10) / 10 * 10 = dg2 g from rfl, show g - g / 10 * 10 = dg3 g from rfl]
  simp only [bI_n, bI_0]
  unfold dsF dsA
  by_cases c0 : g = 0
  · simp only [c0, if_true]; rfl
  · simp only [c0, if_false]
    by_cases c1 : g / 100 = 1
    · simp only [c1, if_true]
      cases e1 : inr (dg2 g) (I 5)
      · simp [bI, uF_self]
      · by_cases e2 : 0 < dg3 g
        · by_cases e3 : 999 < F 6 (dg2 g).toNatClampNeg + dg3 g <;> simp [e2, e3, bI]
        · simp [e2, bI, uF_self]
    · simp only [c1, if_false]
      by_cases c2 : g / 100 = 2
      · simp only [c2, if_true]
        cases e1 : inr (dg2 g) (I 5)
        · simp [bI, uF_self]
        · by_cases e2 : 0 < dg3 g
          · by_cases e3 : F 6 (dg2 g).toNatClampNeg < pgr (F 2) (dg2 g) (dg3 g) <;> simp [e2, e3, bI]
          · simp [e2, bI, uF_self]
      · simp only [c2, if_false]
        by_cases c3 : g / 100 = 3
        · simp only [c3, if_true]
        · simp only [c3, if_false]
          by_cases c4 : g / 100 = 4
          · simp only [c4, if_true]
            by_cases e1 : dg2 g = 0
            · cases e3 : yhas (F 6 17) (dg3 g) <;> simp [e1, bI]
            · simp [e1, bI, uF_self]
          · simp only [c4, if_false]
            by_cases c5 : g / 100 = 5
            · simp only [c5, if_true]
              by_cases e1 : dg2 g = 0
              · cases e2 : inr (dg3 g) (I 7)
                · simp [e1, bI, uF_self]
                · cases e3 : yhas (pknown (F 6) (I 4) (I 7)) (dg3 g) <;> simp [e1, bI, uF_self]
              · simp [e1, bI, uF_self]
            · simp only [c5, if_false]
              by_cases c6 : g / 100 = 6
              · simp only [c6, if_true]
                by_cases e1 : dg2 g = 0
                · by_cases e3 : F 6 19 < dg3 g <;> simp [e1, e3, bI, uF_self]
                · simp [e1, bI, uF_self]
              · simp [c6, bI, uF_self]
