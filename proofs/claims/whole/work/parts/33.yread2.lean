/-! the reference: its text read whole, held against the class's own reading -/
def d9 (l : Int32) : Bool := !decide (l < 48) && !decide (57 < l)
def d3 (l : Int32) : Bool := !decide (l < 48) && !decide (51 < l)
theorem sub48 (l : Int32) : (l - 48).toInt = (l.toInt - 48).bmod (2 ^ 32) := by
  rw [Int32.toInt_sub]; rfl
theorem lin_d9 (l : Int32) : lin (l - 48).toInt64 0 9 = d9 l := by
  rw [show (0 : Int64) = (0 : Int32).toInt64 from rfl, show (9 : Int64) = (9 : Int32).toInt64 from rfl, lin_lit]
  unfold d9
  have h := sub48 l
  have h1 := Int32.le_toInt l
  have h2 := Int32.toInt_lt l
  rw [Int.bmod_def] at h
  have e1 : (l - 48 < 0 ∨ 9 < l - 48) ↔ (l < 48 ∨ 57 < l) := by
    rw [Int32.lt_iff_toInt_lt, Int32.lt_iff_toInt_lt, Int32.lt_iff_toInt_lt, Int32.lt_iff_toInt_lt, show (0 : Int32).toInt = 0 from rfl, show (9 : Int32).toInt = 9 from rfl, show (48 : Int32).toInt = 48 from rfl, show (57 : Int32).toInt = 57 from rfl]
    omega
  rw [Bool.eq_iff_iff]
  simp only [Bool.and_eq_true, Bool.not_eq_true', decide_eq_false_iff_not]
  rw [← not_or, ← not_or, e1]
theorem lin_d3 (l : Int32) : lin (l - 48).toInt64 0 3 = d3 l := by
  rw [show (0 : Int64) = (0 : Int32).toInt64 from rfl, show (3 : Int64) = (3 : Int32).toInt64 from rfl, lin_lit]
  unfold d3
  have h := sub48 l
  have h1 := Int32.le_toInt l
  have h2 := Int32.toInt_lt l
  rw [Int.bmod_def] at h
  have e1 : (l - 48 < 0 ∨ 3 < l - 48) ↔ (l < 48 ∨ 51 < l) := by
    rw [Int32.lt_iff_toInt_lt, Int32.lt_iff_toInt_lt, Int32.lt_iff_toInt_lt, Int32.lt_iff_toInt_lt, show (0 : Int32).toInt = 0 from rfl, show (3 : Int32).toInt = 3 from rfl, show (48 : Int32).toInt = 48 from rfl, show (51 : Int32).toInt = 51 from rfl]
    omega
  rw [Bool.eq_iff_iff]
  simp only [Bool.and_eq_true, Bool.not_eq_true', decide_eq_false_iff_not]
  rw [← not_or, ← not_or, e1]
theorem d9_v {l : Int32} (h : d9 l = true) : ∃ v : Nat, v ≤ 9 ∧ l - 48 = nI v ∧ l ≠ 70 ∧ l ≠ 84 := by
  unfold d9 at h
  simp only [Bool.and_eq_true, Bool.not_eq_true', decide_eq_false_iff_not] at h
  have hs := sub48 l
  have h1 := Int32.le_toInt l
  have h2 := Int32.toInt_lt l
  rw [Int.bmod_def] at hs
  obtain ⟨a, b⟩ := h
  rw [Int32.lt_iff_toInt_lt, show (48 : Int32).toInt = 48 from rfl] at a
  rw [Int32.lt_iff_toInt_lt, show (57 : Int32).toInt = 57 from rfl] at b
  refine ⟨(l.toInt - 48).toNat, by omega, ?_, ?_, ?_⟩
  · rw [← Int32.toInt_inj, nI_toInt (by omega)]
    omega
  · intro e
    rw [e, show (70 : Int32).toInt = 70 from rfl] at b
    omega
  · intro e
    rw [e, show (84 : Int32).toInt = 84 from rfl] at b
    omega
theorem d3_9 {l : Int32} (h : d3 l = true) : d9 l = true := by
  unfold d3 at h
  unfold d9
  simp only [Bool.and_eq_true, Bool.not_eq_true', decide_eq_false_iff_not] at h ⊢
  refine ⟨h.1, fun h2 => h.2 ?_⟩
  rw [Int32.lt_iff_toInt_lt] at h2 ⊢
  rw [show (57 : Int32).toInt = 57 from rfl] at h2
  rw [show (51 : Int32).toInt = 51 from rfl]
  omega
theorem nI_ne9 {v : Nat} (h : v ≤ 9) : ¬ nI v = -9 := by
  intro e
  have : (nI v).toInt = (-9 : Int32).toInt := by rw [e]
  rw [nI_toInt (by omega), show (-9 : Int32).toInt = -9 from rfl] at this
  omega
theorem figA9_n {n : Nat} {b : Nat → Int32} {m : Int32} : figA m (nI n) (nI n) b = -9 ∧ figP m (nI n) (nI n) b = nI n := ⟨if_pos rfl, if_pos rfl⟩
theorem figA9_f {k n : Nat} {b : Nat → Int32} (hk : k < n) (hn : n ≤ 48) (h : d9 (b k) = false) : figA 9 (nI k) (nI n) b = -9 ∧ figP 9 (nI k) (nI n) b = nI k := by
  have e : ¬ nI k = nI n := fun e => by rw [nI_eq (by omega) (by omega)] at e; omega
  have e2 : figB 9 (nI k) b = false := by unfold figB; rw [nI_clamp (by omega)]; exact (lin_d9 _).trans h
  unfold figA figP
  rw [if_neg e, if_neg e, if_pos e2, if_pos e2]
  exact ⟨rfl, rfl⟩
theorem figA9_t {k n : Nat} {b : Nat → Int32} (hk : k < n) (hn : n ≤ 48) (h : d9 (b k) = true) : figA 9 (nI k) (nI n) b = b k - 48 ∧ figP 9 (nI k) (nI n) b = nI (k + 1) := by
  have e : ¬ nI k = nI n := fun e => by rw [nI_eq (by omega) (by omega)] at e; omega
  have e2 : ¬ figB 9 (nI k) b = false := by unfold figB; rw [nI_clamp (by omega), show lin (b k - 48).toInt64 0 (9 : Int32).toInt64 = d9 (b k) from lin_d9 _, h]; decide
  unfold figA figP
  rw [if_neg e, if_neg e, if_neg e2, if_neg e2, nI_clamp (by omega), nI_p1]
  exact ⟨rfl, rfl⟩
theorem figA3_f {k n : Nat} {b : Nat → Int32} (hk : k < n) (hn : n ≤ 48) (h : d3 (b k) = false) : figA 3 (nI k) (nI n) b = -9 ∧ figP 3 (nI k) (nI n) b = nI k := by
  have e : ¬ nI k = nI n := fun e => by rw [nI_eq (by omega) (by omega)] at e; omega
  have e2 : figB 3 (nI k) b = false := by unfold figB; rw [nI_clamp (by omega)]; exact (lin_d3 _).trans h
  unfold figA figP
  rw [if_neg e, if_neg e, if_pos e2, if_pos e2]
  exact ⟨rfl, rfl⟩
theorem figA3_t {k n : Nat} {b : Nat → Int32} (hk : k < n) (hn : n ≤ 48) (h : d3 (b k) = true) : figA 3 (nI k) (nI n) b = b k - 48 ∧ figP 3 (nI k) (nI n) b = nI (k + 1) := by
  have e : ¬ nI k = nI n := fun e => by rw [nI_eq (by omega) (by omega)] at e; omega
  have e2 : ¬ figB 3 (nI k) b = false := by unfold figB; rw [nI_clamp (by omega), show lin (b k - 48).toInt64 0 (3 : Int32).toInt64 = d3 (b k) from lin_d3 _, h]; decide
  unfold figA figP
  rw [if_neg e, if_neg e, if_neg e2, if_neg e2, nI_clamp (by omega), nI_p1]
  exact ⟨rfl, rfl⟩
theorem tfit4 (l : Int32) : tfit l 4 = d9 l := rfl
theorem tfit5 (l : Int32) : tfit l 5 = d3 l := rfl
theorem tfit6 (l : Int32) : tfit l 6 = d9 l := rfl
theorem tfit1 (l : Int32) : tfit l 1 = d9 l := rfl
theorem tfit2 (l : Int32) : tfit l 2 = d9 l := rfl
theorem tby_in {n k : Nat} {b : Nat → Int32} (hk : k < n) (hn : n ≤ 48) : tby (nI n) b (nI k) = b k := by
  unfold tby
  rw [if_neg (nI_pos (by omega)), if_pos (by rw [nI_ltI (by omega) (by omega)]; exact hk), nI_clamp (by omega)]
theorem nI_sI {a b : Nat} : nI a + nI b = nI (a + b) := nI_add a b
theorem ffL_S (f : Nat → Int32) (n m k : Nat) (w nf nt : Int32) : ffL f n (m + 1) k w nf nt = if tfit (f k) w = false then nI k else if 4 < ffF w (f k) nf then nI k else if 5 < ffT w (f k) nt then nI k else ffL f n m (k + 1) (twan w (f k)) (ffF w (f k) nf) (ffT w (f k) nt) := rfl
/-- a figure where one is wanted -/
theorem ffL_d {f : Nat → Int32} {n m k : Nat} {w : Int32} {x y : Nat} (hw : ¬ w = 3) (hx : x ≤ 4) (hy : y ≤ 5) (h : tfit (f k) w = true) : ffL f n (m + 1) k w (nI x) (nI y) = ffL f n m (k + 1) (twan w (f k)) (nI x) (nI y) := by
  have e1 : ffF w (f k) (nI x) = nI x := if_neg hw
  have e2 : ffT w (f k) (nI y) = nI y := if_neg hw
  rw [ffL_S, if_neg (by rw [h]; decide), e1, e2, if_neg (by rw [show (4 : Int32) = nI 4 from rfl, nI_ltI (by decide) (by omega)]; omega), if_neg (by rw [show (5 : Int32) = nI 5 from rfl, nI_ltI (by decide) (by omega)]; omega)]
theorem ffL_no {f : Nat → Int32} {n m k : Nat} {w nf nt : Int32} (h : tfit (f k) w = false) : ffL f n (m + 1) k w nf nt = nI k := by
  rw [ffL_S, if_pos h]
theorem ffL_F {f : Nat → Int32} {n m k x y : Nat} (hx : x < 4) (hy : y ≤ 5) (h : f k = 70) : ffL f n (m + 1) k 3 (nI x) (nI y) = ffL f n m (k + 1) 4 (nI (x + 1)) (nI y) := by
  have e1 : ffF 3 (f k) (nI x) = nI (x + 1) := by unfold ffF; rw [if_pos rfl, if_pos h, nI_p1]
  have e2 : ffT 3 (f k) (nI y) = nI y := by unfold ffT; rw [if_pos rfl, if_neg (by rw [h]; decide)]; exact nI_add y 0
  have e3 : twan 3 (f k) = 4 := by rw [h]; decide
  rw [ffL_S, if_neg (by rw [h]; decide), e1, e2, e3, if_neg (by rw [show (4 : Int32) = nI 4 from rfl, nI_ltI (by decide) (by omega)]; omega), if_neg (by rw [show (5 : Int32) = nI 5 from rfl, nI_ltI (by decide) (by omega)]; omega)]
theorem ffL_F4 {f : Nat → Int32} {n m k : Nat} {nt : Int32} (h : f k = 70) : ffL f n (m + 1) k 3 (nI 4) nt = nI k := by
  have e1 : ffF 3 (f k) (nI 4) = nI 5 := by unfold ffF; rw [if_pos rfl, if_pos h, nI_p1]
  rw [ffL_S, if_neg (by rw [h]; decide), e1, if_pos (by decide)]
theorem ffL_T {f : Nat → Int32} {n m k x y : Nat} (hx : x ≤ 4) (hy : y < 5) (h : f k = 84) : ffL f n (m + 1) k 3 (nI x) (nI y) = ffL f n m (k + 1) 6 (nI x) (nI (y + 1)) := by
  have e1 : ffF 3 (f k) (nI x) = nI x := by unfold ffF; rw [if_pos rfl, if_neg (by rw [h]; decide)]; exact nI_add x 0
  have e2 : ffT 3 (f k) (nI y) = nI (y + 1) := by unfold ffT; rw [if_pos rfl, if_pos h, nI_p1]
  have e3 : twan 3 (f k) = 6 := by rw [h]; decide
  rw [ffL_S, if_neg (by rw [h]; decide), e1, e2, e3, if_neg (by rw [show (4 : Int32) = nI 4 from rfl, nI_ltI (by decide) (by omega)]; omega), if_neg (by rw [show (5 : Int32) = nI 5 from rfl, nI_ltI (by decide) (by omega)]; omega)]
theorem ffL_T5 {f : Nat → Int32} {n m k x : Nat} (hx : x ≤ 4) (h : f k = 84) : ffL f n (m + 1) k 3 (nI x) (nI 5) = nI k := by
  have e1 : ffF 3 (f k) (nI x) = nI x := by unfold ffF; rw [if_pos rfl, if_neg (by rw [h]; decide)]; exact nI_add x 0
  have e2 : ffT 3 (f k) (nI 5) = nI 6 := by unfold ffT; rw [if_pos rfl, if_pos h, nI_p1]
  rw [ffL_S, if_neg (by rw [h]; decide), e1, e2, if_neg (by rw [show (4 : Int32) = nI 4 from rfl, nI_ltI (by decide) (by omega)]; omega), if_pos (by decide)]
theorem ffL_0 {f : Nat → Int32} {n k : Nat} {w nf nt : Int32} (hw : ¬ w = 3) : ffL f n 0 k w nf nt = nI n := if_neg hw
theorem ffL_30 {f : Nat → Int32} {n k : Nat} {nf nt : Int32} : ffL f n 0 k 3 nf nt = -9 := if_pos rfl
/-- what has been read, in the class's house and in the reference's rows -/
def DR (sk gw : Int32) (x y : Nat) (g r a : Nat → Int32) : Prop := g 21 = nI x ∧ g 22 = nI y ∧ g 23 = sk ∧ g 24 = gw ∧ (∀ j, j < x → g (4 + j) = r (2 * j) ∧ g j = r (2 * j + 1) ∧ ∃ v, v ≤ 90 ∧ r (2 * j) = nI v) ∧ (∀ j, x ≤ j → j < 4 → g (4 + j) = 0) ∧ (∀ t, t < y → g (16 + t) = a t ∧ inr (a t) 10 = true) ∧ (∀ t, y ≤ t → t < 5 → g (16 + t) = 0) ∧ (∀ j, 8 ≤ j → j < 16 → g j = 0) ∧ (∀ j, 25 ≤ j → j < 28 → g j = 0)
theorem hset_at {f : Nat → Int32} {k : Nat} {v : Int32} (hk : k < 28) : hset f (nI k) v = upd f k v := by
  unfold hset
  rw [if_neg (nI_pos (by omega)), if_pos (by rw [show (28 : Int32) = nI 28 from rfl, nI_ltI (by omega) (by decide)]; exact hk), nI_clamp (by omega)]
theorem hcell_at {f : Nat → Int32} {k : Nat} (hk : k < 28) : hcell f (nI k) = f k := by
  unfold hcell
  rw [if_neg (nI_pos (by omega)), if_pos (by rw [show (28 : Int32) = nI 28 from rfl, nI_ltI (by omega) (by decide)]; exact hk), nI_clamp (by omega)]
theorem hmF_eq {n k x : Nat} {b g : Nat → Int32} (hx : x < 4) (hk : k + 2 < n) (hn : n ≤ 48) (hg : g 21 = nI x) : hmF (nI n) b (nI k) g = upd (upd (upd g (4 + x) (10 * (b (k + 1) - 48))) x (b (k + 2) - 48)) 21 (nI (x + 1)) := by
  have e1 : hmF1 (nI n) b (nI k) g = upd g (4 + x) (10 * (b (k + 1) - 48)) := by
    unfold hmF1
    rw [nI_p1, tby_in (by omega) hn, hg, show (4 : Int32) = nI 4 from rfl, nI_add, hset_at (by omega)]
  have e2 : hmF2 (nI n) b (nI k) g = upd (upd g (4 + x) (10 * (b (k + 1) - 48))) x (b (k + 2) - 48) := by
    unfold hmF2
    rw [e1, upd_ne _ _ (by omega), hg, show (2 : Int32) = nI 2 from rfl, nI_add, tby_in hk hn, show (0 : Int32) + nI x = nI x from by rw [show (0 : Int32) = nI 0 from rfl, nI_add, Nat.zero_add], hset_at (by omega)]
  unfold hmF
  rw [e2, show (21 : Int32) = nI 21 from rfl, hset_at (by decide), hcell_at (by decide), upd_ne _ _ (show (21 : Nat) ≠ x by omega), upd_ne _ _ (show (21 : Nat) ≠ 4 + x by omega), hg, nI_p1]
theorem hmT_eq {n k y : Nat} {b g : Nat → Int32} (hy : y < 5) (hk : k + 1 < n) (hn : n ≤ 48) (hg : g 22 = nI y) : hmT (nI n) b (nI k) g = upd (upd g (16 + y) (b (k + 1) - 48)) 22 (nI (y + 1)) := by
  have e1 : hmT1 (nI n) b (nI k) g = upd g (16 + y) (b (k + 1) - 48) := by
    unfold hmT1
    rw [nI_p1, tby_in (by omega) hn, hg, show (16 : Int32) = nI 16 from rfl, nI_add, hset_at (by omega)]
  unfold hmT
  rw [e1, show (22 : Int32) = nI 22 from rfl, hset_at (by decide), hcell_at (by decide), upd_ne _ _ (show (22 : Nat) ≠ 16 + y by omega), hg, nI_p1]
theorem DR_F {sk gw v w : Int32} {x y : Nat} {g r a : Nat → Int32} (hx : x < 4) (hy : y ≤ 5) (h : DR sk gw x y g r a) (hv : ∃ z : Nat, z ≤ 9 ∧ v = nI z) : DR sk gw (x + 1) y (upd (upd (upd g (4 + x) (10 * v)) x w) 21 (nI (x + 1))) (upd (upd r (2 * x) (10 * v)) (2 * x + 1) w) a := by
  obtain ⟨h21, h22, h23, h24, hA, hB, hC, hE, hG, hH⟩ := h
  have ne : ∀ j, j ≠ 21 → j ≠ x → j ≠ 4 + x → upd (upd (upd g (4 + x) (10 * v)) x w) 21 (nI (x + 1)) j = g j := fun j a1 a2 a3 => by rw [upd_ne _ _ a1, upd_ne _ _ a2, upd_ne _ _ a3]
  refine ⟨upd_at _ _ _, ?_, ?_, ?_, ?_, ?_, ?_, ?_, ?_, ?_⟩
  · rw [ne _ (by decide) (by omega) (by omega)]; exact h22
  · rw [ne _ (by decide) (by omega) (by omega)]; exact h23
  · rw [ne _ (by decide) (by omega) (by omega)]; exact h24
  · intro j hj
    by_cases e : j = x
    · subst e
      refine ⟨?_, ?_, ?_⟩
      · rw [upd_ne _ _ (by omega), upd_ne _ _ (by omega), upd_at, upd_ne _ _ (by omega), upd_at]
      · rw [upd_ne _ _ (by omega), upd_at, upd_at]
      · obtain ⟨z, hz, rfl⟩ := hv
        exact ⟨10 * z, by omega, by rw [upd_ne _ _ (by omega), upd_at, show (10 : Int32) = nI 10 from rfl, pk_mul]⟩
    · obtain ⟨q1, q2, q3⟩ := hA j (by omega)
      rw [ne _ (by omega) (by omega) (by omega), ne _ (by omega) (by omega) (by omega), upd_ne _ _ (by omega), upd_ne _ _ (by omega), upd_ne _ _ (by omega), upd_ne _ _ (by omega)]
      exact ⟨q1, q2, q3⟩
  · intro j h1 h2
    rw [ne _ (by omega) (by omega) (by omega)]
    exact hB j (by omega) h2
  · intro t ht
    rw [ne _ (by omega) (by omega) (by omega)]; exact hC t ht
  · intro t h1 h2
    rw [ne _ (by omega) (by omega) (by omega)]
    exact hE t h1 h2
  · intro j h1 h2
    rw [ne _ (by omega) (by omega) (by omega)]
    exact hG j h1 h2
  · intro j h1 h2
    rw [ne _ (by omega) (by omega) (by omega)]
    exact hH j h1 h2
theorem DR_T {sk gw v : Int32} {x y : Nat} {g r a : Nat → Int32} (hx : x ≤ 4) (hy : y < 5) (h : DR sk gw x y g r a) (hv : ∃ z : Nat, z ≤ 9 ∧ v = nI z) : DR sk gw x (y + 1) (upd (upd g (16 + y) v) 22 (nI (y + 1))) r (upd a y v) := by
  obtain ⟨h21, h22, h23, h24, hA, hB, hC, hE, hG, hH⟩ := h
  have ne : ∀ j, j ≠ 22 → j ≠ 16 + y → upd (upd g (16 + y) v) 22 (nI (y + 1)) j = g j := fun j a1 a2 => by rw [upd_ne _ _ a1, upd_ne _ _ a2]
  refine ⟨?_, upd_at _ _ _, ?_, ?_, ?_, ?_, ?_, ?_, ?_, ?_⟩
  · rw [ne _ (by decide) (by omega)]; exact h21
  · rw [ne _ (by decide) (by omega)]; exact h23
  · rw [ne _ (by decide) (by omega)]; exact h24
  · intro j hj
    rw [ne _ (by omega) (by omega), ne _ (by omega) (by omega)]
    exact hA j hj
  · intro j h1 h2
    rw [ne _ (by omega) (by omega)]
    exact hB j h1 h2
  · intro t ht
    by_cases e : t = y
    · subst e
      obtain ⟨z, hz, rfl⟩ := hv
      rw [upd_ne _ _ (by omega), upd_at, upd_at]
      exact ⟨rfl, inr_mk (n := 10) (by decide) (by omega)⟩
    · rw [ne _ (by omega) (by omega), upd_ne _ _ e]
      exact hC t (by omega)
  · intro t h1 h2
    rw [ne _ (by omega) (by omega)]
    exact hE t (by omega) h2
  · intro j h1 h2
    rw [ne _ (by omega) (by omega)]
    exact hG j h1 h2
  · intro j h1 h2
    rw [ne _ (by omega) (by omega)]
    exact hH j h1 h2
theorem hmS_F {n k : Nat} {b g : Nat → Int32} (hk : k < n) (hn : n ≤ 48) (h : b k = 70) : hmS (nI n) b (nI k) g = hmF (nI n) b (nI k) g := by
  unfold hmS
  rw [tby_in hk hn, if_pos h]
theorem hmS_T {n k : Nat} {b g : Nat → Int32} (hk : k < n) (hn : n ≤ 48) (h : b k = 84) : hmS (nI n) b (nI k) g = hmT (nI n) b (nI k) g := by
  unfold hmS
  rw [tby_in hk hn, if_neg (by rw [h]; decide), if_pos h]
theorem hmS_d {n k : Nat} {b g : Nat → Int32} (hk : k < n) (hn : n ≤ 48) (h : d9 (b k) = true) : hmS (nI n) b (nI k) g = g := by
  obtain ⟨v, _, _, h1, h2⟩ := d9_v h
  unfold hmS
  rw [tby_in hk hn, if_neg h1, if_neg h2]
theorem hmL_S (n : Int32) (b : Nat → Int32) (m k : Nat) (f : Nat → Int32) : hmL n b (m + 1) k f = hmL n b m (k + 1) (hmS n b (nI k) f) := rfl
/-- what a run of the reader leaves -/
def RMok (I I' : Nat → Int32) (F F' : Nat → Nat → Int32) : Prop := (∀ j, j ≠ 3 → j ≠ 8 → j ≠ 9 → j ≠ 10 → j ≠ 12 → I' j = I j) ∧ (∀ j, j ≠ 3 → j ≠ 4 → F' j = F j)
theorem r3_F {I b : Nat → Int32} {k x n : Nat} (hx : x < 4) (hk : k < n) (hn : n ≤ 48) (e3 : I 3 = nI k) (e10 : I 10 = nI x) (h : b k = 70) : r3C I b = 1 := by
  unfold r3C
  rw [e3, nI_clamp (by omega), if_pos ⟨h, by rw [e10, show (4 : Int32) = nI 4 from rfl, nI_ltI (by omega) (by decide)]; exact hx⟩]
theorem r3_T {I b : Nat → Int32} {k y n : Nat} (hy : y < 5) (hk : k < n) (hn : n ≤ 48) (e3 : I 3 = nI k) (e12 : I 12 = nI y) (h : b k = 84) : r3C I b = 2 := by
  unfold r3C
  rw [e3, nI_clamp (by omega), if_neg (fun q => absurd (h.symm.trans q.1) (by decide)), if_pos ⟨h, by rw [e12, show (5 : Int32) = nI 5 from rfl, nI_ltI (by omega) (by decide)]; exact hy⟩]
theorem r3_0 {I b : Nat → Int32} {k n : Nat} (hk : k < n) (hn : n ≤ 48) (e3 : I 3 = nI k) (h1 : b k = 70 → I 10 = nI 4) (h2 : b k = 84 → I 12 = nI 5) : r3C I b = 0 := by
  unfold r3C
  rw [e3, nI_clamp (by omega), if_neg (fun q => absurd q.2 (by rw [h1 q.1]; decide)), if_neg (fun q => absurd q.2 (by rw [h2 q.1]; decide))]
set_option maxRecDepth 100000 in
set_option maxHeartbeats 4000000 in
theorem tr_X8_readManor_0_0 (d : Nat) (I : Nat → Int32) (F : Nat → Nat → Int32) (sd : Int64) : pm_EV (pm_run mt (d + 4)) (some .int) oX8_readManor (0, [some (.ref 0)], [], (hY I F sd)) = (if (I 2) = 0 then some (some (.int 0), (hY (upd (upd (upd I 3 0) 10 0) 12 0) F sd)) else (if ((F 1) 0) = 76 then pm_EV (pm_run mt (d + 4)) (some .int) oX8_readManor (20, [some (.ref 0)], [], (hY (upd (upd (upd I 3 0) 10 0) 12 0) F sd)) else some (some (.int 0), (hY (upd (upd (upd I 3 0) 10 0) 12 0) F sd)))) := by
  refine Eq.trans (pm_EV_at 11 (d := (11, [some (.ref 0)], [.int (I 2)], (hY (upd (upd (upd I 3 0) 10 0) 12 0) F sd))) (x := if (I 2) = 0 then .inl (18, [some (.ref 0)], [], (hY (upd (upd (upd I 3 0) 10 0) 12 0) F sd)) else .inl (12, [some (.ref 0)], [], (hY (upd (upd (upd I 3 0) 10 0) 12 0) F sd))) rfl rfl) ?_
  refine pm_rc (fun p1 => ?_) (fun p1 => ?_)
  · show pm_EV (pm_run mt (d + 4)) (some .int) oX8_readManor (18, [some (.ref 0)], [], (hY (upd (upd (upd I 3 0) 10 0) 12 0) F sd)) = _
    exact pm_EV_at 1 (d := (19, [some (.ref 0)], [.int 0], (hY (upd (upd (upd I 3 0) 10 0) 12 0) F sd))) rfl rfl
  · show pm_EV (pm_run mt (d + 4)) (some .int) oX8_readManor (12, [some (.ref 0)], [], (hY (upd (upd (upd I 3 0) 10 0) 12 0) F sd)) = _
    refine Eq.trans (pm_EV_at 5 (d := (17, [some (.ref 0)], [.int 76, .int ((F 1) 0)], (hY (upd (upd (upd I 3 0) 10 0) 12 0) F sd))) (x := if ((F 1) 0) = 76 then .inl (20, [some (.ref 0)], [], (hY (upd (upd (upd I 3 0) 10 0) 12 0) F sd)) else .inl (18, [some (.ref 0)], [], (hY (upd (upd (upd I 3 0) 10 0) 12 0) F sd))) rfl rfl) ?_
    refine pm_rc (fun p2 => ?_) (fun p2 => ?_)
    · show pm_EV (pm_run mt (d + 4)) (some .int) oX8_readManor (20, [some (.ref 0)], [], (hY (upd (upd (upd I 3 0) 10 0) 12 0) F sd)) = _
      rfl
    · show pm_EV (pm_run mt (d + 4)) (some .int) oX8_readManor (18, [some (.ref 0)], [], (hY (upd (upd (upd I 3 0) 10 0) 12 0) F sd)) = _
      exact pm_EV_at 1 (d := (19, [some (.ref 0)], [.int 0], (hY (upd (upd (upd I 3 0) 10 0) 12 0) F sd))) rfl rfl
set_option maxRecDepth 100000 in
set_option maxHeartbeats 4000000 in
theorem tr_X8_readManor_0_20 (d : Nat) (I : Nat → Int32) (F : Nat → Nat → Int32) (sd : Int64) (g1 : figOk (1) ((I 2))) : pm_EV (pm_run mt (d + 4)) (some .int) oX8_readManor (20, [some (.ref 0)], [], (hY I F sd)) = pm_EV (pm_run mt (d + 4)) (some .int) oX8_readManor (28, [some (.ref 0)], [], (hY (upd (upd I 3 (figP 9 (1) ((I 2)) ((F 1)))) 8 (figA 9 (1) ((I 2)) ((F 1)))) F sd)) := by
  refine Eq.trans (b := pm_EV (pm_run mt (d + 4)) (some .int) oX8_readManor (27, [some (.ref 0)], [.int (figA 9 (1) ((I 2)) ((F 1))), .ref 0], (hY (upd I 3 (figP 9 (1) ((I 2)) ((F 1)))) F sd))) (pm_EV_cl 6 (call := pm_run mt (d + 4)) (d := (26, [some (.ref 0)], [.int 9, .ref 0, .ref 0], (hY (upd I 3 1) F sd))) (a := 116) (as := [.ref 0, .int 9]) (hp := (hY (upd I 3 1) F sd)) (hp2 := (hY (upd I 3 (figP 9 (1) ((I 2)) ((F 1)))) F sd)) (i2 := 27) (ls := [some (.ref 0)]) (rest := [.ref 0]) (r := some (.int (figA 9 (1) ((I 2)) ((F 1))))) rfl rfl (sp_X8_figure_0 (d + 2) (upd I 3 1) F sd 9 g1)) ?_
  exact pm_EV_go 1 (d := (28, [some (.ref 0)], [], (hY (upd (upd I 3 (figP 9 (1) ((I 2)) ((F 1)))) 8 (figA 9 (1) ((I 2)) ((F 1)))) F sd))) rfl
set_option maxRecDepth 100000 in
set_option maxHeartbeats 4000000 in
theorem tr_X8_readManor_0_28 (d : Nat) (I : Nat → Int32) (F : Nat → Nat → Int32) (sd : Int64) (g1 : (¬ ((I 8) = (-9))) → figOk ((I 3)) ((I 2))) : pm_EV (pm_run mt (d + 4)) (some .int) oX8_readManor (28, [some (.ref 0)], [], (hY I F sd)) = (if (I 8) = (-9) then pm_EV (pm_run mt (d + 4)) (some .int) oX8_readManor (39, [some (.ref 0)], [], (hY (upd I 9 (-9)) F sd)) else pm_EV (pm_run mt (d + 4)) (some .int) oX8_readManor (39, [some (.ref 0)], [], (hY (upd (upd I 3 (figP 9 ((I 3)) ((I 2)) ((F 1)))) 9 (figA 9 ((I 3)) ((I 2)) ((F 1)))) F sd))) := by
  refine Eq.trans (pm_EV_at 4 (d := (32, [some (.ref 0)], [.int (-9), .int (I 8), .ref 0], (hY I F sd))) (x := if (I 8) = (-9) then .inl (33, [some (.ref 0)], [.ref 0], (hY I F sd)) else .inl (35, [some (.ref 0)], [.ref 0], (hY I F sd))) rfl rfl) ?_
  refine pm_rc (fun p1 => ?_) (fun p1 => ?_)
  · show pm_EV (pm_run mt (d + 4)) (some .int) oX8_readManor (33, [some (.ref 0)], [.ref 0], (hY I F sd)) = _
    exact pm_EV_go 3 (d := (39, [some (.ref 0)], [], (hY (upd I 9 (-9)) F sd))) rfl
  · show pm_EV (pm_run mt (d + 4)) (some .int) oX8_readManor (35, [some (.ref 0)], [.ref 0], (hY I F sd)) = _
    refine Eq.trans (b := pm_EV (pm_run mt (d + 4)) (some .int) oX8_readManor (38, [some (.ref 0)], [.int (figA 9 ((I 3)) ((I 2)) ((F 1))), .ref 0], (hY (upd I 3 (figP 9 ((I 3)) ((I 2)) ((F 1)))) F sd))) (pm_EV_cl 2 (call := pm_run mt (d + 4)) (d := (37, [some (.ref 0)], [.int 9, .ref 0, .ref 0], (hY I F sd))) (a := 116) (as := [.ref 0, .int 9]) (hp := (hY I F sd)) (hp2 := (hY (upd I 3 (figP 9 ((I 3)) ((I 2)) ((F 1)))) F sd)) (i2 := 38) (ls := [some (.ref 0)]) (rest := [.ref 0]) (r := some (.int (figA 9 ((I 3)) ((I 2)) ((F 1))))) rfl rfl (sp_X8_figure_0 (d + 2) I F sd 9 (g1 p1))) ?_
    exact pm_EV_go 1 (d := (39, [some (.ref 0)], [], (hY (upd (upd I 3 (figP 9 ((I 3)) ((I 2)) ((F 1)))) 9 (figA 9 ((I 3)) ((I 2)) ((F 1)))) F sd))) rfl
set_option maxRecDepth 100000 in
set_option maxHeartbeats 4000000 in
theorem tr_X8_readManor_0_39 (d : Nat) (I : Nat → Int32) (F : Nat → Nat → Int32) (sd : Int64) : pm_EV (pm_run mt (d + 4)) (some .int) oX8_readManor (39, [some (.ref 0)], [], (hY I F sd)) = (if (I 9) = (-9) then some (some (.int (I 3)), (hY I F sd)) else pm_EV (pm_run mt (d + 4)) (some .int) oX8_readManor (46, [some (.ref 0)], [], (hY I F sd))) := by
  refine Eq.trans (pm_EV_at 3 (d := (42, [some (.ref 0)], [.int (-9), .int (I 9)], (hY I F sd))) (x := if (I 9) = (-9) then .inl (43, [some (.ref 0)], [], (hY I F sd)) else .inl (46, [some (.ref 0)], [], (hY I F sd))) rfl rfl) ?_
  refine pm_rc (fun p1 => ?_) (fun p1 => ?_)
  · show pm_EV (pm_run mt (d + 4)) (some .int) oX8_readManor (43, [some (.ref 0)], [], (hY I F sd)) = _
    exact pm_EV_at 2 (d := (45, [some (.ref 0)], [.int (I 3)], (hY I F sd))) rfl rfl
  · show pm_EV (pm_run mt (d + 4)) (some .int) oX8_readManor (46, [some (.ref 0)], [], (hY I F sd)) = _
    rfl
set_option maxRecDepth 100000 in
set_option maxHeartbeats 4000000 in
theorem tr_X8_readManor_0_46 (d : Nat) (I : Nat → Int32) (F : Nat → Nat → Int32) (sd : Int64) (g1 : ((I 3) < (I 2)) → r3ok ((I 3)) ((I 2)) ((I 10)) ((I 12))) : pm_EV (pm_run mt (d + 4)) (some .int) oX8_readManor (46, [some (.ref 0)], [], (hY I F sd)) = (if (I 3) < (I 2) then (if (bI (r3A I ((F 1)))) = 0 then some (some (.int ((r3I I ((F 1))) 3)), (hY (r3I I ((F 1))) (uF (uF F 3 (r3F I ((F 1)) ((F 3)))) 4 (r3G I ((F 1)) ((F 4)))) sd)) else pm_EV (pm_run mt (d + 4)) (some .int) oX8_readManor (46, [some (.ref 0)], [], (hY (r3I I ((F 1))) (uF (uF F 3 (r3F I ((F 1)) ((F 3)))) 4 (r3G I ((F 1)) ((F 4)))) sd))) else some (some (.int (-9)), (hY I F sd))) := by
  refine Eq.trans (pm_EV_at 4 (d := (50, [some (.ref 0)], [.int (I 2), .int (I 3)], (hY I F sd))) (x := if (I 3) < (I 2) then .inl (51, [some (.ref 0)], [], (hY I F sd)) else .inl (57, [some (.ref 0)], [], (hY I F sd))) rfl rfl) ?_
  refine pm_rc (fun p1 => ?_) (fun p1 => ?_)
  · show pm_EV (pm_run mt (d + 4)) (some .int) oX8_readManor (51, [some (.ref 0)], [], (hY I F sd)) = _
    refine Eq.trans (b := pm_EV (pm_run mt (d + 4)) (some .int) oX8_readManor (53, [some (.ref 0)], [.int (bI (r3A I ((F 1))))], (hY (r3I I ((F 1))) (uF (uF F 3 (r3F I ((F 1)) ((F 3)))) 4 (r3G I ((F 1)) ((F 4)))) sd))) (pm_EV_cl 1 (call := pm_run mt (d + 4)) (d := (52, [some (.ref 0)], [.ref 0], (hY I F sd))) (a := 119) (as := [.ref 0]) (hp := (hY I F sd)) (hp2 := (hY (r3I I ((F 1))) (uF (uF F 3 (r3F I ((F 1)) ((F 3)))) 4 (r3G I ((F 1)) ((F 4)))) sd)) (i2 := 53) (ls := [some (.ref 0)]) (rest := []) (r := some (.int (bI (r3A I ((F 1)))))) rfl rfl (sp_X8_readPart_0 (d + 0) I F sd  (g1 p1))) ?_
    refine Eq.trans (pm_EV_at 0 (d := (53, [some (.ref 0)], [.int (bI (r3A I ((F 1))))], (hY (r3I I ((F 1))) (uF (uF F 3 (r3F I ((F 1)) ((F 3)))) 4 (r3G I ((F 1)) ((F 4)))) sd))) (x := if (bI (r3A I ((F 1)))) = 0 then .inl (54, [some (.ref 0)], [], (hY (r3I I ((F 1))) (uF (uF F 3 (r3F I ((F 1)) ((F 3)))) 4 (r3G I ((F 1)) ((F 4)))) sd)) else .inl (46, [some (.ref 0)], [], (hY (r3I I ((F 1))) (uF (uF F 3 (r3F I ((F 1)) ((F 3)))) 4 (r3G I ((F 1)) ((F 4)))) sd))) rfl rfl) ?_
    refine pm_rc (fun p2 => ?_) (fun p2 => ?_)
    · show pm_EV (pm_run mt (d + 4)) (some .int) oX8_readManor (54, [some (.ref 0)], [], (hY (r3I I ((F 1))) (uF (uF F 3 (r3F I ((F 1)) ((F 3)))) 4 (r3G I ((F 1)) ((F 4)))) sd)) = _
      exact pm_EV_at 2 (d := (56, [some (.ref 0)], [.int ((r3I I ((F 1))) 3)], (hY (r3I I ((F 1))) (uF (uF F 3 (r3F I ((F 1)) ((F 3)))) 4 (r3G I ((F 1)) ((F 4)))) sd))) rfl rfl
    · show pm_EV (pm_run mt (d + 4)) (some .int) oX8_readManor (46, [some (.ref 0)], [], (hY (r3I I ((F 1))) (uF (uF F 3 (r3F I ((F 1)) ((F 3)))) 4 (r3G I ((F 1)) ((F 4)))) sd)) = _
      rfl
  · show pm_EV (pm_run mt (d + 4)) (some .int) oX8_readManor (57, [some (.ref 0)], [], (hY I F sd)) = _
    exact pm_EV_at 1 (d := (58, [some (.ref 0)], [.int (-9)], (hY I F sd))) rfl rfl
set_option maxRecDepth 100000 in
set_option maxHeartbeats 4000000 in
theorem rm_lp (d : Nat) (sd : Int64) (n : Nat) (hn : n ≤ 48) (b : Nat → Int32) (sk gw : Int32) : ∀ (N m k x y : Nat) (I : Nat → Int32) (F : Nat → Nat → Int32) (g : Nat → Int32), m ≤ N → k + m = n → I 2 = nI n → I 3 = nI k → I 10 = nI x → I 12 = nI y → x ≤ 4 → y ≤ 5 → F 1 = b → DR sk gw x y g (F 3) (F 4) →
    ∃ I' F', pm_EV (pm_run mt (d + 4)) (some .int) oX8_readManor (46, [some (.ref 0)], [], hY I F sd) = some (some (.int (ffL b n m k 3 (nI x) (nI y))), hY I' F' sd) ∧ RMok I I' F F' ∧ I' 8 = I 8 ∧ I' 9 = I 9 ∧ (ffL b n m k 3 (nI x) (nI y) = -9 → ∃ x' y', x' ≤ 4 ∧ y' ≤ 5 ∧ I' 10 = nI x' ∧ I' 12 = nI y' ∧ DR sk gw x' y' (hmL (nI n) b m k g) (F' 3) (F' 4)) := by
  intro N
  induction N with
  | zero =>
    intro m k x y I F g hm hk e2 e3 e10 e12 hx hy e1 hD
    obtain rfl : m = 0 := by omega
    refine ⟨I, F, ?_, ⟨fun _ _ _ _ _ _ => rfl, fun _ _ _ => rfl⟩, rfl, rfl, fun _ => ⟨x, y, hx, hy, e10, e12, hD⟩⟩
    rw [tr_X8_readManor_0_46 _ _ _ _ (fun h => absurd h (by rw [e2, e3, nI_ltI (by omega) (by omega)]; omega)), if_neg (by rw [e2, e3, nI_ltI (by omega) (by omega)]; omega), ffL_30]
  | succ N ih =>
    intro m k x y I F g hm hk e2 e3 e10 e12 hx hy e1 hD
    rcases Nat.eq_zero_or_pos m with hm0 | hm0
    · subst hm0
      exact ih 0 k x y I F g (by omega) hk e2 e3 e10 e12 hx hy e1 hD
    obtain ⟨m1, rfl⟩ : ∃ q, m = q + 1 := ⟨m - 1, by omega⟩
    have hkn : k < n := by omega
    have hlt : I 3 < I 2 := by rw [e2, e3, nI_ltI (by omega) (by omega)]; exact hkn
    have ok3 : r3ok (I 3) (I 2) (I 10) (I 12) := ⟨k, n, x, y, hkn, hn, hx, hy, e3, e2, e10, e12⟩
    have tr := tr_X8_readManor_0_46 d I F sd (fun _ => ok3)
    rw [if_pos hlt, e1] at tr
    simp only [bI_0] at tr
    have u3 : r3u I 3 = nI (k + 1) := by unfold r3u; rw [upd_at, e3, nI_p1]
    have u2 : r3u I 2 = nI n := by unfold r3u; rw [upd_ne _ _ (by decide)]; exact e2
    have u10 : r3u I 10 = nI x := by unfold r3u; rw [upd_ne _ _ (by decide)]; exact e10
    have u12 : r3u I 12 = nI y := by unfold r3u; rw [upd_ne _ _ (by decide)]; exact e12
    -- nothing fits: the place goes back
    have stop : r3C I b = 0 → ffL b n (m1 + 1) k 3 (nI x) (nI y) = nI k → ∃ I' F', pm_EV (pm_run mt (d + 4)) (some .int) oX8_readManor (46, [some (.ref 0)], [], hY I F sd) = some (some (.int (ffL b n (m1 + 1) k 3 (nI x) (nI y))), hY I' F' sd) ∧ RMok I I' F F' ∧ I' 8 = I 8 ∧ I' 9 = I 9 ∧ (ffL b n (m1 + 1) k 3 (nI x) (nI y) = -9 → ∃ x' y', x' ≤ 4 ∧ y' ≤ 5 ∧ I' 10 = nI x' ∧ I' 12 = nI y' ∧ DR sk gw x' y' (hmL (nI n) b (m1 + 1) k g) (F' 3) (F' 4)) := by
      intro c0 hf
      have a0 : r3A I b = false := by unfold r3A; rw [c0, if_neg (by decide), if_neg (by decide)]
      have i0 : r3I I b = I := by unfold r3I; rw [c0, if_neg (by decide), if_neg (by decide)]
      have f0 : r3F I b (F 3) = F 3 := by unfold r3F; rw [c0, if_neg (by decide)]
      have g0 : r3G I b (F 4) = F 4 := by unfold r3G; rw [c0, if_neg (by decide)]
      rw [if_pos a0, i0, f0, g0, uF_self, uF_self, e3] at tr
      exact ⟨I, F, by rw [tr, hf], ⟨fun _ _ _ _ _ _ => rfl, fun _ _ _ => rfl⟩, rfl, rfl, fun h => absurd (hf.symm.trans h) (by
        intro e
        have : (nI k).toInt = (-9 : Int32).toInt := by rw [e]
        rw [nI_toInt (by omega), show (-9 : Int32).toInt = -9 from rfl] at this
        omega)⟩
    by_cases c70 : b k = 70
    · rcases Nat.lt_or_ge x 4 with hx4 | hx4
      · -- a food
        have c1 := r3_F hx4 hkn hn e3 e10 c70
        have aA : r3A I b = r1A (r3u I) b := by unfold r3A; rw [if_pos c1]
        have aI : r3I I b = r1I (r3u I) b := by unfold r3I; rw [if_pos c1]
        have aF : r3F I b (F 3) = r1F (r3u I) b (F 3) := by unfold r3F; rw [if_pos c1]
        have aG : r3G I b (F 4) = F 4 := by unfold r3G; rw [if_neg (by rw [c1]; decide)]
        rw [aA, aI, aF, aG] at tr
        have hff := ffL_F (f := b) (n := n) (m := m1) (k := k) hx4 hy c70
        rw [hff]
        -- the first figure
        have bad : r1a (r3u I) b = -9 → r1p (r3u I) b = nI (k + 1) → ffL b n m1 (k + 1) 4 (nI (x + 1)) (nI y) = nI (k + 1) → ∃ I' F', pm_EV (pm_run mt (d + 4)) (some .int) oX8_readManor (46, [some (.ref 0)], [], hY I F sd) = some (some (.int (ffL b n m1 (k + 1) 4 (nI (x + 1)) (nI y))), hY I' F' sd) ∧ RMok I I' F F' ∧ I' 8 = I 8 ∧ I' 9 = I 9 ∧ (ffL b n m1 (k + 1) 4 (nI (x + 1)) (nI y) = -9 → ∃ x' y', x' ≤ 4 ∧ y' ≤ 5 ∧ I' 10 = nI x' ∧ I' 12 = nI y' ∧ DR sk gw x' y' (hmL (nI n) b (m1 + 1) k g) (F' 3) (F' 4)) := by
          intro q1 q2 q3
          have z1 : r1A (r3u I) b = false := by unfold r1A; rw [q1]; rfl
          have z2 : r1I (r3u I) b = upd (r3u I) 3 (nI (k + 1)) := by unfold r1I; rw [if_pos q1, q2]
          have z3 : r1F (r3u I) b (F 3) = F 3 := by unfold r1F; rw [if_pos q1]
          rw [if_pos z1, z2, z3, uF_self, uF_self, upd_at] at tr
          exact ⟨upd (r3u I) 3 (nI (k + 1)), F, by rw [tr, q3], ⟨fun j a1 _ _ _ _ => by rw [upd_ne _ _ a1]; exact upd_ne _ _ a1, fun _ _ _ => rfl⟩, rfl, rfl, fun h => absurd (q3.symm.trans h) (by
            intro e
            have : (nI (k + 1)).toInt = (-9 : Int32).toInt := by rw [e]
            rw [nI_toInt (by omega), show (-9 : Int32).toInt = -9 from rfl] at this
            omega)⟩
        have ra : r1a (r3u I) b = figA 9 (nI (k + 1)) (nI n) b := by unfold r1a; rw [u3, u2]
        have rp : r1p (r3u I) b = figP 9 (nI (k + 1)) (nI n) b := by unfold r1p; rw [u3, u2]
        rcases Nat.eq_zero_or_pos m1 with hm1 | hm1
        · subst hm1
          have hkk : k + 1 = n := by omega
          exact bad (by rw [ra, hkk]; exact figA9_n.1) (by rw [rp, hkk]; exact figA9_n.2) (by rw [ffL_0 (by decide), hkk])
        obtain ⟨m2, rfl⟩ : ∃ q, m1 = q + 1 := ⟨m1 - 1, by omega⟩
        cases c9 : d9 (b (k + 1))
        · have := figA9_f (k := k + 1) (n := n) (b := b) (by omega) hn c9
          exact bad (by rw [ra]; exact this.1) (by rw [rp]; exact this.2) (by rw [ffL_no (by rw [tfit4]; exact c9)])
        -- the second figure
        have t9 := figA9_t (k := k + 1) (n := n) (b := b) (by omega) hn c9
        rw [t9.1] at ra
        rw [t9.2] at rp
        obtain ⟨v, hv, ev, -, -⟩ := d9_v c9
        have nra : ¬ r1a (r3u I) b = -9 := by rw [ra, ev]; exact nI_ne9 hv
        have hf2 : ffL b n (m2 + 1) (k + 1) 4 (nI (x + 1)) (nI y) = ffL b n m2 (k + 2) 5 (nI (x + 1)) (nI y) := by
          rw [ffL_d (by decide) (by omega) hy (by rw [tfit4]; exact c9)]
          rfl
        rw [hf2]
        have rb : r1b (r3u I) b = figA 3 (nI (k + 2)) (nI n) b := by unfold r1b; rw [rp, u2]
        have rq : r1q (r3u I) b = figP 3 (nI (k + 2)) (nI n) b := by unfold r1q; rw [rp, u2]
        have bad2 : r1b (r3u I) b = -9 → r1q (r3u I) b = nI (k + 2) → ffL b n m2 (k + 2) 5 (nI (x + 1)) (nI y) = nI (k + 2) → ∃ I' F', pm_EV (pm_run mt (d + 4)) (some .int) oX8_readManor (46, [some (.ref 0)], [], hY I F sd) = some (some (.int (ffL b n m2 (k + 2) 5 (nI (x + 1)) (nI y))), hY I' F' sd) ∧ RMok I I' F F' ∧ I' 8 = I 8 ∧ I' 9 = I 9 ∧ (ffL b n m2 (k + 2) 5 (nI (x + 1)) (nI y) = -9 → ∃ x' y', x' ≤ 4 ∧ y' ≤ 5 ∧ I' 10 = nI x' ∧ I' 12 = nI y' ∧ DR sk gw x' y' (hmL (nI n) b (m2 + 1 + 1) k g) (F' 3) (F' 4)) := by
          intro q1 q2 q3
          have z1 : r1A (r3u I) b = false := by unfold r1A; rw [q1]; exact Bool.and_false _
          have z2 : r1I (r3u I) b = upd (r3u I) 3 (nI (k + 2)) := by unfold r1I; rw [if_neg nra, if_pos q1, q2]
          have z3 : r1F (r3u I) b (F 3) = F 3 := by unfold r1F; rw [if_neg nra, if_pos q1]
          rw [if_pos z1, z2, z3, uF_self, uF_self, upd_at] at tr
          exact ⟨upd (r3u I) 3 (nI (k + 2)), F, by rw [tr, q3], ⟨fun j a1 _ _ _ _ => by rw [upd_ne _ _ a1]; exact upd_ne _ _ a1, fun _ _ _ => rfl⟩, rfl, rfl, fun h => absurd (q3.symm.trans h) (by
            intro e
            have : (nI (k + 2)).toInt = (-9 : Int32).toInt := by rw [e]
            rw [nI_toInt (by omega), show (-9 : Int32).toInt = -9 from rfl] at this
            omega)⟩
        rcases Nat.eq_zero_or_pos m2 with hm2 | hm2
        · subst hm2
          have hkk : k + 2 = n := by omega
          exact bad2 (by rw [rb, hkk]; exact figA9_n.1) (by rw [rq, hkk]; exact figA9_n.2) (by rw [ffL_0 (by decide), hkk])
        obtain ⟨m3, rfl⟩ : ∃ q, m2 = q + 1 := ⟨m2 - 1, by omega⟩
        cases c3 : d3 (b (k + 2))
        · have := figA3_f (k := k + 2) (n := n) (b := b) (by omega) hn c3
          exact bad2 (by rw [rb]; exact this.1) (by rw [rq]; exact this.2) (by rw [ffL_no (by rw [tfit5]; exact c3)])
        have t3 := figA3_t (k := k + 2) (n := n) (b := b) (by omega) hn c3
        rw [t3.1] at rb
        rw [t3.2] at rq
        obtain ⟨w, hw, ew, -, -⟩ := d9_v (d3_9 c3)
        have nrb : ¬ r1b (r3u I) b = -9 := by rw [rb, ew]; exact nI_ne9 hw
        have hf3 : ffL b n (m3 + 1) (k + 2) 5 (nI (x + 1)) (nI y) = ffL b n m3 (k + 3) 3 (nI (x + 1)) (nI y) := by
          rw [ffL_d (by decide) (by omega) hy (by rw [tfit5]; exact c3)]
          rfl
        rw [hf3]
        have z1 : ¬ r1A (r3u I) b = false := by unfold r1A; simp [nra, nrb]
        have z2 : r1I (r3u I) b = upd (upd (r3u I) 3 (nI (k + 3))) 10 (nI (x + 1)) := by unfold r1I; rw [if_neg nra, if_neg nrb, rq, u10, nI_p1]
        have z3 : r1F (r3u I) b (F 3) = upd (upd (F 3) (2 * x) (10 * (b (k + 1) - 48))) (2 * x + 1) (b (k + 2) - 48) := by
          unfold r1F
          rw [if_neg nra, if_neg nrb, u10, show (2 : Int32) = nI 2 from rfl, pk_mul, nI_p1, nI_clamp (by omega), nI_clamp (by omega), ra, rb]
        rw [if_neg z1, z2, z3, show uF (uF F 3 (upd (upd (F 3) (2 * x) (10 * (b (k + 1) - 48))) (2 * x + 1) (b (k + 2) - 48))) 4 (F 4) = uF F 3 (upd (upd (F 3) (2 * x) (10 * (b (k + 1) - 48))) (2 * x + 1) (b (k + 2) - 48)) from uF_keep _ _ (by decide)] at tr
        have hD2 := DR_F (w := b (k + 2) - 48) hx4 hy hD ⟨v, hv, ev⟩
        rw [← hmF_eq (n := n) (k := k) (b := b) hx4 (by omega) hn hD.1] at hD2
        obtain ⟨I', F', p1, ⟨p2, p3⟩, p8, p9, p4⟩ := ih m3 (k + 3) (x + 1) y (upd (upd (r3u I) 3 (nI (k + 3))) 10 (nI (x + 1))) (uF F 3 (upd (upd (F 3) (2 * x) (10 * (b (k + 1) - 48))) (2 * x + 1) (b (k + 2) - 48))) (hmF (nI n) b (nI k) g) (by omega) (by omega) (by rw [upd_ne _ _ (by decide), upd_ne _ _ (by decide)]; exact u2) (by rw [upd_ne _ _ (by decide), upd_at]) (by rw [upd_at]) (by rw [upd_ne _ _ (by decide), upd_ne _ _ (by decide)]; exact u12) (by omega) hy (by rw [uF_ne _ _ (by decide)]; exact e1) (by rw [uF_at, uF_ne _ _ (by decide)]; exact hD2)
        refine ⟨I', F', by rw [tr, p1], ⟨fun j a1 a2 a3 a4 a5 => by rw [p2 j a1 a2 a3 a4 a5, upd_ne _ _ a4, upd_ne _ _ a1]; exact upd_ne _ _ a1, fun j a1 a2 => by rw [p3 j a1 a2, uF_ne _ _ a1]⟩, by rw [p8]; rfl, by rw [p9]; rfl, fun h => ?_⟩
        obtain ⟨x', y', s1, s2, s3, s4, s5⟩ := p4 h
        refine ⟨x', y', s1, s2, s3, s4, ?_⟩
        rw [hmL_S, hmL_S, hmL_S, hmS_F hkn hn c70, hmS_d (by omega) hn c9, hmS_d (by omega) hn (d3_9 c3)]
        exact s5
      · obtain rfl : x = 4 := by omega
        exact stop (r3_0 hkn hn e3 (fun _ => e10) (fun h => absurd (c70.symm.trans h) (by decide))) (ffL_F4 c70)
    · by_cases c84 : b k = 84
      · rcases Nat.lt_or_ge y 5 with hy5 | hy5
        · have c1 := r3_T hy5 hkn hn e3 e12 c84
          have aA : r3A I b = r2A (r3u I) b := by unfold r3A; rw [if_neg (by rw [c1]; decide), if_pos c1]
          have aI : r3I I b = r2I (r3u I) b := by unfold r3I; rw [if_neg (by rw [c1]; decide), if_pos c1]
          have aF : r3F I b (F 3) = F 3 := by unfold r3F; rw [if_neg (by rw [c1]; decide)]
          have aG : r3G I b (F 4) = r2F (r3u I) b (F 4) := by unfold r3G; rw [if_pos c1]
          rw [aA, aI, aF, aG, uF_self] at tr
          have hff := ffL_T (f := b) (n := n) (m := m1) (k := k) hx hy5 c84
          rw [hff]
          have bad : r1a (r3u I) b = -9 → r1p (r3u I) b = nI (k + 1) → ffL b n m1 (k + 1) 6 (nI x) (nI (y + 1)) = nI (k + 1) → ∃ I' F', pm_EV (pm_run mt (d + 4)) (some .int) oX8_readManor (46, [some (.ref 0)], [], hY I F sd) = some (some (.int (ffL b n m1 (k + 1) 6 (nI x) (nI (y + 1)))), hY I' F' sd) ∧ RMok I I' F F' ∧ I' 8 = I 8 ∧ I' 9 = I 9 ∧ (ffL b n m1 (k + 1) 6 (nI x) (nI (y + 1)) = -9 → ∃ x' y', x' ≤ 4 ∧ y' ≤ 5 ∧ I' 10 = nI x' ∧ I' 12 = nI y' ∧ DR sk gw x' y' (hmL (nI n) b (m1 + 1) k g) (F' 3) (F' 4)) := by
            intro q1 q2 q3
            have z1 : r2A (r3u I) b = false := by unfold r2A; rw [q1]; rfl
            have z2 : r2I (r3u I) b = upd (r3u I) 3 (nI (k + 1)) := by unfold r2I; rw [if_pos q1, q2]
            have z3 : r2F (r3u I) b (F 4) = F 4 := by unfold r2F; rw [if_pos q1]
            rw [if_pos z1, z2, z3, uF_self, upd_at] at tr
            exact ⟨upd (r3u I) 3 (nI (k + 1)), F, by rw [tr, q3], ⟨fun j a1 _ _ _ _ => by rw [upd_ne _ _ a1]; exact upd_ne _ _ a1, fun _ _ _ => rfl⟩, rfl, rfl, fun h => absurd (q3.symm.trans h) (by
              intro e
              have : (nI (k + 1)).toInt = (-9 : Int32).toInt := by rw [e]
              rw [nI_toInt (by omega), show (-9 : Int32).toInt = -9 from rfl] at this
              omega)⟩
          have ra : r1a (r3u I) b = figA 9 (nI (k + 1)) (nI n) b := by unfold r1a; rw [u3, u2]
          have rp : r1p (r3u I) b = figP 9 (nI (k + 1)) (nI n) b := by unfold r1p; rw [u3, u2]
          rcases Nat.eq_zero_or_pos m1 with hm1 | hm1
          · subst hm1
            have hkk : k + 1 = n := by omega
            exact bad (by rw [ra, hkk]; exact figA9_n.1) (by rw [rp, hkk]; exact figA9_n.2) (by rw [ffL_0 (by decide), hkk])
          obtain ⟨m2, rfl⟩ : ∃ q, m1 = q + 1 := ⟨m1 - 1, by omega⟩
          cases c9 : d9 (b (k + 1))
          · have := figA9_f (k := k + 1) (n := n) (b := b) (by omega) hn c9
            exact bad (by rw [ra]; exact this.1) (by rw [rp]; exact this.2) (by rw [ffL_no (by rw [tfit6]; exact c9)])
          have t9 := figA9_t (k := k + 1) (n := n) (b := b) (by omega) hn c9
          rw [t9.1] at ra
          rw [t9.2] at rp
          obtain ⟨v, hv, ev, -, -⟩ := d9_v c9
          have nra : ¬ r1a (r3u I) b = -9 := by rw [ra, ev]; exact nI_ne9 hv
          have hf2 : ffL b n (m2 + 1) (k + 1) 6 (nI x) (nI (y + 1)) = ffL b n m2 (k + 2) 3 (nI x) (nI (y + 1)) := by
            rw [ffL_d (by decide) hx (by omega) (by rw [tfit6]; exact c9)]
            rfl
          rw [hf2]
          have z1 : ¬ r2A (r3u I) b = false := by unfold r2A; simp [nra]
          have z2 : r2I (r3u I) b = upd (upd (r3u I) 3 (nI (k + 2))) 12 (nI (y + 1)) := by unfold r2I; rw [if_neg nra, rp, u12, nI_p1]
          have z3 : r2F (r3u I) b (F 4) = upd (F 4) y (b (k + 1) - 48) := by
            unfold r2F
            rw [if_neg nra, u12, nI_clamp (by omega), ra]
          rw [if_neg z1, z2, z3] at tr
          have hD2 := DR_T hx hy5 hD ⟨v, hv, ev⟩
          rw [← hmT_eq (n := n) (k := k) (b := b) hy5 (by omega) hn hD.2.1] at hD2
          obtain ⟨I', F', p1, ⟨p2, p3⟩, p8, p9, p4⟩ := ih m2 (k + 2) x (y + 1) (upd (upd (r3u I) 3 (nI (k + 2))) 12 (nI (y + 1))) (uF F 4 (upd (F 4) y (b (k + 1) - 48))) (hmT (nI n) b (nI k) g) (by omega) (by omega) (by rw [upd_ne _ _ (by decide), upd_ne _ _ (by decide)]; exact u2) (by rw [upd_ne _ _ (by decide), upd_at]) (by rw [upd_ne _ _ (by decide), upd_ne _ _ (by decide)]; exact u10) (by rw [upd_at]) hx (by omega) (by rw [uF_ne _ _ (by decide)]; exact e1) (by rw [uF_at, uF_ne _ _ (by decide)]; exact hD2)
          refine ⟨I', F', by rw [tr, p1], ⟨fun j a1 a2 a3 a4 a5 => by rw [p2 j a1 a2 a3 a4 a5, upd_ne _ _ a5, upd_ne _ _ a1]; exact upd_ne _ _ a1, fun j a1 a2 => by rw [p3 j a1 a2, uF_ne _ _ a2]⟩, by rw [p8]; rfl, by rw [p9]; rfl, fun h => ?_⟩
          obtain ⟨x', y', s1, s2, s3, s4, s5⟩ := p4 h
          refine ⟨x', y', s1, s2, s3, s4, ?_⟩
          rw [hmL_S, hmL_S, hmS_T hkn hn c84, hmS_d (by omega) hn c9]
          exact s5
        · obtain rfl : y = 5 := by omega
          exact stop (r3_0 hkn hn e3 (fun h => absurd h c70) (fun _ => e12)) (ffL_T5 hx c84)
      · refine stop (r3_0 hkn hn e3 (fun h => absurd h c70) (fun h => absurd h c84)) (ffL_no ?_)
        show (decide (b k = 70) || decide (b k = 84)) = false
        simp [c70, c84]
