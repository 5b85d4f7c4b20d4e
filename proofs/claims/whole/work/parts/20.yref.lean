/-! the reference: small ones -/
def lin (v a b : Int64) : Bool := !decide (v < a) && !decide (b < v)
theorem lc_lt (x y : Int64) : (lg_cmp x y < 0) = (x < y) := by
  apply propext
  unfold lg_cmp
  by_cases h : x > y
  · rw [if_pos h]
    constructor
    · intro h2; exact absurd h2 (by decide)
    · intro h2
      exfalso
      rw [gt_iff_lt, Int64.lt_iff_toInt_lt] at h
      rw [Int64.lt_iff_toInt_lt] at h2
      omega
  · rw [if_neg h]
    by_cases h2 : x = y
    · rw [if_pos h2]
      constructor
      · intro h3; exact absurd h3 (by decide)
      · intro h3
        exfalso
        rw [h2, Int64.lt_iff_toInt_lt] at h3
        omega
    · rw [if_neg h2]
      constructor
      · intro _
        rw [gt_iff_lt, Int64.lt_iff_toInt_lt] at h
        rw [Int64.lt_iff_toInt_lt]
        rw [← Int64.toInt_inj] at h2
        omega
      · intro _; decide
theorem lc_gt (x y : Int64) : (0 < lg_cmp x y) = (y < x) := by
  apply propext
  unfold lg_cmp
  by_cases h : x > y
  · rw [if_pos h]
    exact ⟨fun _ => h, fun _ => by decide⟩
  · rw [if_neg h]
    constructor
    · intro h2
      by_cases h3 : x = y
      · rw [if_pos h3] at h2; exact absurd h2 (by decide)
      · rw [if_neg h3] at h2; exact absurd h2 (by decide)
    · intro h2; exact absurd h2 h
theorem lc_eq (x y : Int64) : (lg_cmp x y = 0) = (x = y) := by
  apply propext
  unfold lg_cmp
  by_cases h : x > y
  · rw [if_pos h]
    constructor
    · intro h2; exact absurd h2 (by decide)
    · intro h2
      exfalso
      rw [h2, gt_iff_lt, Int64.lt_iff_toInt_lt] at h
      omega
  · rw [if_neg h]
    by_cases h2 : x = y
    · rw [if_pos h2]; exact ⟨fun _ => h2, fun _ => rfl⟩
    · rw [if_neg h2]
      constructor
      · intro h3; exact absurd h3 (by decide)
      · intro h3; exact absurd h3 h2
theorem w_lt (a b : Int32) : (a.toInt64 < b.toInt64) = (a < b) := by
  apply propext
  rw [Int64.lt_iff_toInt_lt, Int32.lt_iff_toInt_lt, Int32.toInt_toInt64, Int32.toInt_toInt64]
theorem lin_lit (x : Int32) (a b : Int32) : lin x.toInt64 a.toInt64 b.toInt64 = (!decide (x < a) && !decide (b < x)) := by
  unfold lin
  simp only [w_lt]
def yhas (s k : Int32) : Bool := decide ((s >>> (k &&& 31)) &&& 1 = 1)
def ymS (s : Int32) : Nat → Int32
  | 0 => 0
  | k + 1 => ymS s k + ((s >>> (nI k &&& 31)) &&& 1)
def ymany (s : Int32) : Int32 := ymS s 10
def ypS (a : Int32) : Nat → Int32
  | 0 => 1
  | k + 1 => ypS a k * a
def ypow (a n : Int32) : Int32 := ypS a n.toNatClampNeg
def yapart (a b : Int32) : Int32 := if a < b then b - a else a - b
theorem inr_sub {n : Nat} {x m : Int32} (hn : n ≤ 100) (hm : m = nI n) : inr x m = (!decide (x < 0) && !decide (m - 1 < x)) := by
  subst hm
  unfold inr
  congr 1
  rw [← decide_not]
  congr 1
  rw [Int32.not_lt]
  apply propext
  rw [Int32.lt_iff_toInt_lt, Int32.le_iff_toInt_le, nI_toInt (by omega)]
  have : (nI n - 1).toInt = (n : Int) - 1 := by
    rw [show (1 : Int32) = nI 1 from rfl]
    exact pk_sub_toInt (by omega) (by decide)
  rw [this]
  omega
set_option maxRecDepth 100000 in
set_option maxHeartbeats 4000000 in
theorem tr_X8_in_0 (d : Nat) (I : Nat → Int32) (F : Nat → Nat → Int32) (sd : Int64) (v : Int64) (a : Int64) (b : Int64) : pm_EV (pm_run mt (d + 0)) (some .boolean) oX8_in (0, [some (.long v), none, some (.long a), none, some (.long b), none], [], (hY I F sd)) = (if (lg_cmp v a) < 0 then some (some (.int 0), (hY I F sd)) else (if 0 < (lg_cmp v b) then some (some (.int 0), (hY I F sd)) else some (some (.int 1), (hY I F sd)))) := by
  refine Eq.trans (pm_EV_at 3 (d := (3, [some (.long v), none, some (.long a), none, some (.long b), none], [.int (lg_cmp v a)], (hY I F sd))) (x := if (lg_cmp v a) < 0 then .inl (10, [some (.long v), none, some (.long a), none, some (.long b), none], [], (hY I F sd)) else .inl (4, [some (.long v), none, some (.long a), none, some (.long b), none], [], (hY I F sd))) rfl rfl) ?_
  refine pm_rc (fun p1 => ?_) (fun p1 => ?_)
  · show pm_EV (pm_run mt (d + 0)) (some .boolean) oX8_in (10, [some (.long v), none, some (.long a), none, some (.long b), none], [], (hY I F sd)) = _
    exact pm_EV_at 1 (d := (11, [some (.long v), none, some (.long a), none, some (.long b), none], [.int 0], (hY I F sd))) rfl rfl
  · show pm_EV (pm_run mt (d + 0)) (some .boolean) oX8_in (4, [some (.long v), none, some (.long a), none, some (.long b), none], [], (hY I F sd)) = _
    refine Eq.trans (pm_EV_at 3 (d := (7, [some (.long v), none, some (.long a), none, some (.long b), none], [.int (lg_cmp v b)], (hY I F sd))) (x := if 0 < (lg_cmp v b) then .inl (10, [some (.long v), none, some (.long a), none, some (.long b), none], [], (hY I F sd)) else .inl (8, [some (.long v), none, some (.long a), none, some (.long b), none], [], (hY I F sd))) rfl rfl) ?_
    refine pm_rc (fun p2 => ?_) (fun p2 => ?_)
    · show pm_EV (pm_run mt (d + 0)) (some .boolean) oX8_in (10, [some (.long v), none, some (.long a), none, some (.long b), none], [], (hY I F sd)) = _
      exact pm_EV_at 1 (d := (11, [some (.long v), none, some (.long a), none, some (.long b), none], [.int 0], (hY I F sd))) rfl rfl
    · show pm_EV (pm_run mt (d + 0)) (some .boolean) oX8_in (8, [some (.long v), none, some (.long a), none, some (.long b), none], [], (hY I F sd)) = _
      exact pm_EV_at 2 (d := (11, [some (.long v), none, some (.long a), none, some (.long b), none], [.int 1], (hY I F sd))) rfl rfl
set_option maxRecDepth 100000 in
set_option maxHeartbeats 4000000 in
theorem en_X8_in (d : Nat) (I : Nat → Int32) (F : Nat → Nat → Int32) (sd : Int64) (v : Int64) (a : Int64) (b : Int64) : pm_run mt (d + 1) 106 [.long v, .long a, .long b] (hY I F sd) = pm_EV (pm_run mt (d + 0)) (some .boolean) oX8_in (0, [some (.long v), none, some (.long a), none, some (.long b), none], [], (hY I F sd)) := rfl
set_option maxRecDepth 100000 in
set_option maxHeartbeats 4000000 in
theorem sp_X8_in (d : Nat) (I : Nat → Int32) (F : Nat → Nat → Int32) (sd : Int64) (v : Int64) (a : Int64) (b : Int64) : pm_run mt (d + 1) 106 [.long v, .long a, .long b] (hY I F sd) = some (some (.int (bI (lin v a b))), (hY I F sd)) := by
  rw [en_X8_in, tr_X8_in_0]
  simp only [lc_lt, lc_gt]
  unfold lin bI
  by_cases e1 : v < a
  · simp [e1]
  · by_cases e2 : b < v <;> simp [e1, e2]
set_option maxRecDepth 100000 in
set_option maxHeartbeats 4000000 in
theorem tr_X8_has_0 (d : Nat) (I : Nat → Int32) (F : Nat → Nat → Int32) (sd : Int64) (s : Int32) (k : Int32) : pm_EV (pm_run mt (d + 0)) (some .boolean) oX8_has (0, [some (.int s), some (.int k)], [], (hY I F sd)) = (if ((s >>> (k &&& 31)) &&& (1 : Int32)) = 1 then some (some (.int 1), (hY I F sd)) else some (some (.int 0), (hY I F sd))) := by
  refine Eq.trans (pm_EV_at 6 (d := (6, [some (.int s), some (.int k)], [.int 1, .int ((s >>> (k &&& 31)) &&& (1 : Int32))], (hY I F sd))) (x := if ((s >>> (k &&& 31)) &&& (1 : Int32)) = 1 then .inl (7, [some (.int s), some (.int k)], [], (hY I F sd)) else .inl (9, [some (.int s), some (.int k)], [], (hY I F sd))) rfl rfl) ?_
  refine pm_rc (fun p1 => ?_) (fun p1 => ?_)
  · show pm_EV (pm_run mt (d + 0)) (some .boolean) oX8_has (7, [some (.int s), some (.int k)], [], (hY I F sd)) = _
    exact pm_EV_at 2 (d := (10, [some (.int s), some (.int k)], [.int 1], (hY I F sd))) rfl rfl
  · show pm_EV (pm_run mt (d + 0)) (some .boolean) oX8_has (9, [some (.int s), some (.int k)], [], (hY I F sd)) = _
    exact pm_EV_at 1 (d := (10, [some (.int s), some (.int k)], [.int 0], (hY I F sd))) rfl rfl
set_option maxRecDepth 100000 in
set_option maxHeartbeats 4000000 in
theorem en_X8_has (d : Nat) (I : Nat → Int32) (F : Nat → Nat → Int32) (sd : Int64) (s : Int32) (k : Int32) : pm_run mt (d + 1) 107 [.int s, .int k] (hY I F sd) = pm_EV (pm_run mt (d + 0)) (some .boolean) oX8_has (0, [some (.int s), some (.int k)], [], (hY I F sd)) := rfl
set_option maxRecDepth 100000 in
set_option maxHeartbeats 4000000 in
theorem sp_X8_has (d : Nat) (I : Nat → Int32) (F : Nat → Nat → Int32) (sd : Int64) (s : Int32) (k : Int32) : pm_run mt (d + 1) 107 [.int s, .int k] (hY I F sd) = some (some (.int (bI (yhas s k))), (hY I F sd)) := by
  rw [en_X8_has, tr_X8_has_0]
  unfold yhas bI
  by_cases e1 : (s >>> (k &&& 31)) &&& 1 = 1 <;> simp [e1]
set_option maxRecDepth 100000 in
set_option maxHeartbeats 4000000 in
theorem tr_X8_many_0 (d : Nat) (I : Nat → Int32) (F : Nat → Nat → Int32) (sd : Int64) (s : Int32) : pm_EV (pm_run mt (d + 0)) (some .int) oX8_many (0, [some (.int s), none, none], [], (hY I F sd)) = pm_EV (pm_run mt (d + 0)) (some .int) oX8_many (4, [some (.int s), some (.int 0), some (.int 0)], [], (hY I F sd)) := by
  exact pm_EV_go 4 (d := (4, [some (.int s), some (.int 0), some (.int 0)], [], (hY I F sd))) rfl
set_option maxRecDepth 100000 in
set_option maxHeartbeats 4000000 in
theorem tr_X8_many_4 (d : Nat) (I : Nat → Int32) (F : Nat → Nat → Int32) (sd : Int64) (s : Int32) (x1 : Int32) (x2 : Int32) : pm_EV (pm_run mt (d + 0)) (some .int) oX8_many (4, [some (.int s), some (.int x1), some (.int x2)], [], (hY I F sd)) = (if x2 < 10 then pm_EV (pm_run mt (d + 0)) (some .int) oX8_many (4, [some (.int s), some (.int (x1 + ((s >>> (x2 &&& 31)) &&& (1 : Int32)))), some (.int (x2 + 1))], [], (hY I F sd)) else some (some (.int x1), (hY I F sd))) := by
  refine Eq.trans (pm_EV_at 2 (d := (6, [some (.int s), some (.int x1), some (.int x2)], [.int 10, .int x2], (hY I F sd))) (x := if x2 < 10 then .inl (7, [some (.int s), some (.int x1), some (.int x2)], [], (hY I F sd)) else .inl (17, [some (.int s), some (.int x1), some (.int x2)], [], (hY I F sd))) rfl rfl) ?_
  refine pm_rc (fun p1 => ?_) (fun p1 => ?_)
  · show pm_EV (pm_run mt (d + 0)) (some .int) oX8_many (7, [some (.int s), some (.int x1), some (.int x2)], [], (hY I F sd)) = _
    exact pm_EV_go 10 (d := (4, [some (.int s), some (.int (x1 + ((s >>> (x2 &&& 31)) &&& (1 : Int32)))), some (.int (x2 + 1))], [], (hY I F sd))) rfl
  · show pm_EV (pm_run mt (d + 0)) (some .int) oX8_many (17, [some (.int s), some (.int x1), some (.int x2)], [], (hY I F sd)) = _
    exact pm_EV_at 1 (d := (18, [some (.int s), some (.int x1), some (.int x2)], [.int x1], (hY I F sd))) rfl rfl
set_option maxRecDepth 100000 in
set_option maxHeartbeats 4000000 in
theorem en_X8_many (d : Nat) (I : Nat → Int32) (F : Nat → Nat → Int32) (sd : Int64) (s : Int32) : pm_run mt (d + 1) 108 [.int s] (hY I F sd) = pm_EV (pm_run mt (d + 0)) (some .int) oX8_many (0, [some (.int s), none, none], [], (hY I F sd)) := rfl
set_option maxRecDepth 100000 in
set_option maxHeartbeats 4000000 in
theorem sp_X8_many (d : Nat) (I : Nat → Int32) (F : Nat → Nat → Int32) (sd : Int64) (s : Int32) : pm_run mt (d + 1) 108 [.int s] (hY I F sd) = some (some (.int (ymany s)), (hY I F sd)) := by
  rw [en_X8_many, tr_X8_many_0]
  have key : ∀ (m k : Nat), k + m = 10 → pm_EV (pm_run mt (d + 0)) (some .int) oX8_many (4, [some (.int s), some (.int (ymS s k)), some (.int (nI k))], [], hY I F sd) = some (some (.int (ymany s)), hY I F sd) := by
    intro m
    induction m with
    | zero =>
      intro k hk
      obtain rfl : k = 10 := by omega
      rw [tr_X8_many_4, if_neg (by decide)]
      rfl
    | succ m ih =>
      intro k hk
      rw [tr_X8_many_4, if_pos (by rw [show (10 : Int32) = nI 10 from rfl, nI_ltI (by omega) (by decide)]; omega), nI_p1]
      exact ih (k + 1) (by omega)
  exact key 10 0 rfl
set_option maxRecDepth 100000 in
set_option maxHeartbeats 4000000 in
theorem tr_X8_power_0 (d : Nat) (I : Nat → Int32) (F : Nat → Nat → Int32) (sd : Int64) (a : Int32) (n : Int32) : pm_EV (pm_run mt (d + 0)) (some .int) oX8_power (0, [some (.int a), some (.int n), none, none], [], (hY I F sd)) = pm_EV (pm_run mt (d + 0)) (some .int) oX8_power (4, [some (.int a), some (.int n), some (.int 1), some (.int 0)], [], (hY I F sd)) := by
  exact pm_EV_go 4 (d := (4, [some (.int a), some (.int n), some (.int 1), some (.int 0)], [], (hY I F sd))) rfl
set_option maxRecDepth 100000 in
set_option maxHeartbeats 4000000 in
theorem tr_X8_power_4 (d : Nat) (I : Nat → Int32) (F : Nat → Nat → Int32) (sd : Int64) (a : Int32) (n : Int32) (x2 : Int32) (x3 : Int32) : pm_EV (pm_run mt (d + 0)) (some .int) oX8_power (4, [some (.int a), some (.int n), some (.int x2), some (.int x3)], [], (hY I F sd)) = (if x3 < n then pm_EV (pm_run mt (d + 0)) (some .int) oX8_power (4, [some (.int a), some (.int n), some (.int (x2 * a)), some (.int (x3 + 1))], [], (hY I F sd)) else some (some (.int x2), (hY I F sd))) := by
  refine Eq.trans (pm_EV_at 2 (d := (6, [some (.int a), some (.int n), some (.int x2), some (.int x3)], [.int n, .int x3], (hY I F sd))) (x := if x3 < n then .inl (7, [some (.int a), some (.int n), some (.int x2), some (.int x3)], [], (hY I F sd)) else .inl (13, [some (.int a), some (.int n), some (.int x2), some (.int x3)], [], (hY I F sd))) rfl rfl) ?_
  refine pm_rc (fun p1 => ?_) (fun p1 => ?_)
  · show pm_EV (pm_run mt (d + 0)) (some .int) oX8_power (7, [some (.int a), some (.int n), some (.int x2), some (.int x3)], [], (hY I F sd)) = _
    exact pm_EV_go 6 (d := (4, [some (.int a), some (.int n), some (.int (x2 * a)), some (.int (x3 + 1))], [], (hY I F sd))) rfl
  · show pm_EV (pm_run mt (d + 0)) (some .int) oX8_power (13, [some (.int a), some (.int n), some (.int x2), some (.int x3)], [], (hY I F sd)) = _
    exact pm_EV_at 1 (d := (14, [some (.int a), some (.int n), some (.int x2), some (.int x3)], [.int x2], (hY I F sd))) rfl rfl
set_option maxRecDepth 100000 in
set_option maxHeartbeats 4000000 in
theorem en_X8_power (d : Nat) (I : Nat → Int32) (F : Nat → Nat → Int32) (sd : Int64) (a : Int32) (n : Int32) : pm_run mt (d + 1) 109 [.int a, .int n] (hY I F sd) = pm_EV (pm_run mt (d + 0)) (some .int) oX8_power (0, [some (.int a), some (.int n), none, none], [], (hY I F sd)) := rfl
set_option maxRecDepth 100000 in
set_option maxHeartbeats 4000000 in
theorem sp_X8_power (d : Nat) (I : Nat → Int32) (F : Nat → Nat → Int32) (sd : Int64) (a : Int32) (n : Int32) : pm_run mt (d + 1) 109 [.int a, .int n] (hY I F sd) = some (some (.int (ypow a n)), (hY I F sd)) := by
  rw [en_X8_power, tr_X8_power_0]
  have key : ∀ (m k : Nat), k + m = n.toNatClampNeg → pm_EV (pm_run mt (d + 0)) (some .int) oX8_power (4, [some (.int a), some (.int n), some (.int (ypS a k)), some (.int (nI k))], [], hY I F sd) = some (some (.int (ypow a n)), hY I F sd) := by
    intro m
    induction m with
    | zero =>
      intro k hk
      have hb := cl_bd n
      rw [tr_X8_power_4, if_neg (fun h => by rw [cl_lt (by omega)] at h; omega), ypow, ← hk]
      rfl
    | succ m ih =>
      intro k hk
      have hb := cl_bd n
      rw [tr_X8_power_4, if_pos ((cl_lt (by omega)).mpr (by omega)), nI_p1]
      exact ih (k + 1) (by omega)
  exact key _ 0 (Nat.zero_add _)
set_option maxRecDepth 100000 in
set_option maxHeartbeats 4000000 in
theorem tr_X8_apart_0 (d : Nat) (I : Nat → Int32) (F : Nat → Nat → Int32) (sd : Int64) (a : Int32) (b : Int32) : pm_EV (pm_run mt (d + 0)) (some .int) oX8_apart (0, [some (.int a), some (.int b)], [], (hY I F sd)) = (if a < b then some (some (.int (b - a)), (hY I F sd)) else some (some (.int (a - b)), (hY I F sd))) := by
  refine Eq.trans (pm_EV_at 2 (d := (2, [some (.int a), some (.int b)], [.int b, .int a], (hY I F sd))) (x := if a < b then .inl (3, [some (.int a), some (.int b)], [], (hY I F sd)) else .inl (7, [some (.int a), some (.int b)], [], (hY I F sd))) rfl rfl) ?_
  refine pm_rc (fun p1 => ?_) (fun p1 => ?_)
  · show pm_EV (pm_run mt (d + 0)) (some .int) oX8_apart (3, [some (.int a), some (.int b)], [], (hY I F sd)) = _
    exact pm_EV_at 4 (d := (10, [some (.int a), some (.int b)], [.int (b - a)], (hY I F sd))) rfl rfl
  · show pm_EV (pm_run mt (d + 0)) (some .int) oX8_apart (7, [some (.int a), some (.int b)], [], (hY I F sd)) = _
    exact pm_EV_at 3 (d := (10, [some (.int a), some (.int b)], [.int (a - b)], (hY I F sd))) rfl rfl
set_option maxRecDepth 100000 in
set_option maxHeartbeats 4000000 in
theorem en_X8_apart (d : Nat) (I : Nat → Int32) (F : Nat → Nat → Int32) (sd : Int64) (a : Int32) (b : Int32) : pm_run mt (d + 1) 110 [.int a, .int b] (hY I F sd) = pm_EV (pm_run mt (d + 0)) (some .int) oX8_apart (0, [some (.int a), some (.int b)], [], (hY I F sd)) := rfl
set_option maxRecDepth 100000 in
set_option maxHeartbeats 4000000 in
theorem sp_X8_apart (d : Nat) (I : Nat → Int32) (F : Nat → Nat → Int32) (sd : Int64) (a : Int32) (b : Int32) : pm_run mt (d + 1) 110 [.int a, .int b] (hY I F sd) = some (some (.int (yapart a b)), (hY I F sd)) := by
  rw [en_X8_apart, tr_X8_apart_0]
  unfold yapart
  simp only [pm_pi]
theorem bI_not (b : Bool) : bI (!b) = if bI b = 0 then 1 else 0 := by cases b <;> rfl
set_option maxRecDepth 100000 in
set_option maxHeartbeats 4000000 in
theorem tr_X8_noFood_0_0 (d : Nat) (I : Nat → Int32) (F : Nat → Nat → Int32) (sd : Int64) (f : Int32) : pm_EV (pm_run mt (d + 1)) (some .boolean) oX8_noFood (0, [some (.ref 0), some (.int f)], [], (hY I F sd)) = (if (bI (lin ((f : Int32).toInt64) 0 (((I 5) - 1 : Int32).toInt64))) = 0 then some (some (.int 1), (hY I F sd)) else some (some (.int 0), (hY I F sd))) := by
  refine Eq.trans (b := pm_EV (pm_run mt (d + 1)) (some .boolean) oX8_noFood (9, [some (.ref 0), some (.int f)], [.int (bI (lin ((f : Int32).toInt64) 0 (((I 5) - 1 : Int32).toInt64)))], (hY I F sd))) (pm_EV_cl 8 (call := pm_run mt (d + 1)) (d := (8, [some (.ref 0), some (.int f)], [.long (((I 5) - 1 : Int32).toInt64), .long 0, .long ((f : Int32).toInt64)], (hY I F sd))) (a := 106) (as := [.long ((f : Int32).toInt64), .long 0, .long (((I 5) - 1 : Int32).toInt64)]) (hp := (hY I F sd)) (hp2 := (hY I F sd)) (i2 := 9) (ls := [some (.ref 0), some (.int f)]) (rest := []) (r := some (.int (bI (lin ((f : Int32).toInt64) 0 (((I 5) - 1 : Int32).toInt64))))) rfl rfl (sp_X8_in (d + 0) I F sd ((f : Int32).toInt64) 0 (((I 5) - 1 : Int32).toInt64) )) ?_
  refine Eq.trans (pm_EV_at 0 (d := (9, [some (.ref 0), some (.int f)], [.int (bI (lin ((f : Int32).toInt64) 0 (((I 5) - 1 : Int32).toInt64)))], (hY I F sd))) (x := if (bI (lin ((f : Int32).toInt64) 0 (((I 5) - 1 : Int32).toInt64))) = 0 then .inl (10, [some (.ref 0), some (.int f)], [], (hY I F sd)) else .inl (12, [some (.ref 0), some (.int f)], [], (hY I F sd))) rfl rfl) ?_
  refine pm_rc (fun p1 => ?_) (fun p1 => ?_)
  · show pm_EV (pm_run mt (d + 1)) (some .boolean) oX8_noFood (10, [some (.ref 0), some (.int f)], [], (hY I F sd)) = _
    exact pm_EV_at 2 (d := (13, [some (.ref 0), some (.int f)], [.int 1], (hY I F sd))) rfl rfl
  · show pm_EV (pm_run mt (d + 1)) (some .boolean) oX8_noFood (12, [some (.ref 0), some (.int f)], [], (hY I F sd)) = _
    exact pm_EV_at 1 (d := (13, [some (.ref 0), some (.int f)], [.int 0], (hY I F sd))) rfl rfl
set_option maxRecDepth 100000 in
set_option maxHeartbeats 4000000 in
theorem en_X8_noFood_0 (d : Nat) (I : Nat → Int32) (F : Nat → Nat → Int32) (sd : Int64) (f : Int32) : pm_run mt (d + 2) 111 [.ref 0, .int f] (hY I F sd) = pm_EV (pm_run mt (d + 1)) (some .boolean) oX8_noFood (0, [some (.ref 0), some (.int f)], [], (hY I F sd)) := rfl
set_option maxRecDepth 100000 in
set_option maxHeartbeats 4000000 in
theorem sp_X8_noFood_0 (d : Nat) (I : Nat → Int32) (F : Nat → Nat → Int32) (sd : Int64) (f : Int32) (h1 : inr (I 5) 5 = true) : pm_run mt (d + 2) 111 [.ref 0, .int f] (hY I F sd) = some (some (.int (bI (!inr f (I 5)))), (hY I F sd)) := by
  rw [en_X8_noFood_0, tr_X8_noFood_0_0]
  obtain ⟨j, hj, e⟩ := inr_nI (n := 5) (by decide) h1
  rw [inr_sub (by omega) e, show (0 : Int64) = (0 : Int32).toInt64 from rfl, lin_lit, bI_not]
  simp only [pm_pi]
set_option maxRecDepth 100000 in
set_option maxHeartbeats 4000000 in
theorem tr_X8_noThing_0_0 (d : Nat) (I : Nat → Int32) (F : Nat → Nat → Int32) (sd : Int64) (f : Int32) : pm_EV (pm_run mt (d + 1)) (some .boolean) oX8_noThing (0, [some (.ref 0), some (.int f)], [], (hY I F sd)) = (if (bI (lin ((f : Int32).toInt64) 0 (((I 7) - 1 : Int32).toInt64))) = 0 then some (some (.int 1), (hY I F sd)) else some (some (.int 0), (hY I F sd))) := by
  refine Eq.trans (b := pm_EV (pm_run mt (d + 1)) (some .boolean) oX8_noThing (9, [some (.ref 0), some (.int f)], [.int (bI (lin ((f : Int32).toInt64) 0 (((I 7) - 1 : Int32).toInt64)))], (hY I F sd))) (pm_EV_cl 8 (call := pm_run mt (d + 1)) (d := (8, [some (.ref 0), some (.int f)], [.long (((I 7) - 1 : Int32).toInt64), .long 0, .long ((f : Int32).toInt64)], (hY I F sd))) (a := 106) (as := [.long ((f : Int32).toInt64), .long 0, .long (((I 7) - 1 : Int32).toInt64)]) (hp := (hY I F sd)) (hp2 := (hY I F sd)) (i2 := 9) (ls := [some (.ref 0), some (.int f)]) (rest := []) (r := some (.int (bI (lin ((f : Int32).toInt64) 0 (((I 7) - 1 : Int32).toInt64))))) rfl rfl (sp_X8_in (d + 0) I F sd ((f : Int32).toInt64) 0 (((I 7) - 1 : Int32).toInt64) )) ?_
  refine Eq.trans (pm_EV_at 0 (d := (9, [some (.ref 0), some (.int f)], [.int (bI (lin ((f : Int32).toInt64) 0 (((I 7) - 1 : Int32).toInt64)))], (hY I F sd))) (x := if (bI (lin ((f : Int32).toInt64) 0 (((I 7) - 1 : Int32).toInt64))) = 0 then .inl (10, [some (.ref 0), some (.int f)], [], (hY I F sd)) else .inl (12, [some (.ref 0), some (.int f)], [], (hY I F sd))) rfl rfl) ?_
  refine pm_rc (fun p1 => ?_) (fun p1 => ?_)
  · show pm_EV (pm_run mt (d + 1)) (some .boolean) oX8_noThing (10, [some (.ref 0), some (.int f)], [], (hY I F sd)) = _
    exact pm_EV_at 2 (d := (13, [some (.ref 0), some (.int f)], [.int 1], (hY I F sd))) rfl rfl
  · show pm_EV (pm_run mt (d + 1)) (some .boolean) oX8_noThing (12, [some (.ref 0), some (.int f)], [], (hY I F sd)) = _
    exact pm_EV_at 1 (d := (13, [some (.ref 0), some (.int f)], [.int 0], (hY I F sd))) rfl rfl
set_option maxRecDepth 100000 in
set_option maxHeartbeats 4000000 in
theorem en_X8_noThing_0 (d : Nat) (I : Nat → Int32) (F : Nat → Nat → Int32) (sd : Int64) (f : Int32) : pm_run mt (d + 2) 112 [.ref 0, .int f] (hY I F sd) = pm_EV (pm_run mt (d + 1)) (some .boolean) oX8_noThing (0, [some (.ref 0), some (.int f)], [], (hY I F sd)) := rfl
set_option maxRecDepth 100000 in
set_option maxHeartbeats 4000000 in
theorem sp_X8_noThing_0 (d : Nat) (I : Nat → Int32) (F : Nat → Nat → Int32) (sd : Int64) (f : Int32) (h1 : inr (I 7) 6 = true) : pm_run mt (d + 2) 112 [.ref 0, .int f] (hY I F sd) = some (some (.int (bI (!inr f (I 7)))), (hY I F sd)) := by
  rw [en_X8_noThing_0, tr_X8_noThing_0_0]
  obtain ⟨j, hj, e⟩ := inr_nI (n := 6) (by decide) h1
  rw [inr_sub (by omega) e, show (0 : Int64) = (0 : Int32).toInt64 from rfl, lin_lit, bI_not]
  simp only [pm_pi]
set_option maxRecDepth 100000 in
set_option maxHeartbeats 4000000 in
theorem tr_X8_noPlace_0 (d : Nat) (I : Nat → Int32) (F : Nat → Nat → Int32) (sd : Int64) (f : Int32) : pm_EV (pm_run mt (d + 1)) (some .boolean) oX8_noPlace (0, [some (.int f)], [], (hY I F sd)) = (if (bI (lin ((f : Int32).toInt64) 0 9)) = 0 then some (some (.int 1), (hY I F sd)) else some (some (.int 0), (hY I F sd))) := by
  refine Eq.trans (b := pm_EV (pm_run mt (d + 1)) (some .boolean) oX8_noPlace (5, [some (.int f)], [.int (bI (lin ((f : Int32).toInt64) 0 9))], (hY I F sd))) (pm_EV_cl 4 (call := pm_run mt (d + 1)) (d := (4, [some (.int f)], [.long 9, .long 0, .long ((f : Int32).toInt64)], (hY I F sd))) (a := 106) (as := [.long ((f : Int32).toInt64), .long 0, .long 9]) (hp := (hY I F sd)) (hp2 := (hY I F sd)) (i2 := 5) (ls := [some (.int f)]) (rest := []) (r := some (.int (bI (lin ((f : Int32).toInt64) 0 9)))) rfl rfl (sp_X8_in (d + 0) I F sd ((f : Int32).toInt64) 0 9 )) ?_
  refine Eq.trans (pm_EV_at 0 (d := (5, [some (.int f)], [.int (bI (lin ((f : Int32).toInt64) 0 9))], (hY I F sd))) (x := if (bI (lin ((f : Int32).toInt64) 0 9)) = 0 then .inl (6, [some (.int f)], [], (hY I F sd)) else .inl (8, [some (.int f)], [], (hY I F sd))) rfl rfl) ?_
  refine pm_rc (fun p1 => ?_) (fun p1 => ?_)
  · show pm_EV (pm_run mt (d + 1)) (some .boolean) oX8_noPlace (6, [some (.int f)], [], (hY I F sd)) = _
    exact pm_EV_at 2 (d := (9, [some (.int f)], [.int 1], (hY I F sd))) rfl rfl
  · show pm_EV (pm_run mt (d + 1)) (some .boolean) oX8_noPlace (8, [some (.int f)], [], (hY I F sd)) = _
    exact pm_EV_at 1 (d := (9, [some (.int f)], [.int 0], (hY I F sd))) rfl rfl
set_option maxRecDepth 100000 in
set_option maxHeartbeats 4000000 in
theorem en_X8_noPlace (d : Nat) (I : Nat → Int32) (F : Nat → Nat → Int32) (sd : Int64) (f : Int32) : pm_run mt (d + 2) 113 [.int f] (hY I F sd) = pm_EV (pm_run mt (d + 1)) (some .boolean) oX8_noPlace (0, [some (.int f)], [], (hY I F sd)) := rfl
set_option maxRecDepth 100000 in
set_option maxHeartbeats 4000000 in
theorem sp_X8_noPlace (d : Nat) (I : Nat → Int32) (F : Nat → Nat → Int32) (sd : Int64) (f : Int32) : pm_run mt (d + 2) 113 [.int f] (hY I F sd) = some (some (.int (bI (!inr f 10))), (hY I F sd)) := by
  rw [en_X8_noPlace, tr_X8_noPlace_0]
  rw [inr_sub (n := 10) (m := 10) (by omega) rfl, show (0 : Int64) = (0 : Int32).toInt64 from rfl, show (9 : Int64) = (9 : Int32).toInt64 from rfl, lin_lit, bI_not]
  simp only [pm_pi]
  rfl
set_option maxRecDepth 100000 in
set_option maxHeartbeats 4000000 in
theorem tr_X8_write_0_0 (d : Nat) (I : Nat → Int32) (F : Nat → Nat → Int32) (sd : Int64) (l : Int32) (g1 : (¬ ((bI (lin ((l : Int32).toInt64) 0 255)) = 0)) → (¬ ((I 2) = 48)) → pm_in (I 2) 48 = true) : pm_EV (pm_run mt (d + 1)) (some .int) oX8_write (0, [some (.ref 0), some (.int l)], [], (hY I F sd)) = (if (bI (lin ((l : Int32).toInt64) 0 255)) = 0 then some (some (.int (-2)), (hY (upd I 0 0) F sd)) else (if (I 2) = 48 then some (some (.int (-4)), (hY (upd I 0 0) F sd)) else some (some (.int ((I 2) + 1)), (hY (upd (upd I 0 0) 2 ((I 2) + 1)) (uF F 1 (upd (F 1) (I 2).toNatClampNeg l)) sd)))) := by
  refine Eq.trans (b := pm_EV (pm_run mt (d + 1)) (some .int) oX8_write (8, [some (.ref 0), some (.int l)], [.int (bI (lin ((l : Int32).toInt64) 0 255))], (hY (upd I 0 0) F sd))) (pm_EV_cl 7 (call := pm_run mt (d + 1)) (d := (7, [some (.ref 0), some (.int l)], [.long 255, .long 0, .long ((l : Int32).toInt64)], (hY (upd I 0 0) F sd))) (a := 106) (as := [.long ((l : Int32).toInt64), .long 0, .long 255]) (hp := (hY (upd I 0 0) F sd)) (hp2 := (hY (upd I 0 0) F sd)) (i2 := 8) (ls := [some (.ref 0), some (.int l)]) (rest := []) (r := some (.int (bI (lin ((l : Int32).toInt64) 0 255)))) rfl rfl (sp_X8_in (d + 0) (upd I 0 0) F sd ((l : Int32).toInt64) 0 255 )) ?_
  refine Eq.trans (pm_EV_at 0 (d := (8, [some (.ref 0), some (.int l)], [.int (bI (lin ((l : Int32).toInt64) 0 255))], (hY (upd I 0 0) F sd))) (x := if (bI (lin ((l : Int32).toInt64) 0 255)) = 0 then .inl (9, [some (.ref 0), some (.int l)], [], (hY (upd I 0 0) F sd)) else .inl (11, [some (.ref 0), some (.int l)], [], (hY (upd I 0 0) F sd))) rfl rfl) ?_
  refine pm_rc (fun p1 => ?_) (fun p1 => ?_)
  · show pm_EV (pm_run mt (d + 1)) (some .int) oX8_write (9, [some (.ref 0), some (.int l)], [], (hY (upd I 0 0) F sd)) = _
    exact pm_EV_at 1 (d := (10, [some (.ref 0), some (.int l)], [.int (-2)], (hY (upd I 0 0) F sd))) rfl rfl
  · show pm_EV (pm_run mt (d + 1)) (some .int) oX8_write (11, [some (.ref 0), some (.int l)], [], (hY (upd I 0 0) F sd)) = _
    refine Eq.trans (pm_EV_at 3 (d := (14, [some (.ref 0), some (.int l)], [.int 48, .int (I 2)], (hY (upd I 0 0) F sd))) (x := if (I 2) = 48 then .inl (15, [some (.ref 0), some (.int l)], [], (hY (upd I 0 0) F sd)) else .inl (17, [some (.ref 0), some (.int l)], [], (hY (upd I 0 0) F sd))) rfl rfl) ?_
    refine pm_rc (fun p2 => ?_) (fun p2 => ?_)
    · show pm_EV (pm_run mt (d + 1)) (some .int) oX8_write (15, [some (.ref 0), some (.int l)], [], (hY (upd I 0 0) F sd)) = _
      exact pm_EV_at 1 (d := (16, [some (.ref 0), some (.int l)], [.int (-4)], (hY (upd I 0 0) F sd))) rfl rfl
    · show pm_EV (pm_run mt (d + 1)) (some .int) oX8_write (17, [some (.ref 0), some (.int l)], [], (hY (upd I 0 0) F sd)) = _
      refine Eq.trans (b := pm_EV (pm_run mt (d + 1)) (some .int) oX8_write (23, [some (.ref 0), some (.int l)], [], ((hY (upd I 0 0) F sd)).set 1 (.inl (0, 48, .inl (upd (F 1) (I 2).toNatClampNeg l))))) (pm_EV_gd 5 (d := (22, [some (.ref 0), some (.int l)], [.int l, .int (I 2), .ref 1], (hY (upd I 0 0) F sd))) (c1 := (23, [some (.ref 0), some (.int l)], [], ((hY (upd I 0 0) F sd)).set 1 (.inl (0, 48, .inl (upd (F 1) (I 2).toNatClampNeg l))))) rfl rfl ⟨rfl, g1 p1 p2⟩) ?_
      refine Eq.trans (b := pm_EV (pm_run mt (d + 1)) (some .int) oX8_write (23, [some (.ref 0), some (.int l)], [], (hY (upd I 0 0) (uF F 1 (upd (F 1) (I 2).toNatClampNeg l)) sd))) (congrArg (fun hz => pm_EV (pm_run mt (d + 1)) (some .int) oX8_write (23, [some (.ref 0), some (.int l)], [], hz)) (hY_s1 (upd I 0 0) F sd (upd (F 1) (I 2).toNatClampNeg l))) ?_
      exact pm_EV_at 8 (d := (31, [some (.ref 0), some (.int l)], [.int ((I 2) + 1)], (hY (upd (upd I 0 0) 2 ((I 2) + 1)) (uF F 1 (upd (F 1) (I 2).toNatClampNeg l)) sd))) rfl rfl
set_option maxRecDepth 100000 in
set_option maxHeartbeats 4000000 in
theorem en_X8_write_0 (d : Nat) (I : Nat → Int32) (F : Nat → Nat → Int32) (sd : Int64) (l : Int32) : pm_run mt (d + 2) 114 [.ref 0, .int l] (hY I F sd) = pm_EV (pm_run mt (d + 1)) (some .int) oX8_write (0, [some (.ref 0), some (.int l)], [], (hY I F sd)) := rfl
set_option maxRecDepth 100000 in
set_option maxHeartbeats 4000000 in
theorem sp_X8_write_0 (d : Nat) (I : Nat → Int32) (F : Nat → Nat → Int32) (sd : Int64) (l : Int32) (h1 : txOk (I 2)) : pm_run mt (d + 2) 114 [.ref 0, .int l] (hY I F sd) = some (some (.int (txA (I 2) l)), (hY (upd (upd I 0 0) 2 (txN (I 2) l)) (uF F 1 (txB (I 2) l (F 1))) sd)) := by
  obtain ⟨n, hn, e⟩ := h1
  rw [en_X8_write_0, tr_X8_write_0_0 _ _ _ _ _ (fun _ h => by rw [e] at h ⊢; exact pm_in_nI (by have : n ≠ 48 := fun z => h (by rw [z]; rfl); omega) (by decide))]
  rw [show (0 : Int64) = (0 : Int32).toInt64 from rfl, show (255 : Int64) = (255 : Int32).toInt64 from rfl, lin_lit]
  simp only [bI_0]
  have h48 : (I 2 = 48) = ¬ (I 2 < 48) := by
    apply propext
    rw [e, show (48 : Int32) = nI 48 from rfl, nI_eq (by omega) (by decide), nI_ltI (by omega) (by decide)]
    omega
  simp only [h48]
  by_cases hg : txG (I 2) l
  · have eN : txN (I 2) l = I 2 + 1 := if_pos hg
    have eB : txB (I 2) l (F 1) = upd (F 1) (I 2).toNatClampNeg l := if_pos hg
    rw [eN, eB]
    unfold txA
    simp [hg.1, hg.2.1, hg.2.2]
  · have eN : txN (I 2) l = I 2 := if_neg hg
    have eB : txB (I 2) l (F 1) = F 1 := if_neg hg
    rw [eN, eB, uF_self, show upd (upd I 0 0) 2 (I 2) = upd I 0 0 by rw [upd_sw _ (by decide), upd_self]]
    unfold txA
    by_cases e1 : l < 0
    · simp [e1]
    · by_cases e2 : 255 < l
      · simp [e1, e2]
      · have e3 : ¬ I 2 < 48 := fun e3 => hg ⟨e1, e2, e3⟩
        simp [e1, e2, e3]
set_option maxRecDepth 100000 in
set_option maxHeartbeats 4000000 in
theorem tr_X8_wipe_0_0 (d : Nat) (I : Nat → Int32) (F : Nat → Nat → Int32) (sd : Int64) : pm_EV (pm_run mt (d + 0)) (some .int) oX8_wipe (0, [some (.ref 0), none], [], (hY I F sd)) = some (some (.int (I 2)), (hY (upd (upd I 0 0) 2 0) F sd)) := by
  exact pm_EV_at 10 (d := (10, [some (.ref 0), some (.int (I 2))], [.int (I 2)], (hY (upd (upd I 0 0) 2 0) F sd))) rfl rfl
set_option maxRecDepth 100000 in
set_option maxHeartbeats 4000000 in
theorem en_X8_wipe_0 (d : Nat) (I : Nat → Int32) (F : Nat → Nat → Int32) (sd : Int64) : pm_run mt (d + 1) 115 [.ref 0] (hY I F sd) = pm_EV (pm_run mt (d + 0)) (some .int) oX8_wipe (0, [some (.ref 0), none], [], (hY I F sd)) := rfl
set_option maxRecDepth 100000 in
set_option maxHeartbeats 4000000 in
theorem sp_X8_wipe_0 (d : Nat) (I : Nat → Int32) (F : Nat → Nat → Int32) (sd : Int64) : pm_run mt (d + 1) 115 [.ref 0] (hY I F sd) = some (some (.int (I 2)), (hY (upd (upd I 0 0) 2 0) F sd)) := by
  rw [en_X8_wipe_0, tr_X8_wipe_0_0]
