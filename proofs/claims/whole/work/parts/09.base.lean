/-! heaps of the class and of the reference; small rows for trees -/
def uF (F : Nat → Nat → Int32) (k : Nat) (f : Nat → Int32) : Nat → Nat → Int32 := fun j => if j = k then f else F j
def bI (b : Bool) : Int32 := if b = true then 1 else 0
theorem pm_rz_b (b : Bool) : pm_rz (some .boolean) (bI b) = true := by cases b <;> decide +kernel
theorem bI_0 (b : Bool) : (bI b = 0) = (b = false) := by cases b <;> decide +kernel
theorem pm_rc {call : pm_K} {ret : Option FieldType} {ops : List pm_OP} {q : Prop} {dq : Decidable q} {a b : pm_X} {A B : Option pm_R} (h1 : q → pm_res call ret ops a = A) (h2 : ¬ q → pm_res call ret ops b = B) : pm_res call ret ops (@ite _ q dq a b) = @ite _ q dq A B := by
  by_cases h : q
  · rw [if_pos h, if_pos h]; exact h1 h
  · rw [if_neg h, if_neg h]; exact h2 h
theorem nI_nn {x : Int32} (h : ¬ x < 0) : ∃ k : Nat, k < 2 ^ 31 ∧ x = nI k := nI_of h
theorem pm_in_nI {k n : Nat} (h : k < n) (hn : n < 2 ^ 31) : pm_in (nI k) n = true := decide_eq_true (nI_in h hn)
theorem pm_in_lt {x M : Int32} {n : Nat} (hM : M = nI n) (hn : n < 2 ^ 31) (h0 : ¬ x < 0) (h1 : x < M) : pm_in x n = true := by
  obtain ⟨k, hk, rfl⟩ := nI_of h0
  rw [hM, nI_ltI hk hn] at h1
  exact pm_in_nI h1 hn
theorem pm_EV_cl {call : pm_K} {ret : Option FieldType} {ops : List pm_OP} (n : Nat) {c d : pm_C} {a : Nat} {as : List Value} {hp hp2 : pm_HP} {i2 : Nat} {ls : pm_LS} {rest : List Value} {r : Option Value} (h : pm_go call ret ops n c = some d) (h2 : pm_step call ret ops d = pm_bd (call a as hp) (fun r hp2 => .inl (i2, ls, r.toList ++ rest, hp2))) (hq : call a as hp = some (r, hp2)) : pm_EV call ret ops c = pm_EV call ret ops (i2, ls, r.toList ++ rest, hp2) := by
  rw [pm_EV_at n h h2, hq]
  rfl
theorem pm_pi {c : Prop} {dc : Decidable c} {a b : Int32} {h : pm_HP} : (some (some (Value.int (@ite _ c dc a b)), h) : Option pm_R) = @ite _ c dc (some (some (.int a), h)) (some (some (.int b), h)) := by cases dc <;> rfl
theorem pm_EV_rb {call : pm_K} {ret : Option FieldType} {ops : List pm_OP} (n : Nat) {c d : pm_C} {x : Int32} {hp : pm_HP} (h : pm_go call ret ops n c = some d) (h2 : pm_step call ret ops d = if pm_rz ret x = true then .inr (some (some (.int x), hp)) else .inr none) (hz : pm_rz ret x = true) : pm_EV call ret ops c = some (some (.int x), hp) := by
  rw [pm_EV_at n h h2, if_pos hz]
  rfl
def hX (I : Nat → Int32) (F : Nat → Nat → Int32) (sd : Int64) : pm_HP := [.inr (7, [.ref 1, .ref 3, .ref 5, .ref 7, .ref 9, .ref 11, .ref 12, .ref 13, .ref 14, .long sd]), .inr (6, [.ref 2, .int (I 0)]), .inl (0, 48, .inl (F 2)), .inr (0, [.ref 4]), .inl (0, 28, .inl (F 4)), .inr (0, [.ref 6]), .inl (0, 28, .inl (F 6)), .inr (2, [.ref 8, .int (I 1), .int (I 2)]), .inl (0, 420, .inl (F 8)), .inr (5, [.ref 10, .int (I 3)]), .inl (0, 56, .inl (F 10)), .inr (4, [.int (I 4), .int (I 5), .int (I 6)]), .inr (1, [.int (I 7), .int (I 8)]), .inl (0, 4, .inl (F 13)), .inl (0, 6, .inl (F 14))]
def hY (I : Nat → Int32) (F : Nat → Nat → Int32) (sd : Int64) : pm_HP := [.inr (8, [.int (I 0), .ref 1, .int (I 2), .int (I 3), .int (I 4), .int (I 5), .ref 2, .int (I 7), .int (I 8), .int (I 9), .int (I 10), .ref 3, .int (I 12), .ref 4, .ref 5, .ref 6, .ref 7, .int (I 17), .ref 8, .ref 9, .int (I 20), .ref 10, .ref 11, .long sd, .int (I 24), .int (I 25), .int (I 26), .int (I 27), .int (I 28), .int (I 29), .ref 12, .ref 13]), .inl (0, 48, .inl (F 1)), .inl (0, 4, .inl (F 2)), .inl (0, 8, .inl (F 3)), .inl (0, 5, .inl (F 4)), .inl (0, 21, .inl (F 5)), .inl (0, 21, .inl (F 6)), .inl (0, 294, .inl (F 7)), .inl (0, 42, .inl (F 8)), .inl (1, 2, .inl (F 9)), .inl (0, 6, .inl (F 10)), .inl (0, 6, .inl (F 11)), .inl (0, 18, .inl (F 12)), .inl (0, 16, .inl (F 13))]
theorem hX_s2 (I : Nat → Int32) (F : Nat → Nat → Int32) (sd : Int64) (g : Nat → Int32) : (hX I F sd).set 2 (.inl (0, 48, .inl g)) = hX I (uF F 2 g) sd := rfl
theorem hX_s4 (I : Nat → Int32) (F : Nat → Nat → Int32) (sd : Int64) (g : Nat → Int32) : (hX I F sd).set 4 (.inl (0, 28, .inl g)) = hX I (uF F 4 g) sd := rfl
theorem hX_s6 (I : Nat → Int32) (F : Nat → Nat → Int32) (sd : Int64) (g : Nat → Int32) : (hX I F sd).set 6 (.inl (0, 28, .inl g)) = hX I (uF F 6 g) sd := rfl
theorem hX_s8 (I : Nat → Int32) (F : Nat → Nat → Int32) (sd : Int64) (g : Nat → Int32) : (hX I F sd).set 8 (.inl (0, 420, .inl g)) = hX I (uF F 8 g) sd := rfl
theorem hX_s10 (I : Nat → Int32) (F : Nat → Nat → Int32) (sd : Int64) (g : Nat → Int32) : (hX I F sd).set 10 (.inl (0, 56, .inl g)) = hX I (uF F 10 g) sd := rfl
theorem hX_s13 (I : Nat → Int32) (F : Nat → Nat → Int32) (sd : Int64) (g : Nat → Int32) : (hX I F sd).set 13 (.inl (0, 4, .inl g)) = hX I (uF F 13 g) sd := rfl
theorem hX_s14 (I : Nat → Int32) (F : Nat → Nat → Int32) (sd : Int64) (g : Nat → Int32) : (hX I F sd).set 14 (.inl (0, 6, .inl g)) = hX I (uF F 14 g) sd := rfl
theorem hY_s1 (I : Nat → Int32) (F : Nat → Nat → Int32) (sd : Int64) (g : Nat → Int32) : (hY I F sd).set 1 (.inl (0, 48, .inl g)) = hY I (uF F 1 g) sd := rfl
theorem hY_s2 (I : Nat → Int32) (F : Nat → Nat → Int32) (sd : Int64) (g : Nat → Int32) : (hY I F sd).set 2 (.inl (0, 4, .inl g)) = hY I (uF F 2 g) sd := rfl
theorem hY_s3 (I : Nat → Int32) (F : Nat → Nat → Int32) (sd : Int64) (g : Nat → Int32) : (hY I F sd).set 3 (.inl (0, 8, .inl g)) = hY I (uF F 3 g) sd := rfl
theorem hY_s4 (I : Nat → Int32) (F : Nat → Nat → Int32) (sd : Int64) (g : Nat → Int32) : (hY I F sd).set 4 (.inl (0, 5, .inl g)) = hY I (uF F 4 g) sd := rfl
theorem hY_s5 (I : Nat → Int32) (F : Nat → Nat → Int32) (sd : Int64) (g : Nat → Int32) : (hY I F sd).set 5 (.inl (0, 21, .inl g)) = hY I (uF F 5 g) sd := rfl
theorem hY_s6 (I : Nat → Int32) (F : Nat → Nat → Int32) (sd : Int64) (g : Nat → Int32) : (hY I F sd).set 6 (.inl (0, 21, .inl g)) = hY I (uF F 6 g) sd := rfl
theorem hY_s7 (I : Nat → Int32) (F : Nat → Nat → Int32) (sd : Int64) (g : Nat → Int32) : (hY I F sd).set 7 (.inl (0, 294, .inl g)) = hY I (uF F 7 g) sd := rfl
theorem hY_s8 (I : Nat → Int32) (F : Nat → Nat → Int32) (sd : Int64) (g : Nat → Int32) : (hY I F sd).set 8 (.inl (0, 42, .inl g)) = hY I (uF F 8 g) sd := rfl
theorem hY_s9 (I : Nat → Int32) (F : Nat → Nat → Int32) (sd : Int64) (g : Nat → Int32) : (hY I F sd).set 9 (.inl (1, 2, .inl g)) = hY I (uF F 9 g) sd := rfl
theorem hY_s10 (I : Nat → Int32) (F : Nat → Nat → Int32) (sd : Int64) (g : Nat → Int32) : (hY I F sd).set 10 (.inl (0, 6, .inl g)) = hY I (uF F 10 g) sd := rfl
theorem hY_s11 (I : Nat → Int32) (F : Nat → Nat → Int32) (sd : Int64) (g : Nat → Int32) : (hY I F sd).set 11 (.inl (0, 6, .inl g)) = hY I (uF F 11 g) sd := rfl
theorem hY_s12 (I : Nat → Int32) (F : Nat → Nat → Int32) (sd : Int64) (g : Nat → Int32) : (hY I F sd).set 12 (.inl (0, 18, .inl g)) = hY I (uF F 12 g) sd := rfl
theorem hY_s13 (I : Nat → Int32) (F : Nat → Nat → Int32) (sd : Int64) (g : Nat → Int32) : (hY I F sd).set 13 (.inl (0, 16, .inl g)) = hY I (uF F 13 g) sd := rfl
