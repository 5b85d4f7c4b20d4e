section
-- ===== PART A: goes FIRST, ahead of the names: the tables' words, and 'selects' of the private methods out of them =====
/-- a private method of a class that the tables say can be made, by its rows of tables_1 -/
def lw_okq (q : MethodName × Nat) : Prop := (q.1.cls ≠ "java/lang/invoke/MethodHandle" ∧ q.1.cls ≠ "java/lang/invoke/VarHandle") ∧ Cond.instantiable q.1.cls q.2 ∈ tables_1 ∧ Cond.privateMethod q.1 ∈ tables_1 ∧ Cond.instanceMethod q.1 ∈ tables_1
theorem lw_p0 : lw_okq (⟨"AntLease$House", "set", "(II)V"⟩, 1) := ⟨⟨by decide +kernel, by decide +kernel⟩, List.mem_of_getElem? (i := 36) (by decide +kernel), List.mem_of_getElem? (i := 181) (by decide +kernel), List.mem_of_getElem? (i := 182) (by decide +kernel)⟩
theorem lw_p1 : lw_okq (⟨"AntLease$House", "add", "(II)V"⟩, 1) := ⟨⟨by decide +kernel, by decide +kernel⟩, List.mem_of_getElem? (i := 36) (by decide +kernel), List.mem_of_getElem? (i := 194) (by decide +kernel), List.mem_of_getElem? (i := 195) (by decide +kernel)⟩
theorem lw_p2 : lw_okq (⟨"AntLease$House", "cell", "(I)I"⟩, 1) := ⟨⟨by decide +kernel, by decide +kernel⟩, List.mem_of_getElem? (i := 36) (by decide +kernel), List.mem_of_getElem? (i := 198) (by decide +kernel), List.mem_of_getElem? (i := 199) (by decide +kernel)⟩
theorem lw_p3 : lw_okq (⟨"AntLease$Past", "next", "()I"⟩, 3) := ⟨⟨by decide +kernel, by decide +kernel⟩, List.mem_of_getElem? (i := 46) (by decide +kernel), List.mem_of_getElem? (i := 342) (by decide +kernel), List.mem_of_getElem? (i := 343) (by decide +kernel)⟩
theorem lw_p4 : lw_okq (⟨"AntLease$House", "refusal", "(II)I"⟩, 1) := ⟨⟨by decide +kernel, by decide +kernel⟩, List.mem_of_getElem? (i := 36) (by decide +kernel), List.mem_of_getElem? (i := 380) (by decide +kernel), List.mem_of_getElem? (i := 381) (by decide +kernel)⟩
theorem lw_p5 : lw_okq (⟨"AntLease", "worthOfThose", "(I)I"⟩, 10) := ⟨⟨by decide +kernel, by decide +kernel⟩, List.mem_of_getElem? (i := 14) (by decide +kernel), List.mem_of_getElem? (i := 490) (by decide +kernel), List.mem_of_getElem? (i := 491) (by decide +kernel)⟩
theorem lw_p6 : lw_okq (⟨"AntLease$Said", "isSo", "(II)Z"⟩, 3) := ⟨⟨by decide +kernel, by decide +kernel⟩, List.mem_of_getElem? (i := 75) (by decide +kernel), List.mem_of_getElem? (i := 523) (by decide +kernel), List.mem_of_getElem? (i := 524) (by decide +kernel)⟩
theorem lw_p7 : lw_okq (⟨"AntLease", "pairsThatKeep", "(II)I"⟩, 10) := ⟨⟨by decide +kernel, by decide +kernel⟩, List.mem_of_getElem? (i := 14) (by decide +kernel), List.mem_of_getElem? (i := 536) (by decide +kernel), List.mem_of_getElem? (i := 537) (by decide +kernel)⟩
theorem lw_p8 : lw_okq (⟨"AntLease", "weighKnown", "(I)V"⟩, 10) := ⟨⟨by decide +kernel, by decide +kernel⟩, List.mem_of_getElem? (i := 14) (by decide +kernel), List.mem_of_getElem? (i := 560) (by decide +kernel), List.mem_of_getElem? (i := 561) (by decide +kernel)⟩
theorem lw_p9 : lw_okq (⟨"AntLeaseModel", "readManor", "()I"⟩, 32) := ⟨⟨by decide +kernel, by decide +kernel⟩, List.mem_of_getElem? (i := 599) (by decide +kernel), List.mem_of_getElem? (i := 719) (by decide +kernel), List.mem_of_getElem? (i := 720) (by decide +kernel)⟩
theorem lw_p10 : lw_okq (⟨"AntLeaseModel", "figure", "(I)I"⟩, 32) := ⟨⟨by decide +kernel, by decide +kernel⟩, List.mem_of_getElem? (i := 599) (by decide +kernel), List.mem_of_getElem? (i := 723) (by decide +kernel), List.mem_of_getElem? (i := 724) (by decide +kernel)⟩
theorem lw_p11 : lw_okq (⟨"AntLeaseModel", "readPart", "()Z"⟩, 32) := ⟨⟨by decide +kernel, by decide +kernel⟩, List.mem_of_getElem? (i := 599) (by decide +kernel), List.mem_of_getElem? (i := 727) (by decide +kernel), List.mem_of_getElem? (i := 728) (by decide +kernel)⟩
theorem lw_p12 : lw_okq (⟨"AntLeaseModel", "readOneFood", "()Z"⟩, 32) := ⟨⟨by decide +kernel, by decide +kernel⟩, List.mem_of_getElem? (i := 599) (by decide +kernel), List.mem_of_getElem? (i := 731) (by decide +kernel), List.mem_of_getElem? (i := 732) (by decide +kernel)⟩
theorem lw_p13 : lw_okq (⟨"AntLeaseModel", "readOneThing", "()Z"⟩, 32) := ⟨⟨by decide +kernel, by decide +kernel⟩, List.mem_of_getElem? (i := 599) (by decide +kernel), List.mem_of_getElem? (i := 735) (by decide +kernel), List.mem_of_getElem? (i := 736) (by decide +kernel)⟩
theorem lw_p14 : lw_okq (⟨"AntLeaseModel", "shortOf", "([I)I"⟩, 32) := ⟨⟨by decide +kernel, by decide +kernel⟩, List.mem_of_getElem? (i := 599) (by decide +kernel), List.mem_of_getElem? (i := 750) (by decide +kernel), List.mem_of_getElem? (i := 751) (by decide +kernel)⟩
theorem lw_p15 : lw_okq (⟨"AntLeaseModel", "worthOf", "([II)I"⟩, 32) := ⟨⟨by decide +kernel, by decide +kernel⟩, List.mem_of_getElem? (i := 599) (by decide +kernel), List.mem_of_getElem? (i := 754) (by decide +kernel), List.mem_of_getElem? (i := 755) (by decide +kernel)⟩
def lw_privs_1 : List (MethodName × Nat) := [(⟨"AntLease$House", "set", "(II)V"⟩, 1), (⟨"AntLease$House", "add", "(II)V"⟩, 1), (⟨"AntLease$House", "cell", "(I)I"⟩, 1), (⟨"AntLease$Past", "next", "()I"⟩, 3), (⟨"AntLease$House", "refusal", "(II)I"⟩, 1), (⟨"AntLease", "worthOfThose", "(I)I"⟩, 10), (⟨"AntLease$Said", "isSo", "(II)Z"⟩, 3), (⟨"AntLease", "pairsThatKeep", "(II)I"⟩, 10), (⟨"AntLease", "weighKnown", "(I)V"⟩, 10), (⟨"AntLeaseModel", "readManor", "()I"⟩, 32), (⟨"AntLeaseModel", "figure", "(I)I"⟩, 32), (⟨"AntLeaseModel", "readPart", "()Z"⟩, 32), (⟨"AntLeaseModel", "readOneFood", "()Z"⟩, 32), (⟨"AntLeaseModel", "readOneThing", "()Z"⟩, 32), (⟨"AntLeaseModel", "shortOf", "([I)I"⟩, 32), (⟨"AntLeaseModel", "worthOf", "([II)I"⟩, 32)]
theorem lw_r1 : ∀ q ∈ lw_privs_1, lw_okq q := List.forall_mem_cons.mpr ⟨lw_p0, List.forall_mem_cons.mpr ⟨lw_p1, List.forall_mem_cons.mpr ⟨lw_p2, List.forall_mem_cons.mpr ⟨lw_p3, List.forall_mem_cons.mpr ⟨lw_p4, List.forall_mem_cons.mpr ⟨lw_p5, List.forall_mem_cons.mpr ⟨lw_p6, List.forall_mem_cons.mpr ⟨lw_p7, List.forall_mem_cons.mpr ⟨lw_p8, List.forall_mem_cons.mpr ⟨lw_p9, List.forall_mem_cons.mpr ⟨lw_p10, List.forall_mem_cons.mpr ⟨lw_p11, List.forall_mem_cons.mpr ⟨lw_p12, List.forall_mem_cons.mpr ⟨lw_p13, List.forall_mem_cons.mpr ⟨lw_p14, List.forall_mem_cons.mpr ⟨lw_p15, fun _ h => absurd h List.not_mem_nil⟩⟩⟩⟩⟩⟩⟩⟩⟩⟩⟩⟩⟩⟩⟩⟩
theorem lw_p16 : lw_okq (⟨"AntLeaseModel", "worth", "([II)I"⟩, 32) := ⟨⟨by decide +kernel, by decide +kernel⟩, List.mem_of_getElem? (i := 599) (by decide +kernel), List.mem_of_getElem? (i := 761) (by decide +kernel), List.mem_of_getElem? (i := 762) (by decide +kernel)⟩
theorem lw_p17 : lw_okq (⟨"AntLeaseModel", "antsOf", "([I)I"⟩, 32) := ⟨⟨by decide +kernel, by decide +kernel⟩, List.mem_of_getElem? (i := 599) (by decide +kernel), List.mem_of_getElem? (i := 765) (by decide +kernel), List.mem_of_getElem? (i := 766) (by decide +kernel)⟩
theorem lw_p18 : lw_okq (⟨"AntLeaseModel", "known", "([I)I"⟩, 32) := ⟨⟨by decide +kernel, by decide +kernel⟩, List.mem_of_getElem? (i := 599) (by decide +kernel), List.mem_of_getElem? (i := 772) (by decide +kernel), List.mem_of_getElem? (i := 773) (by decide +kernel)⟩
theorem lw_p19 : lw_okq (⟨"AntLeaseModel", "noFood", "(I)Z"⟩, 32) := ⟨⟨by decide +kernel, by decide +kernel⟩, List.mem_of_getElem? (i := 599) (by decide +kernel), List.mem_of_getElem? (i := 780) (by decide +kernel), List.mem_of_getElem? (i := 781) (by decide +kernel)⟩
theorem lw_p20 : lw_okq (⟨"AntLeaseModel", "noThing", "(I)Z"⟩, 32) := ⟨⟨by decide +kernel, by decide +kernel⟩, List.mem_of_getElem? (i := 599) (by decide +kernel), List.mem_of_getElem? (i := 788) (by decide +kernel), List.mem_of_getElem? (i := 789) (by decide +kernel)⟩
theorem lw_p21 : lw_okq (⟨"AntLeaseModel", "astray", "(I)I"⟩, 32) := ⟨⟨by decide +kernel, by decide +kernel⟩, List.mem_of_getElem? (i := 599) (by decide +kernel), List.mem_of_getElem? (i := 792) (by decide +kernel), List.mem_of_getElem? (i := 793) (by decide +kernel)⟩
theorem lw_p22 : lw_okq (⟨"AntLeaseModel", "note", "()V"⟩, 32) := ⟨⟨by decide +kernel, by decide +kernel⟩, List.mem_of_getElem? (i := 599) (by decide +kernel), List.mem_of_getElem? (i := 803) (by decide +kernel), List.mem_of_getElem? (i := 804) (by decide +kernel)⟩
theorem lw_p23 : lw_okq (⟨"AntLeaseModel", "goQuarter", "([I)I"⟩, 32) := ⟨⟨by decide +kernel, by decide +kernel⟩, List.mem_of_getElem? (i := 599) (by decide +kernel), List.mem_of_getElem? (i := 807) (by decide +kernel), List.mem_of_getElem? (i := 808) (by decide +kernel)⟩
theorem lw_p24 : lw_okq (⟨"AntLeaseModel", "grains", "(II)I"⟩, 32) := ⟨⟨by decide +kernel, by decide +kernel⟩, List.mem_of_getElem? (i := 599) (by decide +kernel), List.mem_of_getElem? (i := 830) (by decide +kernel), List.mem_of_getElem? (i := 831) (by decide +kernel)⟩
theorem lw_p25 : lw_okq (⟨"AntLeaseModel", "goLeave", "([III)Z"⟩, 32) := ⟨⟨by decide +kernel, by decide +kernel⟩, List.mem_of_getElem? (i := 599) (by decide +kernel), List.mem_of_getElem? (i := 834) (by decide +kernel), List.mem_of_getElem? (i := 835) (by decide +kernel)⟩
theorem lw_p26 : lw_okq (⟨"AntLeaseModel", "begin", "()V"⟩, 32) := ⟨⟨by decide +kernel, by decide +kernel⟩, List.mem_of_getElem? (i := 599) (by decide +kernel), List.mem_of_getElem? (i := 859) (by decide +kernel), List.mem_of_getElem? (i := 860) (by decide +kernel)⟩
theorem lw_p27 : lw_okq (⟨"AntLeaseModel", "leaves", "(I)I"⟩, 32) := ⟨⟨by decide +kernel, by decide +kernel⟩, List.mem_of_getElem? (i := 599) (by decide +kernel), List.mem_of_getElem? (i := 870) (by decide +kernel), List.mem_of_getElem? (i := 871) (by decide +kernel)⟩
theorem lw_p28 : lw_okq (⟨"AntLeaseModel", "does", "(I)Z"⟩, 32) := ⟨⟨by decide +kernel, by decide +kernel⟩, List.mem_of_getElem? (i := 599) (by decide +kernel), List.mem_of_getElem? (i := 883) (by decide +kernel), List.mem_of_getElem? (i := 884) (by decide +kernel)⟩
theorem lw_p29 : lw_okq (⟨"AntLeaseModel", "moves", "(II)Z"⟩, 32) := ⟨⟨by decide +kernel, by decide +kernel⟩, List.mem_of_getElem? (i := 599) (by decide +kernel), List.mem_of_getElem? (i := 887) (by decide +kernel), List.mem_of_getElem? (i := 888) (by decide +kernel)⟩
theorem lw_p30 : lw_okq (⟨"AntLeaseModel", "sprinkles", "(I)Z"⟩, 32) := ⟨⟨by decide +kernel, by decide +kernel⟩, List.mem_of_getElem? (i := 599) (by decide +kernel), List.mem_of_getElem? (i := 891) (by decide +kernel), List.mem_of_getElem? (i := 892) (by decide +kernel)⟩
def lw_privs_2 : List (MethodName × Nat) := [(⟨"AntLeaseModel", "worth", "([II)I"⟩, 32), (⟨"AntLeaseModel", "antsOf", "([I)I"⟩, 32), (⟨"AntLeaseModel", "known", "([I)I"⟩, 32), (⟨"AntLeaseModel", "noFood", "(I)Z"⟩, 32), (⟨"AntLeaseModel", "noThing", "(I)Z"⟩, 32), (⟨"AntLeaseModel", "astray", "(I)I"⟩, 32), (⟨"AntLeaseModel", "note", "()V"⟩, 32), (⟨"AntLeaseModel", "goQuarter", "([I)I"⟩, 32), (⟨"AntLeaseModel", "grains", "(II)I"⟩, 32), (⟨"AntLeaseModel", "goLeave", "([III)Z"⟩, 32), (⟨"AntLeaseModel", "begin", "()V"⟩, 32), (⟨"AntLeaseModel", "leaves", "(I)I"⟩, 32), (⟨"AntLeaseModel", "does", "(I)Z"⟩, 32), (⟨"AntLeaseModel", "moves", "(II)Z"⟩, 32), (⟨"AntLeaseModel", "sprinkles", "(I)Z"⟩, 32)]
theorem lw_r2 : ∀ q ∈ lw_privs_2, lw_okq q := List.forall_mem_cons.mpr ⟨lw_p16, List.forall_mem_cons.mpr ⟨lw_p17, List.forall_mem_cons.mpr ⟨lw_p18, List.forall_mem_cons.mpr ⟨lw_p19, List.forall_mem_cons.mpr ⟨lw_p20, List.forall_mem_cons.mpr ⟨lw_p21, List.forall_mem_cons.mpr ⟨lw_p22, List.forall_mem_cons.mpr ⟨lw_p23, List.forall_mem_cons.mpr ⟨lw_p24, List.forall_mem_cons.mpr ⟨lw_p25, List.forall_mem_cons.mpr ⟨lw_p26, List.forall_mem_cons.mpr ⟨lw_p27, List.forall_mem_cons.mpr ⟨lw_p28, List.forall_mem_cons.mpr ⟨lw_p29, List.forall_mem_cons.mpr ⟨lw_p30, fun _ h => absurd h List.not_mem_nil⟩⟩⟩⟩⟩⟩⟩⟩⟩⟩⟩⟩⟩⟩⟩
def lw_privs : List (MethodName × Nat) := lw_privs_1 ++ (lw_privs_2)
def lw_tbl : List Cond := k2_sels lw_privs ++ tables_1
theorem lw_privs_ok : ∀ q ∈ lw_privs, lw_okq q := by
  show ∀ q ∈ lw_privs_1 ++ (lw_privs_2), lw_okq q
  exact List.forall_mem_append.mpr ⟨lw_r1, lw_r2⟩
-- ===== end of PART A; then your names; then what follows =====
end
section
/-! THE PURE MACHINE: a step function on indices of instructions, over a heap of numbered cells; fuel-free runs; all of my own -/
abbrev pm_CE : Type := (Nat × vp_A) ⊕ (Nat × List Value)
abbrev pm_HP : Type := List pm_CE
abbrev pm_LS : Type := List (Option Value)
abbrev pm_OP : Type := Nat × Instr × Nat × Nat × Value × List Nat × List (Int32 × Nat)
abbrev pm_R : Type := Option Value × pm_HP
abbrev pm_C : Type := Nat × pm_LS × List Value × pm_HP
abbrev pm_M : Type := MethodName × ByteArray × Nat × Option FieldType × List Nat × List pm_OP × List Nat
abbrev pm_X : Type := pm_C ⊕ Option pm_R
abbrev pm_K : Type := Nat → List Value → pm_HP → Option pm_R
def pm_ld (ls : pm_LS) (k : Nat) : Option Value := match ls[k]? with
  | some (some v) => some v
  | _ => none
def pm_in (i : Int32) (n : Nat) : Bool := decide (¬ (i < 0 ∨ n ≤ i.toNatClampNeg))
def pm_sw (k : Nat → pm_X) (x : Int32) (d : Nat) : List (Int32 × Nat) → pm_X
  | [] => k d
  | q :: r => if x = q.1 then k q.2 else pm_sw k x d r
def pm_bd (o : Option pm_R) (k : Option Value → pm_HP → pm_X) : pm_X := match o with
  | some q => k q.1 q.2
  | none => .inr none
def pm_ldI (i : Nat) (ls : pm_LS) (st : List Value) (hp : pm_HP) (k : Nat) : pm_X := match pm_ld ls k with
  | some (.int x) => .inl (i + 1, ls, .int x :: st, hp)
  | _ => .inr none
def pm_ldA (i : Nat) (ls : pm_LS) (st : List Value) (hp : pm_HP) (k : Nat) : pm_X := match pm_ld ls k with
  | some (.ref x) => .inl (i + 1, ls, .ref x :: st, hp)
  | _ => .inr none
def pm_ldL (i : Nat) (ls : pm_LS) (st : List Value) (hp : pm_HP) (k : Nat) : pm_X := match pm_ld ls k with
  | some (.long x) => .inl (i + 1, ls, .long x :: st, hp)
  | _ => .inr none
def pm_stI (i : Nat) (ls : pm_LS) (st : List Value) (hp : pm_HP) (k : Nat) : pm_X := match st with
  | .int x :: st => .inl (i + 1, ls.set k (some (.int x)), st, hp)
  | _ => .inr none
def pm_stL (i : Nat) (ls : pm_LS) (st : List Value) (hp : pm_HP) (k : Nat) : pm_X := match st with
  | .long x :: st => .inl (i + 1, (ls.set k (some (.long x))).set (k + 1) none, st, hp)
  | _ => .inr none
def pm_cI (i : Nat) (ls : pm_LS) (st : List Value) (hp : pm_HP) (v : Value) : pm_X := match v with
  | .int x => .inl (i + 1, ls, .int x :: st, hp)
  | _ => .inr none
def pm_cL (i : Nat) (ls : pm_LS) (st : List Value) (hp : pm_HP) (v : Value) : pm_X := match v with
  | .long x => .inl (i + 1, ls, .long x :: st, hp)
  | _ => .inr none
def pm_b2 (i : Nat) (ls : pm_LS) (st : List Value) (hp : pm_HP) (f : Int32 → Int32 → Int32) : pm_X := match st with
  | .int y :: .int x :: st => .inl (i + 1, ls, .int (f x y) :: st, hp)
  | _ => .inr none
def pm_d2 (i : Nat) (ls : pm_LS) (st : List Value) (hp : pm_HP) (f : Int32 → Int32 → Int32) : pm_X := match st with
  | .int y :: .int x :: st => if y = 0 then .inr none else .inl (i + 1, ls, .int (f x y) :: st, hp)
  | _ => .inr none
def pm_l2 (i : Nat) (ls : pm_LS) (st : List Value) (hp : pm_HP) (f : Int64 → Int64 → Int64) : pm_X := match st with
  | .long y :: .long x :: st => .inl (i + 1, ls, .long (f x y) :: st, hp)
  | _ => .inr none
def pm_e2 (i : Nat) (ls : pm_LS) (st : List Value) (hp : pm_HP) (f : Int64 → Int64 → Int64) : pm_X := match st with
  | .long y :: .long x :: st => if y = 0 then .inr none else .inl (i + 1, ls, .long (f x y) :: st, hp)
  | _ => .inr none
def pm_i1 (i : Nat) (ls : pm_LS) (st : List Value) (hp : pm_HP) (a : Nat) (f : Int32 → pm_X → pm_X → pm_X) : pm_X := match st with
  | .int x :: st => f x (.inl (a, ls, st, hp)) (.inl (i + 1, ls, st, hp))
  | _ => .inr none
def pm_i2 (i : Nat) (ls : pm_LS) (st : List Value) (hp : pm_HP) (a : Nat) (f : Int32 → Int32 → pm_X → pm_X → pm_X) : pm_X := match st with
  | .int y :: .int x :: st => f x y (.inl (a, ls, st, hp)) (.inl (i + 1, ls, st, hp))
  | _ => .inr none
def pm_gf (i : Nat) (ls : pm_LS) (st : List Value) (hp : pm_HP) (a : Nat) (aux : List Nat) : pm_X := match st with
  | .ref o :: st => (match hp[o]? with
    | some (.inr q) => if q.1 = aux.getD 0 0 then (match q.2[a]? with
      | some v => .inl (i + 1, ls, v :: st, hp)
      | none => .inr none) else .inr none
    | _ => .inr none)
  | _ => .inr none
def pm_pf (i : Nat) (ls : pm_LS) (st : List Value) (hp : pm_HP) (a : Nat) (v : Value) (aux : List Nat) : pm_X := match st with
  | .int x :: .ref o :: st => (match v with
    | .int _ => (match hp[o]? with
      | some (.inr q) => if q.1 = aux.getD 0 0 ∧ a < q.2.length then .inl (i + 1, ls, st, hp.set o (.inr (q.1, q.2.set a (.int x)))) else .inr none
      | _ => .inr none)
    | _ => .inr none)
  | .long x :: .ref o :: st => (match v with
    | .long _ => (match hp[o]? with
      | some (.inr q) => if q.1 = aux.getD 0 0 ∧ a < q.2.length then .inl (i + 1, ls, st, hp.set o (.inr (q.1, q.2.set a (.long x)))) else .inr none
      | _ => .inr none)
    | _ => .inr none)
  | _ => .inr none
def pm_al (i : Nat) (ls : pm_LS) (st : List Value) (hp : pm_HP) (t : Nat) : pm_X := match st with
  | .int j :: .ref o :: st => (match hp[o]? with
    | some (.inl (t0, n, .inl f)) => if t0 = t ∧ pm_in j n = true then .inl (i + 1, ls, .int (f j.toNatClampNeg) :: st, hp) else .inr none
    | _ => .inr none)
  | _ => .inr none
def pm_as (i : Nat) (ls : pm_LS) (st : List Value) (hp : pm_HP) (t : Nat) (g : Int32 → Int32) : pm_X := match st with
  | .int x :: .int j :: .ref o :: st => (match hp[o]? with
    | some (.inl (t0, n, .inl f)) => if t0 = t ∧ pm_in j n = true then .inl (i + 1, ls, st, hp.set o (.inl (t, n, .inl (upd f j.toNatClampNeg (g x))))) else .inr none
    | _ => .inr none)
  | _ => .inr none
def pm_len (i : Nat) (ls : pm_LS) (st : List Value) (hp : pm_HP) : pm_X := match st with
  | .ref o :: st => (match hp[o]? with
    | some (.inl (t0, n, _)) => if t0 < 2 then .inl (i + 1, ls, .int (Int32.ofNat n) :: st, hp) else .inr none
    | _ => .inr none)
  | _ => .inr none
def pm_cp (i : Nat) (ls : pm_LS) (st : List Value) (hp : pm_HP) : pm_X := match st with
  | .int n :: .int dp :: .ref d :: .int sp :: .ref o :: st => (match hp[o]? with
    | some (.inl (0, n0, .inl f)) => (match hp[d]? with
      | some (.inl (0, n1, .inl g)) => if ¬ sp < 0 ∧ ¬ dp < 0 ∧ ¬ n < 0 ∧ sp.toNatClampNeg + n.toNatClampNeg ≤ n0 ∧ dp.toNatClampNeg + n.toNatClampNeg ≤ n1 ∧ st.length ≤ 4 then
          .inl (i + 1, ls, st, hp.set d (.inl (0, n1, .inl (va_cpy f g sp.toNatClampNeg dp.toNatClampNeg n.toNatClampNeg)))) else .inr none
      | _ => .inr none)
    | _ => .inr none)
  | _ => .inr none
def pm_iv (call : pm_K) (i : Nat) (ls : pm_LS) (st : List Value) (hp : pm_HP) (a : Nat) (aux : List Nat) : pm_X := match st.drop (aux.getD 0 0) with
  | .ref o :: rest => (match hp[o]? with
    | some (.inr q) => if q.1 = aux.getD 1 0 ∧ rest.length ≤ 4 then pm_bd (call a (.ref o :: (st.take (aux.getD 0 0)).reverse) hp) (fun r hp2 => .inl (i + 1, ls, r.toList ++ rest, hp2)) else .inr none
    | _ => .inr none)
  | _ => .inr none
def pm_is (call : pm_K) (i : Nat) (ls : pm_LS) (st : List Value) (hp : pm_HP) (a : Nat) (aux : List Nat) : pm_X :=
  if aux.getD 0 0 ≤ st.length ∧ (st.drop (aux.getD 0 0)).length ≤ 4 then pm_bd (call a ((st.take (aux.getD 0 0)).reverse) hp) (fun r hp2 => .inl (i + 1, ls, r.toList ++ st.drop (aux.getD 0 0), hp2)) else .inr none
def pm_mx (i : Nat) (ls : pm_LS) (st : List Value) (hp : pm_HP) (k : Nat) : pm_X := match st with
  | .int y :: .int x :: st => if st.length ≤ 4 then (if k = 1 then .inl (i + 1, ls, .int (if x < y then y else x) :: st, hp) else if k = 2 then .inl (i + 1, ls, .int (if y < x then y else x) :: st, hp) else .inr none) else .inr none
  | _ => .inr none
def pm_ab (i : Nat) (ls : pm_LS) (st : List Value) (hp : pm_HP) : pm_X := match st with
  | .int x :: st => if st.length ≤ 4 then .inl (i + 1, ls, .int (if 0 ≤ x then x else 0 - x) :: st, hp) else .inr none
  | _ => .inr none
def pm_rz (ret : Option FieldType) (x : Int32) : Bool := match ret with
  | some .int => true
  | some .boolean => decide (narrow .boolean (.int x) = .int x)
  | _ => false
def pm_ng (i : Nat) (ls : pm_LS) (st : List Value) (hp : pm_HP) : pm_X := match st with
  | .int x :: st => .inl (i + 1, ls, .int (-x) :: st, hp)
  | _ => .inr none
def pm_lu (i : Nat) (ls : pm_LS) (st : List Value) (hp : pm_HP) : pm_X := match st with
  | .int y :: .long x :: st => .inl (i + 1, ls, .long (x.toUInt64 >>> (y.toInt64.toUInt64 &&& Int64.toUInt64 63)).toInt64 :: st, hp)
  | _ => .inr none
def pm_il (i : Nat) (ls : pm_LS) (st : List Value) (hp : pm_HP) : pm_X := match st with
  | .int x :: st => .inl (i + 1, ls, .long x.toInt64 :: st, hp)
  | _ => .inr none
def pm_li (i : Nat) (ls : pm_LS) (st : List Value) (hp : pm_HP) : pm_X := match st with
  | .long x :: st => .inl (i + 1, ls, .int x.toInt32 :: st, hp)
  | _ => .inr none
def pm_lc (i : Nat) (ls : pm_LS) (st : List Value) (hp : pm_HP) : pm_X := match st with
  | .long y :: .long x :: st => .inl (i + 1, ls, .int (lg_cmp x y) :: st, hp)
  | _ => .inr none
def pm_ii (i : Nat) (ls : pm_LS) (st : List Value) (hp : pm_HP) (k : Nat) (v : Value) : pm_X := match pm_ld ls k with
  | some (.int x) => (match v with
    | .int y => .inl (i + 1, ls.set k (some (.int (x + y))), st, hp)
    | _ => .inr none)
  | _ => .inr none
def pm_ts (ls : pm_LS) (st : List Value) (hp : pm_HP) (a : Nat) (sw : List (Int32 × Nat)) : pm_X := match st with
  | .int x :: st => pm_sw (fun t => .inl (t, ls, st, hp)) x a sw
  | _ => .inr none
def pm_du (i : Nat) (ls : pm_LS) (st : List Value) (hp : pm_HP) : pm_X := match st with
  | .int x :: st => .inl (i + 1, ls, .int x :: .int x :: st, hp)
  | .ref x :: st => .inl (i + 1, ls, .ref x :: .ref x :: st, hp)
  | _ => .inr none
def pm_dd (i : Nat) (ls : pm_LS) (st : List Value) (hp : pm_HP) : pm_X := match st with
  | .int x :: .ref y :: st => .inl (i + 1, ls, .int x :: .ref y :: .int x :: .ref y :: st, hp)
  | .long x :: st => .inl (i + 1, ls, .long x :: .long x :: st, hp)
  | _ => .inr none
def pm_po (i : Nat) (ls : pm_LS) (st : List Value) (hp : pm_HP) : pm_X := match st with
  | .int _ :: st => .inl (i + 1, ls, st, hp)
  | _ => .inr none
def pm_ri (ret : Option FieldType) (st : List Value) (hp : pm_HP) : pm_X := match st with
  | [.int x] => if pm_rz ret x = true then .inr (some (some (.int x), hp)) else .inr none
  | _ => .inr none
def pm_rl (ret : Option FieldType) (st : List Value) (hp : pm_HP) : pm_X := match st with
  | [.long x] => if ret = some .long then .inr (some (some (.long x), hp)) else .inr none
  | _ => .inr none
def pm_rv (ret : Option FieldType) (st : List Value) (hp : pm_HP) : pm_X := match st with
  | [] => if ret = none then .inr (some (none, hp)) else .inr none
  | _ => .inr none
def pm_act (call : pm_K) (ret : Option FieldType) (i : Nat) (ls : pm_LS) (st : List Value) (hp : pm_HP) (op : pm_OP) : pm_X := match op with
    | (_, ins, _, a, v, aux, sw) => match ins with
      | .iload k => pm_ldI i ls st hp k
      | .iload_n k => pm_ldI i ls st hp k
      | .aload k => pm_ldA i ls st hp k
      | .aload_n k => pm_ldA i ls st hp k
      | .lload k => pm_ldL i ls st hp k
      | .lload_n k => pm_ldL i ls st hp k
      | .istore k => pm_stI i ls st hp k
      | .istore_n k => pm_stI i ls st hp k
      | .lstore k => pm_stL i ls st hp k
      | .lstore_n k => pm_stL i ls st hp k
      | .iconst _ => pm_cI i ls st hp v
      | .bipush _ => pm_cI i ls st hp v
      | .sipush _ => pm_cI i ls st hp v
      | .ldc_w _ => pm_cI i ls st hp v
      | .lconst _ => pm_cL i ls st hp v
      | .ldc2_w _ => pm_cL i ls st hp v
      | .iadd => pm_b2 i ls st hp (fun x y => x + y)
      | .isub => pm_b2 i ls st hp (fun x y => x - y)
      | .imul => pm_b2 i ls st hp (fun x y => x * y)
      | .iand => pm_b2 i ls st hp (fun x y => x &&& y)
      | .ior => pm_b2 i ls st hp (fun x y => x ||| y)
      | .ishl => pm_b2 i ls st hp (fun x y => x <<< (y &&& 31))
      | .ishr => pm_b2 i ls st hp (fun x y => x >>> (y &&& 31))
      | .iushr => pm_b2 i ls st hp (fun x y => (x.toUInt32 >>> (y.toUInt32 &&& Int32.toUInt32 31)).toInt32)
      | .idiv => pm_d2 i ls st hp (fun x y => x / y)
      | .irem => pm_d2 i ls st hp (fun x y => x - x / y * y)
      | .ineg => pm_ng i ls st hp
      | .ladd => pm_l2 i ls st hp (fun x y => x + y)
      | .lsub => pm_l2 i ls st hp (fun x y => x - y)
      | .lmul => pm_l2 i ls st hp (fun x y => x * y)
      | .ldiv => pm_e2 i ls st hp (fun x y => x / y)
      | .lrem => pm_e2 i ls st hp (fun x y => x - x / y * y)
      | .lushr => pm_lu i ls st hp
      | .i2l => pm_il i ls st hp
      | .l2i => pm_li i ls st hp
      | .lcmp => pm_lc i ls st hp
      | .goto _ => .inl (a, ls, st, hp)
      | .ifCond .eq _ => pm_i1 i ls st hp a (fun x t f => if x = 0 then t else f)
      | .ifCond .ne _ => pm_i1 i ls st hp a (fun x t f => if x = 0 then f else t)
      | .ifCond .lt _ => pm_i1 i ls st hp a (fun x t f => if x < 0 then t else f)
      | .ifCond .ge _ => pm_i1 i ls st hp a (fun x t f => if x < 0 then f else t)
      | .ifCond .gt _ => pm_i1 i ls st hp a (fun x t f => if 0 < x then t else f)
      | .ifCond .le _ => pm_i1 i ls st hp a (fun x t f => if 0 < x then f else t)
      | .if_icmp .eq _ => pm_i2 i ls st hp a (fun x y t f => if x = y then t else f)
      | .if_icmp .ne _ => pm_i2 i ls st hp a (fun x y t f => if x = y then f else t)
      | .if_icmp .lt _ => pm_i2 i ls st hp a (fun x y t f => if x < y then t else f)
      | .if_icmp .ge _ => pm_i2 i ls st hp a (fun x y t f => if x < y then f else t)
      | .if_icmp .gt _ => pm_i2 i ls st hp a (fun x y t f => if y < x then t else f)
      | .if_icmp .le _ => pm_i2 i ls st hp a (fun x y t f => if y < x then f else t)
      | .iinc k _ => pm_ii i ls st hp k v
      | .tableswitch _ _ _ _ => pm_ts ls st hp a sw
      | .lookupswitch _ _ => pm_ts ls st hp a sw
      | .dup => pm_du i ls st hp
      | .dup2 => pm_dd i ls st hp
      | .pop => pm_po i ls st hp
      | .getfield _ => pm_gf i ls st hp a aux
      | .putfield _ => pm_pf i ls st hp a v aux
      | .iaload => pm_al i ls st hp 0
      | .baload => pm_al i ls st hp 1
      | .iastore => pm_as i ls st hp 0 (fun x => x)
      | .bastore => pm_as i ls st hp 1 (fun x => vp_nar .boolean x)
      | .arraylength => pm_len i ls st hp
      | .invokevirtual _ => pm_iv call i ls st hp a aux
      | .invokestatic _ => (match v with
        | .null => pm_cp i ls st hp
        | .ref k => pm_mx i ls st hp k
        | .float _ => pm_ab i ls st hp
        | _ => pm_is call i ls st hp a aux)
      | .ireturn => pm_ri ret st hp
      | .lreturn => pm_rl ret st hp
      | .return_ => pm_rv ret st hp
      | _ => .inr none
def pm_step (call : pm_K) (ret : Option FieldType) (ops : List pm_OP) (c : pm_C) : pm_X := match ops[c.1]? with
  | none => .inr none
  | some op => pm_act call ret c.1 c.2.1 c.2.2.1 c.2.2.2 op
theorem pm_step_some {call : pm_K} {ret : Option FieldType} {ops : List pm_OP} {i : Nat} {ls : pm_LS} {st : List Value} {hp : pm_HP} {op : pm_OP} (h : ops[i]? = some op) : pm_step call ret ops (i, ls, st, hp) = pm_act call ret i ls st hp op := by
  unfold pm_step
  rw [show (i, ls, st, hp).1 = i from rfl, h]
theorem pm_step_none {call : pm_K} {ret : Option FieldType} {ops : List pm_OP} {i : Nat} {ls : pm_LS} {st : List Value} {hp : pm_HP} (h : ops[i]? = none) : pm_step call ret ops (i, ls, st, hp) = .inr none := by
  unfold pm_step
  rw [show (i, ls, st, hp).1 = i from rfl, h]
def pm_ev (call : pm_K) (ret : Option FieldType) (ops : List pm_OP) : Nat → pm_C → Option pm_R
  | 0, _ => none
  | n + 1, c => match pm_step call ret ops c with
    | .inl c2 => pm_ev call ret ops n c2
    | .inr r => r
theorem pm_ev_up {call : pm_K} {ret : Option FieldType} {ops : List pm_OP} : ∀ (n : Nat) (c : pm_C) (r : pm_R), pm_ev call ret ops n c = some r → pm_ev call ret ops (n + 1) c = some r
  | 0, _, _, h => by cases h
  | n + 1, c, r, h => by
    rw [pm_ev] at h ⊢
    cases hs : pm_step call ret ops c with
    | inl c2 => rw [hs] at h; exact pm_ev_up n c2 r h
    | inr x => rw [hs] at h; exact h
theorem pm_ev_le {call : pm_K} {ret : Option FieldType} {ops : List pm_OP} {n : Nat} {c : pm_C} {r : pm_R} (h : pm_ev call ret ops n c = some r) : ∀ k, pm_ev call ret ops (n + k) c = some r
  | 0 => h
  | k + 1 => pm_ev_up _ _ _ (pm_ev_le h k)
theorem pm_ev_one {call : pm_K} {ret : Option FieldType} {ops : List pm_OP} {n k : Nat} {c : pm_C} {r q : pm_R} (h : pm_ev call ret ops n c = some r) (h2 : pm_ev call ret ops k c = some q) : r = q := by
  have a := pm_ev_le h k
  have b := pm_ev_le h2 n
  rw [Nat.add_comm] at b
  rw [a] at b
  exact Option.some.inj b
noncomputable def pm_EV (call : pm_K) (ret : Option FieldType) (ops : List pm_OP) (c : pm_C) : Option pm_R :=
  @dite (Option pm_R) (∃ n, (pm_ev call ret ops n c).isSome = true) (Classical.propDecidable _) (fun h => pm_ev call ret ops h.choose c) (fun _ => none)
theorem pm_EV_of {call : pm_K} {ret : Option FieldType} {ops : List pm_OP} {c : pm_C} {n : Nat} {r : pm_R} (h : pm_ev call ret ops n c = some r) : pm_EV call ret ops c = some r := by
  have hx : ∃ n, (pm_ev call ret ops n c).isSome = true := ⟨n, by rw [h]; rfl⟩
  unfold pm_EV
  rw [dif_pos hx]
  have h1 := hx.choose_spec
  cases hq : pm_ev call ret ops hx.choose c with
  | none => rw [hq] at h1; cases h1
  | some q => rw [pm_ev_one hq h]
theorem pm_EV_to {call : pm_K} {ret : Option FieldType} {ops : List pm_OP} {c : pm_C} {r : pm_R} (h : pm_EV call ret ops c = some r) : ∃ n, pm_ev call ret ops n c = some r := by
  unfold pm_EV at h
  by_cases hx : ∃ n, (pm_ev call ret ops n c).isSome = true
  · rw [dif_pos hx] at h
    exact ⟨_, h⟩
  · rw [dif_neg hx] at h
    cases h
noncomputable def pm_res (call : pm_K) (ret : Option FieldType) (ops : List pm_OP) (x : pm_X) : Option pm_R := match x with
  | .inl c => pm_EV call ret ops c
  | .inr r => r
theorem pm_EV_eq (call : pm_K) (ret : Option FieldType) (ops : List pm_OP) (c : pm_C) : pm_EV call ret ops c = pm_res call ret ops (pm_step call ret ops c) := by
  apply Option.ext
  intro r
  constructor
  · intro h
    obtain ⟨n, hn⟩ := pm_EV_to h
    cases n with
    | zero => cases hn
    | succ n =>
      rw [pm_ev] at hn
      cases hs : pm_step call ret ops c with
      | inl c2 => rw [hs] at hn; exact pm_EV_of hn
      | inr x => rw [hs] at hn; exact hn
  · intro h
    cases hs : pm_step call ret ops c with
    | inl c2 =>
      rw [hs] at h
      obtain ⟨n, hn⟩ := pm_EV_to (show pm_EV call ret ops c2 = some r from h)
      exact pm_EV_of (n := n + 1) (by rw [pm_ev, hs]; exact hn)
    | inr x =>
      rw [hs] at h
      exact pm_EV_of (n := 1) (by rw [pm_ev, hs]; exact h)
def pm_go (call : pm_K) (ret : Option FieldType) (ops : List pm_OP) : Nat → pm_C → Option pm_C
  | 0, c => some c
  | n + 1, c => match pm_step call ret ops c with
    | .inl c2 => pm_go call ret ops n c2
    | .inr _ => none
theorem pm_EV_go {call : pm_K} {ret : Option FieldType} {ops : List pm_OP} : ∀ (n : Nat) {c d : pm_C}, pm_go call ret ops n c = some d → pm_EV call ret ops c = pm_EV call ret ops d
  | 0, c, d, h => by cases h; rfl
  | n + 1, c, d, h => by
    rw [pm_go] at h
    rw [pm_EV_eq]
    cases hs : pm_step call ret ops c with
    | inl c2 => rw [hs] at h; exact pm_EV_go n h
    | inr x => rw [hs] at h; cases h
theorem pm_res_if {call : pm_K} {ret : Option FieldType} {ops : List pm_OP} {q : Prop} {dq : Decidable q} {a b : pm_X} : pm_res call ret ops (@ite _ q dq a b) = @ite _ q dq (pm_res call ret ops a) (pm_res call ret ops b) := by
  cases dq <;> rfl
/-- k plain steps, then one whose outcome is x -/
theorem pm_EV_at {call : pm_K} {ret : Option FieldType} {ops : List pm_OP} (n : Nat) {c d : pm_C} {x : pm_X} (h : pm_go call ret ops n c = some d) (h2 : pm_step call ret ops d = x) : pm_EV call ret ops c = pm_res call ret ops x := by
  rw [pm_EV_go n h, pm_EV_eq, h2]
theorem pm_EV_if {call : pm_K} {ret : Option FieldType} {ops : List pm_OP} (n : Nat) {c d c1 c2 : pm_C} {q : Prop} {dq : Decidable q} (h : pm_go call ret ops n c = some d) (h2 : pm_step call ret ops d = @ite _ q dq (.inl c1) (.inl c2)) : pm_EV call ret ops c = @ite _ q dq (pm_EV call ret ops c1) (pm_EV call ret ops c2) := by
  rw [pm_EV_at n h h2, pm_res_if]
  rfl
theorem pm_EV_gd {call : pm_K} {ret : Option FieldType} {ops : List pm_OP} (n : Nat) {c d c1 : pm_C} {q : Prop} {dq : Decidable q} (h : pm_go call ret ops n c = some d) (h2 : pm_step call ret ops d = @ite _ q dq (.inl c1) (.inr none)) (hq : q) : pm_EV call ret ops c = pm_EV call ret ops c1 := by
  rw [pm_EV_at n h h2, if_pos hq]
  rfl
theorem pm_EV_nz {call : pm_K} {ret : Option FieldType} {ops : List pm_OP} (n : Nat) {c d c1 : pm_C} {q : Prop} {dq : Decidable q} (h : pm_go call ret ops n c = some d) (h2 : pm_step call ret ops d = @ite _ q dq (.inr none) (.inl c1)) (hq : ¬ q) : pm_EV call ret ops c = pm_EV call ret ops c1 := by
  rw [pm_EV_at n h h2, if_neg hq]
  rfl
theorem pm_EV_call {call : pm_K} {ret : Option FieldType} {ops : List pm_OP} (n : Nat) {c d : pm_C} {a : Nat} {as : List Value} {hp : pm_HP} {k : Option Value → pm_HP → pm_X} {q : pm_R} (h : pm_go call ret ops n c = some d) (h2 : pm_step call ret ops d = pm_bd (call a as hp) k) (hq : call a as hp = some q) : pm_EV call ret ops c = pm_res call ret ops (k q.1 q.2) := by
  rw [pm_EV_at n h h2, hq]
  rfl
def pm_ent : List Value → pm_LS
  | [] => []
  | .long x :: r => some (.long x) :: none :: pm_ent r
  | v :: r => some v :: pm_ent r
def pm_aok (L : List Nat) : Nat → List Value → Bool
  | _, [] => true
  | i, .int _ :: r => pm_aok L (i + 1) r
  | i, .ref _ :: r => pm_aok L (i + 1) r
  | i, .long _ :: r => L.contains i && pm_aok L (i + 2) r
  | _, _ => false
noncomputable def pm_run (mt : List pm_M) : Nat → pm_K
  | 0 => fun _ _ _ => none
  | d + 1 => fun k as hp => match mt[k]? with
    | none => none
    | some M => if pm_aok M.2.2.2.2.1 0 as = true ∧ (pm_ent as).length ≤ M.2.2.1 then
        pm_EV (pm_run mt d) M.2.2.2.1 M.2.2.2.2.2.1 (0, pm_ent as ++ List.replicate (M.2.2.1 - (pm_ent as).length) none, [], hp) else none
end
section
/-! THE PURE MACHINE IS RIGHT: what it answers, the machine answers -/
def pm_pc (ops : List pm_OP) (i : Nat) : Nat := match ops[i]? with
  | some op => op.1
  | none => 0
def pm_vm (ad : Nat → Nat) (v : Value) : Value := match v with
  | .ref i => .ref (ad i)
  | v => v
theorem pm_vm_cat (ad : Nat → Nat) (v : Value) : (pm_vm ad v).category = v.category := by cases v <;> rfl
def pm_ce (ad : Nat → Nat) (cA : Nat → ClassId) (x : pm_CE) : va_E := match x with
  | .inl a => .inl (cA a.1, a.2)
  | .inr o => .inr (o.1, o.2.map (pm_vm ad))
def pm_ws (ad : Nat → Nat) (cA : Nat → ClassId) (hp : pm_HP) : va_W := hp.mapIdx (fun i x => (ad i, pm_ce ad cA x))
theorem pm_ws_at {ad : Nat → Nat} {cA : Nat → ClassId} {hp : pm_HP} {i : Nat} {x : pm_CE} (h : hp[i]? = some x) : (pm_ws ad cA hp)[i]? = some (ad i, pm_ce ad cA x) := by
  rw [pm_ws, List.getElem?_mapIdx, h]
  rfl
theorem pm_ws_set {ad : Nat → Nat} {cA : Nat → ClassId} {hp : pm_HP} {i : Nat} {x : pm_CE} : (pm_ws ad cA hp).set i (ad i, pm_ce ad cA x) = pm_ws ad cA (hp.set i x) := by
  apply List.ext_getElem?
  intro j
  rw [pm_ws, pm_ws, List.getElem?_mapIdx]
  by_cases hj : i = j
  · subst hj
    rw [List.getElem?_set_self', List.getElem?_set_self', List.getElem?_mapIdx]
    cases hp[i]? <;> rfl
  · rw [List.getElem?_set_ne hj, List.getElem?_set_ne hj, List.getElem?_mapIdx]
def pm_A (ad : Nat → Nat) (N sz : Nat) : Nat → Prop := fun q => (∃ i, i < N ∧ q = ad i) ∨ sz ≤ q
theorem pm_D {ad : Nat → Nat} {cA : Nat → ClassId} {hp : pm_HP} {N : Nat} (sz : Nat) (hN : hp.length = N) (hinj : ∀ i j, i < N → j < N → ad i = ad j → i = j) : va_D (pm_A ad N sz) (pm_ws ad cA hp) := by
  have key : ∀ (k : Nat) (q : Nat × va_E), (pm_ws ad cA hp)[k]? = some q → k < N ∧ q.1 = ad k := by
    intro k q hk
    rw [pm_ws, List.getElem?_mapIdx] at hk
    cases hx : hp[k]? with
    | none => rw [hx] at hk; cases hk
    | some x =>
      rw [hx] at hk
      cases hk
      exact ⟨hN ▸ (List.getElem?_eq_some_iff.mp hx).1, rfl⟩
  refine ⟨fun i j x y hi hj hxy => ?_, fun k q hk => ?_⟩
  · obtain ⟨a1, a2⟩ := key i x hi
    obtain ⟨b1, b2⟩ := key j y hj
    exact hinj i j a1 b1 (by rw [← a2, ← b2, hxy])
  · obtain ⟨a1, a2⟩ := key k q hk
    exact Or.inl ⟨k, a1, a2⟩
def pm_tys (cA : Nat → ClassId) : List (ClassId × FieldType) := [(cA 0, .int), (cA 1, .boolean)]
abbrev pm_N : Type := String × Nat × MethodName × String
def pm_NW (nst : List pm_N) (U : State) : Prop := ∀ q ∈ nst, va_Nw (.methodLinkNest q.1 q.2.1 q.2.2.1 q.2.2.2) U
/-- locals -/
def pm_LR (ls : Array Slot) (nL : Nat) (L : List Nat) (ad : Nat → Nat) (pl : pm_LS) : Prop := ls.size = nL ∧ lv_wf ls ∧ pl.length = nL ∧ ∀ (j : Nat) (v : Value), pl[j]? = some (some v) → ls[j]? = some (.val (pm_vm ad v)) ∧ (v.category = 2 → j ∈ L)
theorem pm_LR.ld {ls : Array Slot} {nL : Nat} {L : List Nat} {ad : Nat → Nat} {pl : pm_LS} (h : pm_LR ls nL L ad pl) {k : Nat} {v : Value} (hk : pm_ld pl k = some v) : ls[k]? = some (.val (pm_vm ad v)) := by
  have : pl[k]? = some (some v) := by
    unfold pm_ld at hk
    split at hk
    · rename_i w hw; cases hk; exact hw
    · cases hk
  exact (h.2.2.2 k v this).1
def pm_lv (ad : Nat → Nat) (pl : pm_LS) : List (Nat × Value) := (List.range pl.length).filterMap (fun j => match pl[j]? with
  | some (some v) => some (j, pm_vm ad v)
  | _ => none)
theorem pm_lv_mem {ad : Nat → Nat} {pl : pm_LS} {j : Nat} {v : Value} (h : pl[j]? = some (some v)) : (j, pm_vm ad v) ∈ pm_lv ad pl := by
  refine List.mem_filterMap.mpr ⟨j, List.mem_range.mpr (List.getElem?_eq_some_iff.mp h).1, ?_⟩
  rw [h]
theorem pm_lv_of {ad : Nat → Nat} {pl : pm_LS} {q : Nat × Value} (h : q ∈ pm_lv ad pl) : ∃ v, pl[q.1]? = some (some v) ∧ q.2 = pm_vm ad v := by
  obtain ⟨j, -, hj⟩ := List.mem_filterMap.mp h
  split at hj
  · rename_i v hv; cases hj; exact ⟨v, hv, rfl⟩
  · cases hj
theorem pm_LR.has {ls : Array Slot} {nL : Nat} {L : List Nat} {ad : Nat → Nat} {pl : pm_LS} (h : pm_LR ls nL L ad pl) : lv_has ls nL (pm_lv ad pl) := by
  refine ⟨h.1, h.2.1, fun q hq => ?_⟩
  obtain ⟨v, h1, h2⟩ := pm_lv_of hq
  rw [h2]
  exact (h.2.2.2 _ v h1).1
def pm_oks (nL : Nat) (L : List Nat) (k : Nat) : Bool := decide (k < nL) && L.all (fun j => decide (k ≠ j) && decide (k ≠ j + 1))
def pm_okl (nL : Nat) (L : List Nat) (k : Nat) : Bool := decide (k + 1 < nL) && (L.contains k && L.all (fun j => decide (k ≠ j + 1)))
theorem pm_LR.st1 {ls ls2 : Array Slot} {nL : Nat} {L : List Nat} {ad : Nat → Nat} {pl : pm_LS} {k : Nat} {v : Value} (h : pm_LR ls nL L ad pl) (hk : pm_oks nL L k = true) (hv : v.category = 1)
    (h2 : lv_has ls2 nL ((k, pm_vm ad v) :: (pm_lv ad pl).filter (fun q => !(q.1 == k) && !(q.1 + 1 == k && q.2.category == 2)))) : pm_LR ls2 nL L ad (pl.set k (some v)) := by
  unfold pm_oks at hk
  simp only [Bool.and_eq_true, decide_eq_true_eq, List.all_eq_true] at hk
  refine ⟨h2.1, h2.2.1, by rw [List.length_set]; exact h.2.2.1, fun j w hj => ?_⟩
  by_cases hjk : k = j
  · subst hjk
    rw [List.getElem?_set_self (by rw [h.2.2.1]; exact hk.1)] at hj
    cases hj
    exact ⟨h2.2.2 (k, pm_vm ad v) List.mem_cons_self, fun hc => by omega⟩
  · rw [List.getElem?_set_ne hjk] at hj
    refine ⟨h2.2.2 (j, pm_vm ad w) (List.mem_cons_of_mem _ (List.mem_filter.mpr ⟨pm_lv_mem hj, ?_⟩)), (h.2.2.2 j w hj).2⟩
    have h3 := (h.2.2.2 j w hj).2
    simp only [Bool.and_eq_true, Bool.not_eq_true', beq_eq_false_iff_ne, ne_eq, Bool.and_eq_false_iff, pm_vm_cat]
    refine ⟨fun z => hjk z.symm, ?_⟩
    by_cases hc : w.category = 2
    · exact Or.inl (fun z => (hk.2 j (h3 hc)).2 z.symm)
    · exact Or.inr hc
theorem pm_LR.st2 {ls ls2 : Array Slot} {nL : Nat} {L : List Nat} {ad : Nat → Nat} {pl : pm_LS} {k : Nat} {v : Value} (h : pm_LR ls nL L ad pl) (hk : pm_okl nL L k = true)
    (h2 : lv_has ls2 nL ((k, pm_vm ad v) :: (pm_lv ad pl).filter (fun q => !(q.1 == k) && (!(q.1 == k + 1) && !(q.1 + 1 == k && q.2.category == 2))))) : pm_LR ls2 nL L ad ((pl.set k (some v)).set (k + 1) none) := by
  unfold pm_okl at hk
  simp only [Bool.and_eq_true, decide_eq_true_eq, List.all_eq_true, List.contains_iff_mem] at hk
  refine ⟨h2.1, h2.2.1, by rw [List.length_set, List.length_set]; exact h.2.2.1, fun j w hj => ?_⟩
  by_cases hj1 : k + 1 = j
  · subst hj1
    rw [List.getElem?_set_self (by rw [List.length_set, h.2.2.1]; exact hk.1)] at hj
    cases hj
  · rw [List.getElem?_set_ne hj1] at hj
    by_cases hjk : k = j
    · subst hjk
      rw [List.getElem?_set_self (by rw [h.2.2.1]; omega)] at hj
      cases hj
      exact ⟨h2.2.2 (k, pm_vm ad v) List.mem_cons_self, fun _ => hk.2.1⟩
    · rw [List.getElem?_set_ne hjk] at hj
      refine ⟨h2.2.2 (j, pm_vm ad w) (List.mem_cons_of_mem _ (List.mem_filter.mpr ⟨pm_lv_mem hj, ?_⟩)), (h.2.2.2 j w hj).2⟩
      have h3 := (h.2.2.2 j w hj).2
      simp only [Bool.and_eq_true, Bool.not_eq_true', beq_eq_false_iff_ne, ne_eq, Bool.and_eq_false_iff, pm_vm_cat]
      refine ⟨fun z => hjk z.symm, fun z => hj1 z.symm, ?_⟩
      by_cases hc : w.category = 2
      · exact Or.inl (fun z => hk.2.2 j (h3 hc) z.symm)
      · exact Or.inr hc
/-- entry -/
theorem pm_ent_args {ad : Nat → Nat} {L : List Nat} : ∀ (as : List Value) (i : Nat), pm_aok L i as = true →
    (lg_sl (as.map (pm_vm ad))).length = (pm_ent as).length ∧ ∀ (j : Nat) (v : Value), (pm_ent as)[j]? = some (some v) → (i + j, pm_vm ad v) ∈ lv_args i (as.map (pm_vm ad)) ∧ (v.category = 2 → i + j ∈ L)
  | [], i, _ => ⟨rfl, fun j v h => by simp [pm_ent] at h⟩
  | .int x :: r, i, h => by
    obtain ⟨h1, h2⟩ := pm_ent_args (ad := ad) (L := L) r (i + 1) h
    refine ⟨?_, fun j v hj => ?_⟩
    · show (lg_sl (Value.int x :: r.map (pm_vm ad))).length = (some (Value.int x) :: pm_ent r).length
      rw [List.length_cons, ← h1]
      simp [lg_sl, Value.category]
    · cases j with
      | zero => cases hj; exact ⟨List.mem_cons_self, fun hc => by cases hc⟩
      | succ j =>
        have := h2 j v hj
        rw [Nat.add_assoc, Nat.add_comm 1 j] at this
        exact ⟨List.mem_cons_of_mem _ this.1, this.2⟩
  | .ref x :: r, i, h => by
    obtain ⟨h1, h2⟩ := pm_ent_args (ad := ad) (L := L) r (i + 1) h
    refine ⟨?_, fun j v hj => ?_⟩
    · show (lg_sl (Value.ref (ad x) :: r.map (pm_vm ad))).length = (some (Value.ref x) :: pm_ent r).length
      rw [List.length_cons, ← h1]
      simp [lg_sl, Value.category]
    · cases j with
      | zero => cases hj; exact ⟨List.mem_cons_self, fun hc => by cases hc⟩
      | succ j =>
        have := h2 j v hj
        rw [Nat.add_assoc, Nat.add_comm 1 j] at this
        exact ⟨List.mem_cons_of_mem _ this.1, this.2⟩
  | .long x :: r, i, h => by
    have h0 : L.contains i = true ∧ pm_aok L (i + 2) r = true := by
      simpa [pm_aok] using h
    obtain ⟨h1, h2⟩ := pm_ent_args (ad := ad) (L := L) r (i + 2) h0.2
    refine ⟨?_, fun j v hj => ?_⟩
    · show (lg_sl (Value.long x :: r.map (pm_vm ad))).length = (some (Value.long x) :: none :: pm_ent r).length
      rw [List.length_cons, List.length_cons, ← h1]
      simp [lg_sl, Value.category]
    · cases j with
      | zero => cases hj; exact ⟨List.mem_cons_self, fun _ => List.contains_iff_mem.mp h0.1⟩
      | succ j =>
        cases j with
        | zero => cases hj
        | succ j =>
          have := h2 j v hj
          rw [Nat.add_assoc, Nat.add_comm 2 j] at this
          exact ⟨List.mem_cons_of_mem _ this.1, this.2⟩
  | .float _ :: _, _, h => by cases h
  | .double _ :: _, _, h => by cases h
  | .null :: _, _, h => by cases h
  | .retAddr _ :: _, _, h => by cases h
theorem pm_LR_entry {ad : Nat → Nat} {L : List Nat} {as : List Value} {nL : Nat} (h : pm_aok L 0 as = true) (hn : (pm_ent as).length ≤ nL) :
    pm_LR ((lg_sl (as.map (pm_vm ad)) ++ List.replicate (nL - (lg_sl (as.map (pm_vm ad))).length) Slot.unset).toArray) nL L ad (pm_ent as ++ List.replicate (nL - (pm_ent as).length) none) := by
  obtain ⟨h1, h2⟩ := pm_ent_args (ad := ad) (L := L) as 0 h
  have he := lv_entry (as.map (pm_vm ad)) (n := nL) (by rw [h1]; exact hn)
  refine ⟨he.1, he.2.1, by rw [List.length_append, List.length_replicate]; omega, fun j v hj => ?_⟩
  by_cases hlt : j < (pm_ent as).length
  · rw [List.getElem?_append_left hlt] at hj
    have := h2 j v hj
    rw [Nat.zero_add] at this
    exact ⟨he.2.2 _ this.1, this.2⟩
  · rw [List.getElem?_append_right (by omega), List.getElem?_replicate] at hj
    split at hj <;> cases hj
/-- switches -/
def pm_swT (ops : List pm_OP) (pc : Nat) : Int → List (Int32 × Nat) → List Int → Bool
  | _, [], [] => true
  | z, q :: r, o :: os => decide (q.1.toInt = z) && (decide ((pc : Int) + o = (pm_pc ops q.2 : Int)) && pm_swT ops pc (z + 1) r os)
  | _, _, _ => false
def pm_swL (ops : List pm_OP) (pc : Nat) : List (Int32 × Nat) → List (Int × Int) → Bool
  | [], [] => true
  | q :: r, o :: os => decide (q.1.toInt = o.1) && (decide ((pc : Int) + o.2 = (pm_pc ops q.2 : Int)) && pm_swL ops pc r os)
  | _, _ => false
theorem pm_swT_to {ops : List pm_OP} {pc : Nat} {k : Nat → pm_X} {x : Int32} {d : Nat} : ∀ (sw : List (Int32 × Nat)) (os : List Int) (z : Int), pm_swT ops pc z sw os = true →
    (∃ (t : Nat) (off : Int), pm_sw k x d sw = k t ∧ ¬ x.toInt < z ∧ x.toInt < z + os.length ∧ os[(x.toInt - z).toNat]? = some off ∧ (pc : Int) + off = (pm_pc ops t : Int)) ∨
    (pm_sw k x d sw = k d ∧ (x.toInt < z ∨ z + os.length ≤ x.toInt))
  | [], [], z, _ => Or.inr ⟨rfl, by simp; omega⟩
  | [], _ :: _, _, h => by cases h
  | _ :: _, [], _, h => by cases h
  | q :: r, o :: os, z, h => by
    simp only [pm_swT, Bool.and_eq_true, decide_eq_true_eq] at h
    by_cases hx : x = q.1
    · refine Or.inl ⟨q.2, o, by rw [pm_sw, if_pos hx], ?_, ?_, ?_, h.2.1⟩
      · rw [hx, h.1]; omega
      · rw [hx, h.1, List.length_cons]; omega
      · rw [hx, h.1, Int.sub_self]; rfl
    · have hne : x.toInt ≠ z := fun e => hx (Int32.toInt_inj.mp (e.trans h.1.symm))
      rcases pm_swT_to (k := k) (x := x) (d := d) r os (z + 1) h.2.2 with ⟨t, off, h1, h2, h3, h4, h5⟩ | ⟨h1, h2⟩
      · refine Or.inl ⟨t, off, by rw [pm_sw, if_neg hx]; exact h1, by omega, by rw [List.length_cons]; omega, ?_, h5⟩
        have e : (x.toInt - z).toNat = (x.toInt - (z + 1)).toNat + 1 := by omega
        rw [e, List.getElem?_cons_succ]
        exact h4
      · refine Or.inr ⟨by rw [pm_sw, if_neg hx]; exact h1, ?_⟩
        rw [List.length_cons]
        omega
theorem pm_swL_to {ops : List pm_OP} {pc : Nat} {k : Nat → pm_X} {x : Int32} {d : Nat} {dflt : Int} (hd : (pc : Int) + dflt = (pm_pc ops d : Int)) : ∀ (sw : List (Int32 × Nat)) (os : List (Int × Int)), pm_swL ops pc sw os = true →
    ∃ (t : Nat), pm_sw k x d sw = k t ∧ (pc : Int) + Op.lookupswitch.offset os dflt x.toInt = (pm_pc ops t : Int)
  | [], [], _ => ⟨d, rfl, hd⟩
  | [], _ :: _, h => by cases h
  | _ :: _, [], h => by cases h
  | q :: r, (a, o) :: os, h => by
    simp only [pm_swL, Bool.and_eq_true, decide_eq_true_eq] at h
    by_cases hx : x = q.1
    · refine ⟨q.2, by rw [pm_sw, if_pos hx], ?_⟩
      rw [Op.lookupswitch.offset_cons, if_pos (by rw [hx]; exact h.1.symm)]
      exact h.2.1
    · obtain ⟨t, h1, h2⟩ := pm_swL_to hd r os h.2.2 (k := k) (x := x)
      refine ⟨t, by rw [pm_sw, if_neg hx]; exact h1, ?_⟩
      rw [Op.lookupswitch.offset_cons, if_neg (fun e => hx (Int32.toInt_inj.mp (e.symm.trans h.1.symm)))]
      exact h2
/-- what a program must show of a method's table -/
def pm_ln (ins : Instr) : Nat := match ins with
  | .iload _ => 2
  | .aload _ => 2
  | .lload _ => 2
  | .istore _ => 2
  | .lstore _ => 2
  | .bipush _ => 2
  | .sipush _ => 3
  | .ldc_w _ => 3
  | .ldc2_w _ => 3
  | .goto _ => 3
  | .ifCond _ _ => 3
  | .if_icmp _ _ => 3
  | .iinc _ _ => 3
  | .tableswitch _ _ _ _ => 0
  | .lookupswitch _ _ => 0
  | .getfield _ => 3
  | .putfield _ => 3
  | .invokevirtual _ => 3
  | .invokestatic _ => 3
  | _ => 1
def pm_fty (v : Value) (t : Option FieldType) : Bool := match v with
  | .int _ => decide (t = some .int)
  | .long _ => decide (t = some .long)
  | _ => false
abbrev pm_P : Type := List pm_M × List vw_C × List Cond × List pm_N
def pm_chk (P : pm_P) (M : pm_M) (op : pm_OP) : Bool := match op with
  | (pc, ins, _, a, v, aux, sw) => match ins with
    | .istore k => pm_oks M.2.2.1 M.2.2.2.2.1 k
    | .istore_n k => pm_oks M.2.2.1 M.2.2.2.2.1 k
    | .lstore k => pm_okl M.2.2.1 M.2.2.2.2.1 k
    | .lstore_n k => pm_okl M.2.2.1 M.2.2.2.2.1 k
    | .iinc k n => pm_oks M.2.2.1 M.2.2.2.2.1 k && decide (v = .int (Int32.ofInt n))
    | .iconst n => decide (v = .int (Int32.ofInt n))
    | .bipush n => decide (v = .int (Int8.ofInt n).toInt32)
    | .sipush n => decide (v = .int (Int16.ofInt n).toInt32)
    | .lconst n => decide (v = .long (Int64.ofNat (n : Nat)))
    | .ldc_w k => (match v with
      | .int x => decide (P.2.2.1[aux.getD 0 0]? = some (.constant M.1.cls k x))
      | _ => false)
    | .ldc2_w k => (match v with
      | .long x => decide (P.2.2.1[aux.getD 0 0]? = some (.constantLong M.1.cls k x))
      | _ => false)
    | .goto off => decide ((pc : Int) + off = (pm_pc M.2.2.2.2.2.1 a : Int))
    | .ifCond _ off => decide ((pc : Int) + off = (pm_pc M.2.2.2.2.2.1 a : Int))
    | .if_icmp _ off => decide ((pc : Int) + off = (pm_pc M.2.2.2.2.2.1 a : Int))
    | .tableswitch d lo hi offs => decide ((pc : Int) + d = (pm_pc M.2.2.2.2.2.1 a : Int)) && (decide (hi + 1 = lo + offs.toList.length) && pm_swT M.2.2.2.2.2.1 pc lo sw offs.toList)
    | .lookupswitch d ps => decide ((pc : Int) + d = (pm_pc M.2.2.2.2.2.1 a : Int)) && ((ps.toList.zip (ps.toList.drop 1)).all (fun (a, next) => a.1 < next.1) && pm_swL M.2.2.2.2.2.1 pc sw ps.toList)
    | .getfield k => (match P.2.1[aux.getD 0 0]? with
      | some q => decide (a < q.2.2) && decide (P.2.2.1[aux.getD 1 0]? = some (.fieldLink M.1.cls k (q.2.1 a).1 (q.2.1 a).2.1 (q.2.1 a).2.2.1))
      | none => false)
    | .putfield k => (match P.2.1[aux.getD 0 0]? with
      | some q => decide (a < q.2.2) && (decide (P.2.2.1[aux.getD 1 0]? = some (.fieldLink M.1.cls k (q.2.1 a).1 (q.2.1 a).2.1 (q.2.1 a).2.2.1)) && (decide ((q.2.1 a).2.2.2 = false) && pm_fty v (parseFieldDescriptor (q.2.1 a).2.2.1)))
      | none => false)
    | .invokevirtual k => (match P.1[a]? with
      | some K => (match P.2.1[aux.getD 1 0]? with
        | some q => decide (q.1 = K.1.cls) && (decide (P.2.2.1[aux.getD 2 0]? = some (.methodLink M.1.cls k K.1)) && (decide ((parseMethodDescriptor K.1.desc).map (fun d => d.parameters.length) = some (aux.getD 0 0)) &&
          (decide (P.2.2.1[K.2.2.2.2.2.2.getD 2 0]? = some (.instanceMethod K.1)) && decide (P.2.2.1[K.2.2.2.2.2.2.getD 3 0]? = some (.selects K.1.cls K.1 K.1)))))
        | none => false)
      | none => false)
    | .invokestatic k => (match v with
      | .null => decide (P.2.2.1[aux.getD 0 0]? = some (.methodLink M.1.cls k arraycopyName)) && (decide (P.2.2.1[aux.getD 1 0]? = some (.native arraycopyName)) && (decide (P.2.2.1[aux.getD 2 0]? = some (.static arraycopyName)) && decide (P.2.2.1[aux.getD 3 0]? = some (.initialized "java/lang/System"))))
      | .ref z => (decide (z = 1) && (decide (P.2.2.1[aux.getD 0 0]? = some (.methodLink M.1.cls k Lib.Math.max.name)) && (decide (P.2.2.1[aux.getD 1 0]? = some (.static Lib.Math.max.name)) && (decide (P.2.2.1[aux.getD 2 0]? = some (.initialized "java/lang/Math")) && decide (P.2.2.1[aux.getD 3 0]? = some (.code Lib.Math.max.name Lib.Math.max.code 2 (some .int))))))) ||
          (decide (z = 2) && (decide (P.2.2.1[aux.getD 0 0]? = some (.methodLink M.1.cls k Lib.Math.min.name)) && (decide (P.2.2.1[aux.getD 1 0]? = some (.static Lib.Math.min.name)) && (decide (P.2.2.1[aux.getD 2 0]? = some (.initialized "java/lang/Math")) && decide (P.2.2.1[aux.getD 3 0]? = some (.code Lib.Math.min.name Lib.Math.min.code 2 (some .int)))))))
      | .float _ => (decide (P.2.2.1[aux.getD 0 0]? = some (.methodLink M.1.cls k Lib.Math.abs.name)) && (decide (P.2.2.1[aux.getD 1 0]? = some (.static Lib.Math.abs.name)) && (decide (P.2.2.1[aux.getD 2 0]? = some (.initialized "java/lang/Math")) && decide (P.2.2.1[aux.getD 3 0]? = some (.code Lib.Math.abs.name Lib.Math.abs.code 1 (some .int))))))
      | .int _ => (match P.1[a]? with
        | some K => decide ((parseMethodDescriptor K.1.desc).map (fun d => d.parameters.length) = some (aux.getD 0 0)) && (decide (P.2.2.1[K.2.2.2.2.2.2.getD 2 0]? = some (.static K.1)) && decide (P.2.2.1[aux.getD 1 0]? = some (.methodLink M.1.cls k K.1)))
        | none => false)
      | .long _ => (match P.1[a]? with
        | some K => decide ((parseMethodDescriptor K.1.desc).map (fun d => d.parameters.length) = some (aux.getD 0 0)) && (decide (P.2.2.1[K.2.2.2.2.2.2.getD 2 0]? = some (.static K.1)) && (match P.2.2.2[aux.getD 1 0]? with
          | some q => decide (q.1 = M.1.cls) && (decide (q.2.1 = k) && decide (q.2.2.1 = K.1))
          | none => false))
        | none => false)
      | _ => false)
    | _ => true
def pm_okO (P : pm_P) (M : pm_M) (i : Nat) : Bool := match M.2.2.2.2.2.1[i]? with
  | none => false
  | some op => decide (decode M.2.1 op.1 = .ok (op.2.1, op.2.2.1)) && (decide (pm_ln op.2.1 = 0 ∨ op.2.2.1 = pm_ln op.2.1) && (decide (i + 1 < M.2.2.2.2.2.1.length → pm_pc M.2.2.2.2.2.1 (i + 1) = op.1 + op.2.2.1) && pm_chk P M op))
def pm_okM (P : pm_P) (M : pm_M) : Bool :=
  (plainName M.1.cls && (decide (M.1.cls ≠ "java/lang/invoke/MethodHandle") && (decide (M.1.cls ≠ "java/lang/invoke/VarHandle") && (decide (P.2.2.1[M.2.2.2.2.2.2.getD 0 0]? = some (.code M.1 M.2.1 M.2.2.1 M.2.2.2.1)) && (decide (P.2.2.1[M.2.2.2.2.2.2.getD 1 0]? = some (.initialized M.1.cls)) && (decide (M.2.2.1 ≤ 40) && decide (pm_pc M.2.2.2.2.2.1 0 = 0))))))) &&
    (List.range M.2.2.2.2.2.1.length).all (pm_okO P M)
end
section
/-! the walk: one theorem for all instructions -/
def pm_fin (E : pm_C → Option pm_R) (x : pm_X) : Option pm_R := match x with
  | .inl c => E c
  | .inr r => r
theorem pm_ev_fin {call : pm_K} {ret : Option FieldType} {ops : List pm_OP} {n : Nat} {c : pm_C} : pm_ev call ret ops (n + 1) c = pm_fin (pm_ev call ret ops n) (pm_step call ret ops c) := rfl
section INV
variable {E : pm_C → Option pm_R} {i a k : Nat} {ls : pm_LS} {st : List Value} {hp : pm_HP} {o : pm_R}
theorem pm_ldI_inv (h : pm_fin E (pm_ldI i ls st hp k) = some o) : ∃ x, pm_ld ls k = some (.int x) ∧ E (i + 1, ls, .int x :: st, hp) = some o := by
  unfold pm_ldI at h
  split at h
  · rename_i x hx; exact ⟨x, hx, h⟩
  · cases h
theorem pm_ldA_inv (h : pm_fin E (pm_ldA i ls st hp k) = some o) : ∃ x, pm_ld ls k = some (.ref x) ∧ E (i + 1, ls, .ref x :: st, hp) = some o := by
  unfold pm_ldA at h
  split at h
  · rename_i x hx; exact ⟨x, hx, h⟩
  · cases h
theorem pm_ldL_inv (h : pm_fin E (pm_ldL i ls st hp k) = some o) : ∃ x, pm_ld ls k = some (.long x) ∧ E (i + 1, ls, .long x :: st, hp) = some o := by
  unfold pm_ldL at h
  split at h
  · rename_i x hx; exact ⟨x, hx, h⟩
  · cases h
theorem pm_stI_inv (h : pm_fin E (pm_stI i ls st hp k) = some o) : ∃ x st2, st = .int x :: st2 ∧ E (i + 1, ls.set k (some (.int x)), st2, hp) = some o := by
  unfold pm_stI at h
  split at h
  · rename_i x st2; exact ⟨x, st2, rfl, h⟩
  · cases h
theorem pm_stL_inv (h : pm_fin E (pm_stL i ls st hp k) = some o) : ∃ x st2, st = .long x :: st2 ∧ E (i + 1, (ls.set k (some (.long x))).set (k + 1) none, st2, hp) = some o := by
  unfold pm_stL at h
  split at h
  · rename_i x st2; exact ⟨x, st2, rfl, h⟩
  · cases h
theorem pm_cI_inv {v : Value} (h : pm_fin E (pm_cI i ls st hp v) = some o) : ∃ x, v = .int x ∧ E (i + 1, ls, .int x :: st, hp) = some o := by
  unfold pm_cI at h
  split at h
  · rename_i x; exact ⟨x, rfl, h⟩
  · cases h
theorem pm_cL_inv {v : Value} (h : pm_fin E (pm_cL i ls st hp v) = some o) : ∃ x, v = .long x ∧ E (i + 1, ls, .long x :: st, hp) = some o := by
  unfold pm_cL at h
  split at h
  · rename_i x; exact ⟨x, rfl, h⟩
  · cases h
theorem pm_b2_inv {f : Int32 → Int32 → Int32} (h : pm_fin E (pm_b2 i ls st hp f) = some o) : ∃ x y st2, st = .int y :: .int x :: st2 ∧ E (i + 1, ls, .int (f x y) :: st2, hp) = some o := by
  unfold pm_b2 at h
  split at h
  · rename_i y x st2; exact ⟨x, y, st2, rfl, h⟩
  · cases h
theorem pm_d2_inv {f : Int32 → Int32 → Int32} (h : pm_fin E (pm_d2 i ls st hp f) = some o) : ∃ x y st2, st = .int y :: .int x :: st2 ∧ ¬ y = 0 ∧ E (i + 1, ls, .int (f x y) :: st2, hp) = some o := by
  unfold pm_d2 at h
  split at h
  · rename_i y x st2
    by_cases hy : y = 0
    · rw [if_pos hy] at h; cases h
    · rw [if_neg hy] at h; exact ⟨x, y, st2, rfl, hy, h⟩
  · cases h
theorem pm_l2_inv {f : Int64 → Int64 → Int64} (h : pm_fin E (pm_l2 i ls st hp f) = some o) : ∃ x y st2, st = .long y :: .long x :: st2 ∧ E (i + 1, ls, .long (f x y) :: st2, hp) = some o := by
  unfold pm_l2 at h
  split at h
  · rename_i y x st2; exact ⟨x, y, st2, rfl, h⟩
  · cases h
theorem pm_e2_inv {f : Int64 → Int64 → Int64} (h : pm_fin E (pm_e2 i ls st hp f) = some o) : ∃ x y st2, st = .long y :: .long x :: st2 ∧ ¬ y = 0 ∧ E (i + 1, ls, .long (f x y) :: st2, hp) = some o := by
  unfold pm_e2 at h
  split at h
  · rename_i y x st2
    by_cases hy : y = 0
    · rw [if_pos hy] at h; cases h
    · rw [if_neg hy] at h; exact ⟨x, y, st2, rfl, hy, h⟩
  · cases h
theorem pm_i1_inv {f : Int32 → pm_X → pm_X → pm_X} (h : pm_fin E (pm_i1 i ls st hp a f) = some o) : ∃ x st2, st = .int x :: st2 ∧ pm_fin E (f x (.inl (a, ls, st2, hp)) (.inl (i + 1, ls, st2, hp))) = some o := by
  unfold pm_i1 at h
  split at h
  · rename_i x st2; exact ⟨x, st2, rfl, h⟩
  · cases h
theorem pm_i2_inv {f : Int32 → Int32 → pm_X → pm_X → pm_X} (h : pm_fin E (pm_i2 i ls st hp a f) = some o) : ∃ x y st2, st = .int y :: .int x :: st2 ∧ pm_fin E (f x y (.inl (a, ls, st2, hp)) (.inl (i + 1, ls, st2, hp))) = some o := by
  unfold pm_i2 at h
  split at h
  · rename_i y x st2; exact ⟨x, y, st2, rfl, h⟩
  · cases h
theorem pm_gf_inv {aux : List Nat} (h : pm_fin E (pm_gf i ls st hp a aux) = some o) : ∃ x st2 fs v, st = .ref x :: st2 ∧ hp[x]? = some (.inr (aux.getD 0 0, fs)) ∧ fs[a]? = some v ∧ E (i + 1, ls, v :: st2, hp) = some o := by
  unfold pm_gf at h
  split at h
  · rename_i x st2
    split at h
    · rename_i q hq
      obtain ⟨c0, fs⟩ := q
      by_cases hc : c0 = aux.getD 0 0
      · rw [if_pos hc] at h
        split at h
        · rename_i v hv; exact ⟨x, st2, fs, v, rfl, by rw [hq, hc], hv, h⟩
        · cases h
      · rw [if_neg hc] at h; cases h
    · cases h
  · cases h
theorem pm_pf_inv {v : Value} {aux : List Nat} (h : pm_fin E (pm_pf i ls st hp a v aux) = some o) : ∃ w x st2 fs, st = w :: .ref x :: st2 ∧ ((∃ y z, w = .int y ∧ v = .int z) ∨ (∃ y z, w = .long y ∧ v = .long z)) ∧ hp[x]? = some (.inr (aux.getD 0 0, fs)) ∧ a < fs.length ∧ E (i + 1, ls, st2, hp.set x (.inr (aux.getD 0 0, fs.set a w))) = some o := by
  unfold pm_pf at h
  split at h
  · rename_i y x st2
    split at h
    · rename_i z
      split at h
      · rename_i q hq
        obtain ⟨c0, fs⟩ := q
        by_cases hc : c0 = aux.getD 0 0 ∧ a < fs.length
        · rw [if_pos hc] at h
          have hc1 := hc.1
          subst hc1
          exact ⟨.int y, x, st2, fs, rfl, Or.inl ⟨y, z, rfl, rfl⟩, hq, hc.2, h⟩
        · rw [if_neg hc] at h; cases h
      · cases h
    · cases h
  · rename_i y x st2
    split at h
    · rename_i z
      split at h
      · rename_i q hq
        obtain ⟨c0, fs⟩ := q
        by_cases hc : c0 = aux.getD 0 0 ∧ a < fs.length
        · rw [if_pos hc] at h
          have hc1 := hc.1
          subst hc1
          exact ⟨.long y, x, st2, fs, rfl, Or.inr ⟨y, z, rfl, rfl⟩, hq, hc.2, h⟩
        · rw [if_neg hc] at h; cases h
      · cases h
    · cases h
  · cases h
theorem pm_in_of {j : Int32} {n : Nat} (h : pm_in j n = true) : vp_in j n := of_decide_eq_true (p := ¬ (j < 0 ∨ n ≤ j.toNatClampNeg)) h
theorem pm_al_inv {t : Nat} (h : pm_fin E (pm_al i ls st hp t) = some o) : ∃ j x st2 n f, st = .int j :: .ref x :: st2 ∧ hp[x]? = some (.inl (t, n, .inl f)) ∧ vp_in j n ∧ E (i + 1, ls, .int (f j.toNatClampNeg) :: st2, hp) = some o := by
  unfold pm_al at h
  split at h
  · rename_i j x st2
    split at h
    · rename_i t0 n f hq
      by_cases hc : t0 = t ∧ pm_in j n = true
      · rw [if_pos hc] at h
        have hc1 := hc.1
        subst hc1
        exact ⟨j, x, st2, n, f, rfl, hq, pm_in_of hc.2, h⟩
      · rw [if_neg hc] at h; cases h
    · cases h
  · cases h
theorem pm_as_inv {t : Nat} {g : Int32 → Int32} (h : pm_fin E (pm_as i ls st hp t g) = some o) : ∃ y j x st2 n f, st = .int y :: .int j :: .ref x :: st2 ∧ hp[x]? = some (.inl (t, n, .inl f)) ∧ vp_in j n ∧ E (i + 1, ls, st2, hp.set x (.inl (t, n, .inl (upd f j.toNatClampNeg (g y))))) = some o := by
  unfold pm_as at h
  split at h
  · rename_i y j x st2
    split at h
    · rename_i t0 n f hq
      by_cases hc : t0 = t ∧ pm_in j n = true
      · rw [if_pos hc] at h
        have hc1 := hc.1
        subst hc1
        exact ⟨y, j, x, st2, n, f, rfl, hq, pm_in_of hc.2, h⟩
      · rw [if_neg hc] at h; cases h
    · cases h
  · cases h
theorem pm_len_inv (h : pm_fin E (pm_len i ls st hp) = some o) : ∃ x st2 t n f, st = .ref x :: st2 ∧ hp[x]? = some (.inl (t, n, f)) ∧ t < 2 ∧ E (i + 1, ls, .int (Int32.ofNat n) :: st2, hp) = some o := by
  unfold pm_len at h
  split at h
  · rename_i x st2
    split at h
    · rename_i t0 n f hq
      by_cases hc : t0 < 2
      · rw [if_pos hc] at h; exact ⟨x, st2, t0, n, f, rfl, hq, hc, h⟩
      · rw [if_neg hc] at h; cases h
    · cases h
  · cases h
theorem pm_cp_inv (h : pm_fin E (pm_cp i ls st hp) = some o) : ∃ n dp d sp x st2 n0 f n1 g, st = .int n :: .int dp :: .ref d :: .int sp :: .ref x :: st2 ∧ hp[x]? = some (.inl (0, n0, .inl f)) ∧ hp[d]? = some (.inl (0, n1, .inl g)) ∧ (¬ sp < 0 ∧ ¬ dp < 0 ∧ ¬ n < 0 ∧ sp.toNatClampNeg + n.toNatClampNeg ≤ n0 ∧ dp.toNatClampNeg + n.toNatClampNeg ≤ n1 ∧ st2.length ≤ 4) ∧
    E (i + 1, ls, st2, hp.set d (.inl (0, n1, .inl (va_cpy f g sp.toNatClampNeg dp.toNatClampNeg n.toNatClampNeg)))) = some o := by
  unfold pm_cp at h
  split at h
  · rename_i n dp d sp x st2
    split at h
    · rename_i n0 f hq
      split at h
      · rename_i n1 g hg
        split at h
        · rename_i hc; exact ⟨n, dp, d, sp, x, st2, n0, f, n1, g, rfl, hq, hg, hc, h⟩
        · cases h
      · cases h
    · cases h
  · cases h
theorem pm_bd_inv {w : Option pm_R} {kk : Option Value → pm_HP → pm_X} (h : pm_fin E (pm_bd w kk) = some o) : ∃ r hp2, w = some (r, hp2) ∧ pm_fin E (kk r hp2) = some o := by
  cases w with
  | none => cases h
  | some q => exact ⟨q.1, q.2, rfl, h⟩
theorem pm_iv_inv {call : pm_K} {aux : List Nat} (h : pm_fin E (pm_iv call i ls st hp a aux) = some o) : ∃ x rest fs r hp2, st.drop (aux.getD 0 0) = .ref x :: rest ∧ hp[x]? = some (.inr (aux.getD 1 0, fs)) ∧ rest.length ≤ 4 ∧ call a (.ref x :: (st.take (aux.getD 0 0)).reverse) hp = some (r, hp2) ∧ E (i + 1, ls, r.toList ++ rest, hp2) = some o := by
  unfold pm_iv at h
  split at h
  · rename_i x rest hd
    split at h
    · rename_i q hq
      obtain ⟨c0, fs⟩ := q
      by_cases hc : c0 = aux.getD 1 0 ∧ rest.length ≤ 4
      · rw [if_pos hc] at h
        obtain ⟨r, hp2, h1, h2⟩ := pm_bd_inv h
        exact ⟨x, rest, fs, r, hp2, hd, by rw [hq, hc.1], hc.2, h1, h2⟩
      · rw [if_neg hc] at h; cases h
    · cases h
  · cases h
theorem pm_is_inv {call : pm_K} {aux : List Nat} (h : pm_fin E (pm_is call i ls st hp a aux) = some o) : ∃ r hp2, aux.getD 0 0 ≤ st.length ∧ (st.drop (aux.getD 0 0)).length ≤ 4 ∧ call a ((st.take (aux.getD 0 0)).reverse) hp = some (r, hp2) ∧ E (i + 1, ls, r.toList ++ st.drop (aux.getD 0 0), hp2) = some o := by
  unfold pm_is at h
  split at h
  · rename_i hc
    obtain ⟨r, hp2, h1, h2⟩ := pm_bd_inv h
    exact ⟨r, hp2, hc.1, hc.2, h1, h2⟩
  · cases h
theorem pm_mx_inv {z : Nat} (h : pm_fin E (pm_mx i ls st hp z) = some o) : ∃ x y st2, st = .int y :: .int x :: st2 ∧ st2.length ≤ 4 ∧ ((z = 1 ∧ E (i + 1, ls, .int (if x < y then y else x) :: st2, hp) = some o) ∨ (z = 2 ∧ E (i + 1, ls, .int (if y < x then y else x) :: st2, hp) = some o)) := by
  unfold pm_mx at h
  split at h
  · rename_i y x st2
    by_cases hl : st2.length ≤ 4
    · rw [if_pos hl] at h
      by_cases h1 : z = 1
      · rw [if_pos h1] at h; exact ⟨x, y, st2, rfl, hl, Or.inl ⟨h1, h⟩⟩
      · rw [if_neg h1] at h
        by_cases h2 : z = 2
        · rw [if_pos h2] at h; exact ⟨x, y, st2, rfl, hl, Or.inr ⟨h2, h⟩⟩
        · rw [if_neg h2] at h; cases h
    · rw [if_neg hl] at h; cases h
  · cases h
theorem pm_ab_inv (h : pm_fin E (pm_ab i ls st hp) = some o) : ∃ x st2, st = .int x :: st2 ∧ st2.length ≤ 4 ∧ E (i + 1, ls, .int (if 0 ≤ x then x else 0 - x) :: st2, hp) = some o := by
  unfold pm_ab at h
  split at h
  · rename_i x st2
    by_cases hl : st2.length ≤ 4
    · rw [if_pos hl] at h; exact ⟨x, st2, rfl, hl, h⟩
    · rw [if_neg hl] at h; cases h
  · cases h
end INV
/-- a method's start and end, in the words of the pure machine -/
def pm_Pre (D : va_G) (cl : List vw_C) (nst : List pm_N) (ad : Nat → Nat) (cA : Nat → ClassId) (hp : pm_HP) (sz : Nat) (U : State) : Prop := U.heap.size = sz ∧ va_P D cl (pm_ws ad cA hp) U.heap ∧ va_K D cl (pm_tys cA) U ∧ pm_NW nst U
def pm_Post (D : va_G) (cl : List vw_C) (ad : Nat → Nat) (cA : Nat → ClassId) (r : Option Value) (hp : pm_HP) (A : Nat → Prop) : Array Value → State → Outcome → State → Prop := fun _ st oc t => oc = .returned (r.map (pm_vm ad)) ∧ va_P D cl (pm_ws ad cA hp) t.heap ∧ va_F A st t
def pm_rm (d : Nat) : Room := { frames := d, cells := 0, slots := 0, locals := 64 * d }
theorem pm_NW.warm {nst : List pm_N} {s U : State} (h : pm_NW nst s) (hW : s.WarmedH U.vm) : pm_NW nst U := fun q hq => va_Nw.warmM hW (h q hq)
theorem pm_blind (D : va_G) (cl : List vw_C) (nst : List pm_N) (ad : Nat → Nat) (cA : Nat → ClassId) (hp : pm_HP) (sz : Nat) (av : List Value) : FrameBlind (va_Pc av (pm_Pre D cl nst ad cA hp sz)) := by
  intro a U g mk h
  obtain ⟨h0, h1, h2, h3, h4⟩ := h
  exact ⟨h0, h1, h2, va_K.moved (u := U) (U := U.calling g mk a) (Vm.Alike.refl U.vm) h3, fun q hq => va_Nw.same (u := U) (U := U.calling g mk a) rfl rfl (h4 q hq)⟩
theorem pm_call {p : Program} {l : Launch} {e : Env} {R : Room} {s : State} {m : MethodId} {args : Array Value} {below : List Frame} {meth : Method} {c : Code} {H : Heap} {locs : List Loc} {Q : State → Prop} {D : va_G} {cl : List vw_C} {ad : Nat → Nat} {cA : Nat → ClassId} {r : Option Value} {hp : pm_HP}
    {pc : Nat} {ls : Array Slot} {rest st0 : List Value} {a : Array Value} {A0 A1 : Nat → Prop} {H0 : Heap} {free : Addr → Prop}
    (hr : va_Run p l e R s m args below meth c H locs 0 0 0 0 (F0 m pc ls st0) rest (pm_Post D cl ad cA r hp A1 a) free) (hS : va_S A0 H0 H locs) (hA : ∀ q, A1 q → A0 q) (hf : ∀ q, free q → A0 q)
    (kk : ∀ (H1 : Heap) (locs1 : List Loc), va_P D cl (pm_ws ad cA hp) H1 → va_S A0 H0 H1 locs1 → W p l e R s m args below meth c H1 locs1 0 0 Q (F0 m (pc + 3) ls ((r.map (pm_vm ad)).toList ++ rest))) : W p l e R s m args below meth c H locs 0 0 Q (F0 m pc ls st0) := by
  intro T hT X
  obtain ⟨v, st₀, t, T', L, h0, X', hL, e1, e2, ⟨hv, hP1, hz, hk⟩, st⟩ := hr T hT X
  cases hv
  rw [h0] at hz hk
  obtain ⟨t2, a1, b1⟩ := kk T'.heap (locs ++ L) (by rw [e1]; exact hP1)
    ⟨Nat.le_trans hS.1 (by rw [e1]; exact hz), fun q h1 h2 => by rw [e1, hk q (Nat.lt_of_lt_of_le h1 hS.1) (fun z => h2 (hA q z))]; exact hS.2.1 q h1 h2, fun q hq => by
      rcases List.mem_append.mp hq with h | h
      · exact hS.2.2 q h
      · exact hf _ (hL q h)⟩ T' rfl X'
  exact ⟨t2, st t2 a1, b1⟩
/-- what the whole program's tables say -/
def pm_okP (P : pm_P) : Prop := (∀ w ∈ P.2.2.1, goodWord w = true) ∧ (∀ q ∈ P.2.1, (∀ w ∈ u_ws q.1 q.2.1 q.2.2, w ∈ P.2.2.1) ∧ (∀ k, k < q.2.2 → (parseFieldDescriptor (q.2.1 k).2.2.1).isSome = true) ∧ ∀ a, a < q.2.2 → ∀ b, b < q.2.2 → a ≠ b → (q.2.1 a).2.1 ≠ (q.2.1 b).2.1) ∧ ∀ M ∈ P.1, pm_okM P M = true
theorem pm_okM_to {P : pm_P} {M : pm_M} (h : pm_okM P M = true) : plainName M.1.cls = true ∧ M.1.cls ≠ "java/lang/invoke/MethodHandle" ∧ M.1.cls ≠ "java/lang/invoke/VarHandle" ∧ Cond.code M.1 M.2.1 M.2.2.1 M.2.2.2.1 ∈ P.2.2.1 ∧ Cond.initialized M.1.cls ∈ P.2.2.1 ∧ M.2.2.1 ≤ 40 ∧ pm_pc M.2.2.2.2.2.1 0 = 0 ∧
    ∀ (i : Nat) (op : pm_OP), M.2.2.2.2.2.1[i]? = some op → decode M.2.1 op.1 = .ok (op.2.1, op.2.2.1) ∧ (pm_ln op.2.1 = 0 ∨ op.2.2.1 = pm_ln op.2.1) ∧ (i + 1 < M.2.2.2.2.2.1.length → pm_pc M.2.2.2.2.2.1 (i + 1) = op.1 + op.2.2.1) ∧ pm_chk P M op = true := by
  unfold pm_okM at h
  simp only [Bool.and_eq_true, decide_eq_true_eq, List.all_eq_true, List.mem_range] at h
  obtain ⟨⟨h1, h2, h3, h4, h5, h6, h7⟩, h8⟩ := h
  refine ⟨h1, h2, h3, List.mem_of_getElem? h4, List.mem_of_getElem? h5, h6, h7, fun i op hi => ?_⟩
  have h9 := h8 i (List.getElem?_eq_some_iff.mp hi).1
  unfold pm_okO at h9
  rw [hi] at h9
  simp only [Bool.and_eq_true, decide_eq_true_eq] at h9
  exact h9
end
section
/-! the walk of a method, by its pure run -/
set_option maxHeartbeats 4000000 in
theorem pm_inner {p : Program} {l : Launch} {e : Env} {s : State} {m : MethodId} {args : Array Value} {below : List Frame} {meth : Method} {c : Code} {P : pm_P} {M : pm_M} {d N : Nat} {call : pm_K} {D : va_G} {ad : Nat → Nat} {cA : Nat → ClassId} {r : Option Value} {hp9 : pm_HP}
    (hP0 : pm_okP P) (hM : pm_okM P M = true) (hx : p.tables.exec = Jvm.exec) (hb : c.code = M.2.1) (hml : c.maxLocals = M.2.2.1) (hr : meth.sig.returnType = M.2.2.2.1) (hlocks : meth.locks = false) (hown : s.vm.findClass M.1.cls = some m.cls)
    (hts : ∀ w ∈ P.2.2.1, w.before args s = true) (hK : va_K D P.2.1 (pm_tys cA) s) (hNW : pm_NW P.2.2.2 s) (hinj : ∀ i j, i < N → j < N → ad i = ad j → i = j)
    (hcall : ∀ (k : Nat) (K : pm_M) (as : List Value) (hp1 hp2 : pm_HP) (r1 : Option Value), P.1[k]? = some K → call k as hp1 = some (r1, hp2) → hp1.length = N → hp2.length = N ∧ ∀ sz, Met l K.1 (.code K.1 K.2.1 K.2.2.1 K.2.2.2.1 :: P.2.2.1) (pm_rm d) (va_Pc (as.map (pm_vm ad)) (pm_Pre D P.2.1 P.2.2.2 ad cA hp1 sz)) (pm_Post D P.2.1 ad cA r1 hp2 (pm_A ad N sz)) 0 0 (pm_A ad N sz)) :
    ∀ (n i : Nat) (pl : pm_LS) (st : List Value) (hp : pm_HP) (ls : Array Slot) (H : Heap) (locs : List Loc), pm_ev call M.2.2.2.1 M.2.2.2.2.2.1 n (i, pl, st, hp) = some (r, hp9) → pm_LR ls M.2.2.1 M.2.2.2.2.1 ad pl → hp.length = N → va_P D P.2.1 (pm_ws ad cA hp) H → va_S (pm_A ad N s.heap.size) s.heap H locs →
      W p l e (pm_rm (d + 1)) s m args below meth c H locs 0 0 (MQ below (pm_Post D P.2.1 ad cA r hp9 (pm_A ad N s.heap.size)) args s 0 0 (pm_A ad N s.heap.size)) (F0 m (pm_pc M.2.2.2.2.2.1 i) ls (st.map (pm_vm ad))) := by
  obtain ⟨hok1, hok2, hok3⟩ := hP0
  obtain ⟨-, -, -, hcode, hini, hml40, -, hops⟩ := pm_okM_to hM
  have hws : ∀ {K : pm_M}, pm_okM P K = true → GoodIn P.2.2.1 (.code K.1 K.2.1 K.2.2.1 K.2.2.2.1 :: P.2.2.1) := fun hK1 w hw => by
    rcases List.mem_cons.mp hw with rfl | hw
    · exact ⟨(pm_okM_to hK1).2.2.2.1, good_of_word (hok1 _ (pm_okM_to hK1).2.2.2.1)⟩
    · exact ⟨hw, good_of_word (hok1 _ hw)⟩
  intro n
  induction n with
  | zero => intro i pl st hp ls H locs h; cases h
  | succ n ih =>
    intro i pl st hp ls H locs h hL hN hP hS
    rw [pm_ev_fin] at h
    have hD := pm_D (cA := cA) (hp := hp) s.heap.size hN hinj
    rcases hop : M.2.2.2.2.2.1[i]? with _ | ⟨pc, ins, len, a, v, aux, sw⟩
    · have hs : pm_step call M.2.2.2.1 M.2.2.2.2.2.1 (i, pl, st, hp) = .inr none := pm_step_none hop
      rw [hs] at h
      cases h
    · have hpc : pm_pc M.2.2.2.2.2.1 i = pc := by unfold pm_pc; rw [hop]
      obtain ⟨hdec, hlen, hnx, hck⟩ := hops i _ hop
      rw [hpc]
      have go : ∀ {pl2 : pm_LS} {st2 : List Value} {hp2 : pm_HP} {ls2 : Array Slot} {H2 : Heap} {locs2 : List Loc}, pm_ev call M.2.2.2.1 M.2.2.2.2.2.1 n (i + 1, pl2, st2, hp2) = some (r, hp9) → pm_LR ls2 M.2.2.1 M.2.2.2.2.1 ad pl2 → hp2.length = N → va_P D P.2.1 (pm_ws ad cA hp2) H2 → va_S (pm_A ad N s.heap.size) s.heap H2 locs2 →
          W p l e (pm_rm (d + 1)) s m args below meth c H2 locs2 0 0 (MQ below (pm_Post D P.2.1 ad cA r hp9 (pm_A ad N s.heap.size)) args s 0 0 (pm_A ad N s.heap.size)) (F0 m (pc + len) ls2 (st2.map (pm_vm ad))) := by
        intro pl2 st2 hp2 ls2 H2 locs2 h1 h2 h3 h4 h5
        have hlt : i + 1 < M.2.2.2.2.2.1.length := by
          rcases Nat.lt_or_ge (i + 1) M.2.2.2.2.2.1.length with q | q
          · exact q
          · exfalso
            cases n with
            | zero => cases h1
            | succ n =>
              rw [pm_ev_fin] at h1
              have hs : pm_step call M.2.2.2.1 M.2.2.2.2.2.1 (i + 1, pl2, st2, hp2) = .inr none := pm_step_none (List.getElem?_eq_none q)
              rw [hs] at h1
              cases h1
        have h6 := ih (i + 1) pl2 st2 hp2 ls2 H2 locs2 h1 h2 h3 h4 h5
        rw [hnx hlt] at h6
        exact h6
      have hsl : ls.size = M.2.2.1 := hL.1
      dsimp only at hdec hlen
      cases ins with
      | iload k =>
        have hs : pm_step call M.2.2.2.1 M.2.2.2.2.2.1 (i, pl, st, hp) = pm_ldI i pl st hp k := pm_step_some hop
        rw [hs] at h
        have hln := hlen
        obtain rfl : len = 2 := hln.elim (fun q => absurd (show (2 : Nat) = 0 from q) (by decide)) (fun q => q)
        obtain ⟨x, h1, h2⟩ := pm_ldI_inv h
        exact lv_iload hx hb hdec (hL.ld h1) (go h2 hL hN hP hS)
      | iload_n k =>
        have hs : pm_step call M.2.2.2.1 M.2.2.2.2.2.1 (i, pl, st, hp) = pm_ldI i pl st hp k := pm_step_some hop
        rw [hs] at h
        have hln := hlen
        obtain rfl : len = 1 := hln.elim (fun q => absurd (show (1 : Nat) = 0 from q) (by decide)) (fun q => q)
        obtain ⟨x, h1, h2⟩ := pm_ldI_inv h
        exact lv_iload_n hx hb hdec rfl (hL.ld h1) (go h2 hL hN hP hS)
      | aload k =>
        have hs : pm_step call M.2.2.2.1 M.2.2.2.2.2.1 (i, pl, st, hp) = pm_ldA i pl st hp k := pm_step_some hop
        rw [hs] at h
        have hln := hlen
        obtain rfl : len = 2 := hln.elim (fun q => absurd (show (2 : Nat) = 0 from q) (by decide)) (fun q => q)
        obtain ⟨x, h1, h2⟩ := pm_ldA_inv h
        exact lv_aload hx hb hdec (hL.ld h1) (go h2 hL hN hP hS)
      | aload_n k =>
        have hs : pm_step call M.2.2.2.1 M.2.2.2.2.2.1 (i, pl, st, hp) = pm_ldA i pl st hp k := pm_step_some hop
        rw [hs] at h
        have hln := hlen
        obtain rfl : len = 1 := hln.elim (fun q => absurd (show (1 : Nat) = 0 from q) (by decide)) (fun q => q)
        obtain ⟨x, h1, h2⟩ := pm_ldA_inv h
        exact lv_aload_n hx hb hdec rfl (hL.ld h1) (go h2 hL hN hP hS)
      | lload k =>
        have hs : pm_step call M.2.2.2.1 M.2.2.2.2.2.1 (i, pl, st, hp) = pm_ldL i pl st hp k := pm_step_some hop
        rw [hs] at h
        have hln := hlen
        obtain rfl : len = 2 := hln.elim (fun q => absurd (show (2 : Nat) = 0 from q) (by decide)) (fun q => q)
        obtain ⟨x, h1, h2⟩ := pm_ldL_inv h
        exact lv_lload hx hb hdec (hL.ld h1) (go h2 hL hN hP hS)
      | lload_n k =>
        have hs : pm_step call M.2.2.2.1 M.2.2.2.2.2.1 (i, pl, st, hp) = pm_ldL i pl st hp k := pm_step_some hop
        rw [hs] at h
        have hln := hlen
        obtain rfl : len = 1 := hln.elim (fun q => absurd (show (1 : Nat) = 0 from q) (by decide)) (fun q => q)
        obtain ⟨x, h1, h2⟩ := pm_ldL_inv h
        exact lv_lload_n hx hb hdec rfl (hL.ld h1) (go h2 hL hN hP hS)
      | istore k =>
        have hs : pm_step call M.2.2.2.1 M.2.2.2.2.2.1 (i, pl, st, hp) = pm_stI i pl st hp k := pm_step_some hop
        rw [hs] at h
        have hln := hlen
        obtain rfl : len = 2 := hln.elim (fun q => absurd (show (2 : Nat) = 0 from q) (by decide)) (fun q => q)
        obtain ⟨x, st2, rfl, h2⟩ := pm_stI_inv h
        have hk : pm_oks M.2.2.1 M.2.2.2.2.1 k = true := hck
        have hk1 : (k : Nat) < M.2.2.1 := by have := hk; unfold pm_oks at this; simp only [Bool.and_eq_true, decide_eq_true_eq] at this; exact this.1
        exact lv_istore hx hb hdec hL.has hk1 rfl (fun ls2 hl2 => go h2 (hL.st1 (v := .int x) hk rfl hl2) hN hP hS)
      | istore_n k =>
        have hs : pm_step call M.2.2.2.1 M.2.2.2.2.2.1 (i, pl, st, hp) = pm_stI i pl st hp k := pm_step_some hop
        rw [hs] at h
        have hln := hlen
        obtain rfl : len = 1 := hln.elim (fun q => absurd (show (1 : Nat) = 0 from q) (by decide)) (fun q => q)
        obtain ⟨x, st2, rfl, h2⟩ := pm_stI_inv h
        have hk : pm_oks M.2.2.1 M.2.2.2.2.1 k = true := hck
        have hk1 : (k : Nat) < M.2.2.1 := by have := hk; unfold pm_oks at this; simp only [Bool.and_eq_true, decide_eq_true_eq] at this; exact this.1
        exact lv_istore_n hx hb hdec rfl hL.has hk1 rfl (fun ls2 hl2 => go h2 (hL.st1 (v := .int x) hk rfl hl2) hN hP hS)
      | lstore k =>
        have hs : pm_step call M.2.2.2.1 M.2.2.2.2.2.1 (i, pl, st, hp) = pm_stL i pl st hp k := pm_step_some hop
        rw [hs] at h
        have hln := hlen
        obtain rfl : len = 2 := hln.elim (fun q => absurd (show (2 : Nat) = 0 from q) (by decide)) (fun q => q)
        obtain ⟨x, st2, rfl, h2⟩ := pm_stL_inv h
        have hk : pm_okl M.2.2.1 M.2.2.2.2.1 k = true := hck
        have hk1 : (k : Nat) + 1 < M.2.2.1 := by have := hk; unfold pm_okl at this; simp only [Bool.and_eq_true, decide_eq_true_eq] at this; exact this.1
        exact lv_lstore hx hb hdec hL.has hk1 rfl (fun ls2 hl2 => go h2 (hL.st2 (v := .long x) hk hl2) hN hP hS)
      | lstore_n k =>
        have hs : pm_step call M.2.2.2.1 M.2.2.2.2.2.1 (i, pl, st, hp) = pm_stL i pl st hp k := pm_step_some hop
        rw [hs] at h
        have hln := hlen
        obtain rfl : len = 1 := hln.elim (fun q => absurd (show (1 : Nat) = 0 from q) (by decide)) (fun q => q)
        obtain ⟨x, st2, rfl, h2⟩ := pm_stL_inv h
        have hk : pm_okl M.2.2.1 M.2.2.2.2.1 k = true := hck
        have hk1 : (k : Nat) + 1 < M.2.2.1 := by have := hk; unfold pm_okl at this; simp only [Bool.and_eq_true, decide_eq_true_eq] at this; exact this.1
        exact lv_lstore_n hx hb hdec rfl hL.has hk1 rfl (fun ls2 hl2 => go h2 (hL.st2 (v := .long x) hk hl2) hN hP hS)
      | iconst k =>
        have hs : pm_step call M.2.2.2.1 M.2.2.2.2.2.1 (i, pl, st, hp) = pm_cI i pl st hp v := pm_step_some hop
        rw [hs] at h
        have hln := hlen
        obtain rfl : len = 1 := hln.elim (fun q => absurd (show (1 : Nat) = 0 from q) (by decide)) (fun q => q)
        obtain ⟨x, rfl, h2⟩ := pm_cI_inv h
        have hk : Value.int x = .int (Int32.ofInt k) := of_decide_eq_true (show decide (Value.int x = .int (Int32.ofInt k)) = true from hck)
        exact lv_iconst hx hb hdec (Value.int.inj hk).symm (go h2 hL hN hP hS)
      | bipush k =>
        have hs : pm_step call M.2.2.2.1 M.2.2.2.2.2.1 (i, pl, st, hp) = pm_cI i pl st hp v := pm_step_some hop
        rw [hs] at h
        have hln := hlen
        obtain rfl : len = 2 := hln.elim (fun q => absurd (show (2 : Nat) = 0 from q) (by decide)) (fun q => q)
        obtain ⟨x, rfl, h2⟩ := pm_cI_inv h
        have hk : Value.int x = .int ((Int8.ofInt k).toInt32) := of_decide_eq_true (show decide (Value.int x = .int ((Int8.ofInt k).toInt32)) = true from hck)
        exact lv_bipush hx hb hdec (Value.int.inj hk).symm (go h2 hL hN hP hS)
      | sipush k =>
        have hs : pm_step call M.2.2.2.1 M.2.2.2.2.2.1 (i, pl, st, hp) = pm_cI i pl st hp v := pm_step_some hop
        rw [hs] at h
        have hln := hlen
        obtain rfl : len = 3 := hln.elim (fun q => absurd (show (3 : Nat) = 0 from q) (by decide)) (fun q => q)
        obtain ⟨x, rfl, h2⟩ := pm_cI_inv h
        have hk : Value.int x = .int ((Int16.ofInt k).toInt32) := of_decide_eq_true (show decide (Value.int x = .int ((Int16.ofInt k).toInt32)) = true from hck)
        exact lv_sipush hx hb hdec (Value.int.inj hk).symm (go h2 hL hN hP hS)
      | lconst k =>
        have hs : pm_step call M.2.2.2.1 M.2.2.2.2.2.1 (i, pl, st, hp) = pm_cL i pl st hp v := pm_step_some hop
        rw [hs] at h
        have hln := hlen
        obtain rfl : len = 1 := hln.elim (fun q => absurd (show (1 : Nat) = 0 from q) (by decide)) (fun q => q)
        obtain ⟨x, rfl, h2⟩ := pm_cL_inv h
        have hk : Value.long x = .long (Int64.ofNat (k : Nat)) := of_decide_eq_true (show decide (Value.long x = .long (Int64.ofNat (k : Nat))) = true from hck)
        exact lv_lconst hx hb hdec (Value.long.inj hk).symm (go h2 hL hN hP hS)
      | ldc_w k =>
        have hs : pm_step call M.2.2.2.1 M.2.2.2.2.2.1 (i, pl, st, hp) = pm_cI i pl st hp v := pm_step_some hop
        rw [hs] at h
        have hln := hlen
        obtain rfl : len = 3 := hln.elim (fun q => absurd (show (3 : Nat) = 0 from q) (by decide)) (fun q => q)
        obtain ⟨x, rfl, h2⟩ := pm_cI_inv h
        have hk : P.2.2.1[aux.getD 0 0]? = some (.constant M.1.cls k x) := of_decide_eq_true (show decide (P.2.2.1[aux.getD 0 0]? = some (.constant M.1.cls k x)) = true from hck)
        exact lv_ldcw hx hb hown (hts _ (List.mem_of_getElem? hk)) hdec (go h2 hL hN hP hS)
      | ldc2_w k =>
        have hs : pm_step call M.2.2.2.1 M.2.2.2.2.2.1 (i, pl, st, hp) = pm_cL i pl st hp v := pm_step_some hop
        rw [hs] at h
        have hln := hlen
        obtain rfl : len = 3 := hln.elim (fun q => absurd (show (3 : Nat) = 0 from q) (by decide)) (fun q => q)
        obtain ⟨x, rfl, h2⟩ := pm_cL_inv h
        have hk : P.2.2.1[aux.getD 0 0]? = some (.constantLong M.1.cls k x) := of_decide_eq_true (show decide (P.2.2.1[aux.getD 0 0]? = some (.constantLong M.1.cls k x)) = true from hck)
        exact lv_ldc2 hx hb hown (hts _ (List.mem_of_getElem? hk)) hdec (go h2 hL hN hP hS)
      | iadd =>
        have hs : pm_step call M.2.2.2.1 M.2.2.2.2.2.1 (i, pl, st, hp) = pm_b2 i pl st hp (fun x y => x + y) := pm_step_some hop
        rw [hs] at h
        have hln := hlen
        obtain rfl : len = 1 := hln.elim (fun q => absurd (show (1 : Nat) = 0 from q) (by decide)) (fun q => q)
        obtain ⟨x, y, st2, rfl, h2⟩ := pm_b2_inv h
        exact lv_iadd hx hb hdec (go h2 hL hN hP hS)
      | isub =>
        have hs : pm_step call M.2.2.2.1 M.2.2.2.2.2.1 (i, pl, st, hp) = pm_b2 i pl st hp (fun x y => x - y) := pm_step_some hop
        rw [hs] at h
        have hln := hlen
        obtain rfl : len = 1 := hln.elim (fun q => absurd (show (1 : Nat) = 0 from q) (by decide)) (fun q => q)
        obtain ⟨x, y, st2, rfl, h2⟩ := pm_b2_inv h
        exact lv_isub hx hb hdec (go h2 hL hN hP hS)
      | imul =>
        have hs : pm_step call M.2.2.2.1 M.2.2.2.2.2.1 (i, pl, st, hp) = pm_b2 i pl st hp (fun x y => x * y) := pm_step_some hop
        rw [hs] at h
        have hln := hlen
        obtain rfl : len = 1 := hln.elim (fun q => absurd (show (1 : Nat) = 0 from q) (by decide)) (fun q => q)
        obtain ⟨x, y, st2, rfl, h2⟩ := pm_b2_inv h
        exact lv_imul hx hb hdec (go h2 hL hN hP hS)
      | iand =>
        have hs : pm_step call M.2.2.2.1 M.2.2.2.2.2.1 (i, pl, st, hp) = pm_b2 i pl st hp (fun x y => x &&& y) := pm_step_some hop
        rw [hs] at h
        have hln := hlen
        obtain rfl : len = 1 := hln.elim (fun q => absurd (show (1 : Nat) = 0 from q) (by decide)) (fun q => q)
        obtain ⟨x, y, st2, rfl, h2⟩ := pm_b2_inv h
        exact lv_iand hx hb hdec (go h2 hL hN hP hS)
      | ior =>
        have hs : pm_step call M.2.2.2.1 M.2.2.2.2.2.1 (i, pl, st, hp) = pm_b2 i pl st hp (fun x y => x ||| y) := pm_step_some hop
        rw [hs] at h
        have hln := hlen
        obtain rfl : len = 1 := hln.elim (fun q => absurd (show (1 : Nat) = 0 from q) (by decide)) (fun q => q)
        obtain ⟨x, y, st2, rfl, h2⟩ := pm_b2_inv h
        exact lv_ior hx hb hdec (go h2 hL hN hP hS)
      | ishl =>
        have hs : pm_step call M.2.2.2.1 M.2.2.2.2.2.1 (i, pl, st, hp) = pm_b2 i pl st hp (fun x y => x <<< (y &&& 31)) := pm_step_some hop
        rw [hs] at h
        have hln := hlen
        obtain rfl : len = 1 := hln.elim (fun q => absurd (show (1 : Nat) = 0 from q) (by decide)) (fun q => q)
        obtain ⟨x, y, st2, rfl, h2⟩ := pm_b2_inv h
        exact lv_ishl hx hb hdec (go h2 hL hN hP hS)
      | ishr =>
        have hs : pm_step call M.2.2.2.1 M.2.2.2.2.2.1 (i, pl, st, hp) = pm_b2 i pl st hp (fun x y => x >>> (y &&& 31)) := pm_step_some hop
        rw [hs] at h
        have hln := hlen
        obtain rfl : len = 1 := hln.elim (fun q => absurd (show (1 : Nat) = 0 from q) (by decide)) (fun q => q)
        obtain ⟨x, y, st2, rfl, h2⟩ := pm_b2_inv h
        exact lv_ishr hx hb hdec (go h2 hL hN hP hS)
      | iushr =>
        have hs : pm_step call M.2.2.2.1 M.2.2.2.2.2.1 (i, pl, st, hp) = pm_b2 i pl st hp (fun x y => (x.toUInt32 >>> (y.toUInt32 &&& Int32.toUInt32 31)).toInt32) := pm_step_some hop
        rw [hs] at h
        have hln := hlen
        obtain rfl : len = 1 := hln.elim (fun q => absurd (show (1 : Nat) = 0 from q) (by decide)) (fun q => q)
        obtain ⟨x, y, st2, rfl, h2⟩ := pm_b2_inv h
        exact lv_iushr hx hb hdec rfl (go h2 hL hN hP hS)
      | idiv =>
        have hs : pm_step call M.2.2.2.1 M.2.2.2.2.2.1 (i, pl, st, hp) = pm_d2 i pl st hp (fun x y => x / y) := pm_step_some hop
        rw [hs] at h
        have hln := hlen
        obtain rfl : len = 1 := hln.elim (fun q => absurd (show (1 : Nat) = 0 from q) (by decide)) (fun q => q)
        obtain ⟨x, y, st2, rfl, hy, h2⟩ := pm_d2_inv h
        exact lv_idiv hx hb hdec hy (go h2 hL hN hP hS)
      | irem =>
        have hs : pm_step call M.2.2.2.1 M.2.2.2.2.2.1 (i, pl, st, hp) = pm_d2 i pl st hp (fun x y => x - x / y * y) := pm_step_some hop
        rw [hs] at h
        have hln := hlen
        obtain rfl : len = 1 := hln.elim (fun q => absurd (show (1 : Nat) = 0 from q) (by decide)) (fun q => q)
        obtain ⟨x, y, st2, rfl, hy, h2⟩ := pm_d2_inv h
        exact lv_irem hx hb hdec hy (go h2 hL hN hP hS)
      | ladd =>
        have hs : pm_step call M.2.2.2.1 M.2.2.2.2.2.1 (i, pl, st, hp) = pm_l2 i pl st hp (fun x y => x + y) := pm_step_some hop
        rw [hs] at h
        have hln := hlen
        obtain rfl : len = 1 := hln.elim (fun q => absurd (show (1 : Nat) = 0 from q) (by decide)) (fun q => q)
        obtain ⟨x, y, st2, rfl, h2⟩ := pm_l2_inv h
        exact lv_ladd hx hb hdec (go h2 hL hN hP hS)
      | lsub =>
        have hs : pm_step call M.2.2.2.1 M.2.2.2.2.2.1 (i, pl, st, hp) = pm_l2 i pl st hp (fun x y => x - y) := pm_step_some hop
        rw [hs] at h
        have hln := hlen
        obtain rfl : len = 1 := hln.elim (fun q => absurd (show (1 : Nat) = 0 from q) (by decide)) (fun q => q)
        obtain ⟨x, y, st2, rfl, h2⟩ := pm_l2_inv h
        exact lv_lsub hx hb hdec (go h2 hL hN hP hS)
      | lmul =>
        have hs : pm_step call M.2.2.2.1 M.2.2.2.2.2.1 (i, pl, st, hp) = pm_l2 i pl st hp (fun x y => x * y) := pm_step_some hop
        rw [hs] at h
        have hln := hlen
        obtain rfl : len = 1 := hln.elim (fun q => absurd (show (1 : Nat) = 0 from q) (by decide)) (fun q => q)
        obtain ⟨x, y, st2, rfl, h2⟩ := pm_l2_inv h
        exact lv_lmul hx hb hdec (go h2 hL hN hP hS)
      | ldiv =>
        have hs : pm_step call M.2.2.2.1 M.2.2.2.2.2.1 (i, pl, st, hp) = pm_e2 i pl st hp (fun x y => x / y) := pm_step_some hop
        rw [hs] at h
        have hln := hlen
        obtain rfl : len = 1 := hln.elim (fun q => absurd (show (1 : Nat) = 0 from q) (by decide)) (fun q => q)
        obtain ⟨x, y, st2, rfl, hy, h2⟩ := pm_e2_inv h
        exact lv_ldiv hx hb hdec hy (go h2 hL hN hP hS)
      | lrem =>
        have hs : pm_step call M.2.2.2.1 M.2.2.2.2.2.1 (i, pl, st, hp) = pm_e2 i pl st hp (fun x y => x - x / y * y) := pm_step_some hop
        rw [hs] at h
        have hln := hlen
        obtain rfl : len = 1 := hln.elim (fun q => absurd (show (1 : Nat) = 0 from q) (by decide)) (fun q => q)
        obtain ⟨x, y, st2, rfl, hy, h2⟩ := pm_e2_inv h
        exact lv_lrem hx hb hdec hy (go h2 hL hN hP hS)
      | ineg =>
        have hs : pm_step call M.2.2.2.1 M.2.2.2.2.2.1 (i, pl, st, hp) = pm_ng i pl st hp := pm_step_some hop
        rw [hs] at h
        have hln := hlen
        obtain rfl : len = 1 := hln.elim (fun q => absurd (show (1 : Nat) = 0 from q) (by decide)) (fun q => q)
        unfold pm_ng at h
        split at h
        · rename_i x st2
          exact lv_ineg hx hb hdec (go (st2 := .int (-x) :: st2) h hL hN hP hS)
        · cases h
      | lushr =>
        have hs : pm_step call M.2.2.2.1 M.2.2.2.2.2.1 (i, pl, st, hp) = pm_lu i pl st hp := pm_step_some hop
        rw [hs] at h
        have hln := hlen
        obtain rfl : len = 1 := hln.elim (fun q => absurd (show (1 : Nat) = 0 from q) (by decide)) (fun q => q)
        unfold pm_lu at h
        split at h
        · rename_i y x st2
          exact lv_lushr hx hb hdec rfl (go (st2 := .long (x.toUInt64 >>> (y.toInt64.toUInt64 &&& Int64.toUInt64 63)).toInt64 :: st2) h hL hN hP hS)
        · cases h
      | i2l =>
        have hs : pm_step call M.2.2.2.1 M.2.2.2.2.2.1 (i, pl, st, hp) = pm_il i pl st hp := pm_step_some hop
        rw [hs] at h
        have hln := hlen
        obtain rfl : len = 1 := hln.elim (fun q => absurd (show (1 : Nat) = 0 from q) (by decide)) (fun q => q)
        unfold pm_il at h
        split at h
        · rename_i x st2
          exact lv_i2l hx hb hdec rfl (go (st2 := .long x.toInt64 :: st2) h hL hN hP hS)
        · cases h
      | l2i =>
        have hs : pm_step call M.2.2.2.1 M.2.2.2.2.2.1 (i, pl, st, hp) = pm_li i pl st hp := pm_step_some hop
        rw [hs] at h
        have hln := hlen
        obtain rfl : len = 1 := hln.elim (fun q => absurd (show (1 : Nat) = 0 from q) (by decide)) (fun q => q)
        unfold pm_li at h
        split at h
        · rename_i x st2
          exact lv_l2i hx hb hdec rfl (go (st2 := .int x.toInt32 :: st2) h hL hN hP hS)
        · cases h
      | lcmp =>
        have hs : pm_step call M.2.2.2.1 M.2.2.2.2.2.1 (i, pl, st, hp) = pm_lc i pl st hp := pm_step_some hop
        rw [hs] at h
        have hln := hlen
        obtain rfl : len = 1 := hln.elim (fun q => absurd (show (1 : Nat) = 0 from q) (by decide)) (fun q => q)
        unfold pm_lc at h
        split at h
        · rename_i y x st2
          exact W.lcmp hx hb hdec (go (st2 := .int (lg_cmp x y) :: st2) h hL hN hP hS)
        · cases h
      | goto off =>
        have hs : pm_step call M.2.2.2.1 M.2.2.2.2.2.1 (i, pl, st, hp) = .inl (a, pl, st, hp) := pm_step_some hop
        rw [hs] at h
        have hln := hlen
        obtain rfl : len = 3 := hln.elim (fun q => absurd (show (3 : Nat) = 0 from q) (by decide)) (fun q => q)
        have hk : (pc : Int) + off = (pm_pc M.2.2.2.2.2.1 a : Int) := of_decide_eq_true (show decide ((pc : Int) + off = (pm_pc M.2.2.2.2.2.1 a : Int)) = true from hck)
        exact lv_goto hx hb hdec hk (ih a pl st hp ls H locs h hL hN hP hS)
      | ifCond cd off =>
        have hk : (pc : Int) + off = (pm_pc M.2.2.2.2.2.1 a : Int) := of_decide_eq_true (show decide ((pc : Int) + off = (pm_pc M.2.2.2.2.2.1 a : Int)) = true from hck)
        have hln := hlen
        obtain rfl : len = 3 := hln.elim (fun q => absurd (show (3 : Nat) = 0 from q) (by decide)) (fun q => q)
        cases cd with
        | eq =>
          have hs : pm_step call M.2.2.2.1 M.2.2.2.2.2.1 (i, pl, st, hp) = pm_i1 i pl st hp a (fun x t f => if x = 0 then t else f) := pm_step_some hop
          rw [hs] at h
          obtain ⟨x, st2, rfl, h2⟩ := pm_i1_inv h
          try dsimp only at h2
          exact lv_if_eq hx hb hdec hk (fun q => ih a pl st2 hp ls H locs (by rw [if_pos q] at h2; exact h2) hL hN hP hS) (fun q => go (by rw [if_neg q] at h2; exact h2) hL hN hP hS)
        | ne =>
          have hs : pm_step call M.2.2.2.1 M.2.2.2.2.2.1 (i, pl, st, hp) = pm_i1 i pl st hp a (fun x t f => if x = 0 then f else t) := pm_step_some hop
          rw [hs] at h
          obtain ⟨x, st2, rfl, h2⟩ := pm_i1_inv h
          try dsimp only at h2
          exact lv_if_ne hx hb hdec hk (fun q => ih a pl st2 hp ls H locs (by rw [if_neg q] at h2; exact h2) hL hN hP hS) (fun q => go (by rw [if_pos q] at h2; exact h2) hL hN hP hS)
        | lt =>
          have hs : pm_step call M.2.2.2.1 M.2.2.2.2.2.1 (i, pl, st, hp) = pm_i1 i pl st hp a (fun x t f => if x < 0 then t else f) := pm_step_some hop
          rw [hs] at h
          obtain ⟨x, st2, rfl, h2⟩ := pm_i1_inv h
          try dsimp only at h2
          exact lv_if_lt hx hb hdec hk (fun q => ih a pl st2 hp ls H locs (by rw [if_pos q] at h2; exact h2) hL hN hP hS) (fun q => go (by rw [if_neg q] at h2; exact h2) hL hN hP hS)
        | ge =>
          have hs : pm_step call M.2.2.2.1 M.2.2.2.2.2.1 (i, pl, st, hp) = pm_i1 i pl st hp a (fun x t f => if x < 0 then f else t) := pm_step_some hop
          rw [hs] at h
          obtain ⟨x, st2, rfl, h2⟩ := pm_i1_inv h
          try dsimp only at h2
          exact lv_if_ge hx hb hdec hk (fun q => ih a pl st2 hp ls H locs (by rw [if_neg (Int32.not_lt.mpr q)] at h2; exact h2) hL hN hP hS) (fun q => go (by rw [if_pos (Int32.not_le.mp q)] at h2; exact h2) hL hN hP hS)
        | gt =>
          have hs : pm_step call M.2.2.2.1 M.2.2.2.2.2.1 (i, pl, st, hp) = pm_i1 i pl st hp a (fun x t f => if 0 < x then t else f) := pm_step_some hop
          rw [hs] at h
          obtain ⟨x, st2, rfl, h2⟩ := pm_i1_inv h
          try dsimp only at h2
          exact lv_if_gt hx hb hdec hk (fun q => ih a pl st2 hp ls H locs (by rw [if_pos q] at h2; exact h2) hL hN hP hS) (fun q => go (by rw [if_neg q] at h2; exact h2) hL hN hP hS)
        | le =>
          have hs : pm_step call M.2.2.2.1 M.2.2.2.2.2.1 (i, pl, st, hp) = pm_i1 i pl st hp a (fun x t f => if 0 < x then f else t) := pm_step_some hop
          rw [hs] at h
          obtain ⟨x, st2, rfl, h2⟩ := pm_i1_inv h
          try dsimp only at h2
          exact lv_if_le hx hb hdec hk (fun q => ih a pl st2 hp ls H locs (by rw [if_neg (Int32.not_lt.mpr q)] at h2; exact h2) hL hN hP hS) (fun q => go (by rw [if_pos (Int32.not_le.mp q)] at h2; exact h2) hL hN hP hS)
      | if_icmp cd off =>
        have hk : (pc : Int) + off = (pm_pc M.2.2.2.2.2.1 a : Int) := of_decide_eq_true (show decide ((pc : Int) + off = (pm_pc M.2.2.2.2.2.1 a : Int)) = true from hck)
        have hln := hlen
        obtain rfl : len = 3 := hln.elim (fun q => absurd (show (3 : Nat) = 0 from q) (by decide)) (fun q => q)
        cases cd with
        | eq =>
          have hs : pm_step call M.2.2.2.1 M.2.2.2.2.2.1 (i, pl, st, hp) = pm_i2 i pl st hp a (fun x y t f => if x = y then t else f) := pm_step_some hop
          rw [hs] at h
          obtain ⟨x, y, st2, rfl, h2⟩ := pm_i2_inv h
          try dsimp only at h2
          exact lv_icmp_eq hx hb hdec hk (fun q => ih a pl st2 hp ls H locs (by rw [if_pos q] at h2; exact h2) hL hN hP hS) (fun q => go (by rw [if_neg q] at h2; exact h2) hL hN hP hS)
        | ne =>
          have hs : pm_step call M.2.2.2.1 M.2.2.2.2.2.1 (i, pl, st, hp) = pm_i2 i pl st hp a (fun x y t f => if x = y then f else t) := pm_step_some hop
          rw [hs] at h
          obtain ⟨x, y, st2, rfl, h2⟩ := pm_i2_inv h
          try dsimp only at h2
          exact lv_icmp_ne hx hb hdec hk (fun q => ih a pl st2 hp ls H locs (by rw [if_neg q] at h2; exact h2) hL hN hP hS) (fun q => go (by rw [if_pos q] at h2; exact h2) hL hN hP hS)
        | lt =>
          have hs : pm_step call M.2.2.2.1 M.2.2.2.2.2.1 (i, pl, st, hp) = pm_i2 i pl st hp a (fun x y t f => if x < y then t else f) := pm_step_some hop
          rw [hs] at h
          obtain ⟨x, y, st2, rfl, h2⟩ := pm_i2_inv h
          try dsimp only at h2
          exact lv_icmp_lt hx hb hdec hk (fun q => ih a pl st2 hp ls H locs (by rw [if_pos q] at h2; exact h2) hL hN hP hS) (fun q => go (by rw [if_neg q] at h2; exact h2) hL hN hP hS)
        | ge =>
          have hs : pm_step call M.2.2.2.1 M.2.2.2.2.2.1 (i, pl, st, hp) = pm_i2 i pl st hp a (fun x y t f => if x < y then f else t) := pm_step_some hop
          rw [hs] at h
          obtain ⟨x, y, st2, rfl, h2⟩ := pm_i2_inv h
          try dsimp only at h2
          exact lv_icmp_ge hx hb hdec hk (fun q => ih a pl st2 hp ls H locs (by rw [if_neg (Int32.not_lt.mpr q)] at h2; exact h2) hL hN hP hS) (fun q => go (by rw [if_pos (Int32.not_le.mp q)] at h2; exact h2) hL hN hP hS)
        | gt =>
          have hs : pm_step call M.2.2.2.1 M.2.2.2.2.2.1 (i, pl, st, hp) = pm_i2 i pl st hp a (fun x y t f => if y < x then t else f) := pm_step_some hop
          rw [hs] at h
          obtain ⟨x, y, st2, rfl, h2⟩ := pm_i2_inv h
          try dsimp only at h2
          exact lv_icmp_gt hx hb hdec hk (fun q => ih a pl st2 hp ls H locs (by rw [if_pos q] at h2; exact h2) hL hN hP hS) (fun q => go (by rw [if_neg q] at h2; exact h2) hL hN hP hS)
        | le =>
          have hs : pm_step call M.2.2.2.1 M.2.2.2.2.2.1 (i, pl, st, hp) = pm_i2 i pl st hp a (fun x y t f => if y < x then f else t) := pm_step_some hop
          rw [hs] at h
          obtain ⟨x, y, st2, rfl, h2⟩ := pm_i2_inv h
          try dsimp only at h2
          exact lv_icmp_le hx hb hdec hk (fun q => ih a pl st2 hp ls H locs (by rw [if_neg (Int32.not_lt.mpr q)] at h2; exact h2) hL hN hP hS) (fun q => go (by rw [if_pos (Int32.not_le.mp q)] at h2; exact h2) hL hN hP hS)
      | iinc k z =>
        have hs : pm_step call M.2.2.2.1 M.2.2.2.2.2.1 (i, pl, st, hp) = pm_ii i pl st hp k v := pm_step_some hop
        rw [hs] at h
        unfold pm_ii at h
        have hln := hlen
        obtain rfl : len = 3 := hln.elim (fun q => absurd (show (3 : Nat) = 0 from q) (by decide)) (fun q => q)
        have hk0 : (pm_oks M.2.2.1 M.2.2.2.2.1 k && decide (v = .int (Int32.ofInt z))) = true := hck
        simp only [Bool.and_eq_true, decide_eq_true_eq] at hk0
        obtain ⟨hk, rfl⟩ := hk0
        have hk1 : k < M.2.2.1 := by have := hk; unfold pm_oks at this; simp only [Bool.and_eq_true, decide_eq_true_eq] at this; exact this.1
        split at h
        · rename_i x hx1
          have hx2 : pl[k]? = some (some (.int x)) := by
            unfold pm_ld at hx1
            split at hx1
            · rename_i u hu; cases hx1; exact hu
            · cases hx1
          obtain ⟨j, hj⟩ := List.getElem?_of_mem (pm_lv_mem (ad := ad) hx2)
          exact lv_iinc hx hb hdec hL.has hj rfl hk1 rfl (fun ls2 hl2 => go (pl2 := pl.set k (some (.int (x + Int32.ofInt z)))) (st2 := st) h (hL.st1 (v := .int (x + Int32.ofInt z)) hk rfl hl2) hN hP hS)
        · cases h
      | tableswitch df lo hi offs =>
        have hs : pm_step call M.2.2.2.1 M.2.2.2.2.2.1 (i, pl, st, hp) = pm_ts pl st hp a sw := pm_step_some hop
        rw [hs] at h
        unfold pm_ts at h
        have hk0 : (decide ((pc : Int) + df = (pm_pc M.2.2.2.2.2.1 a : Int)) && (decide (hi + 1 = lo + offs.toList.length) && pm_swT M.2.2.2.2.2.1 pc lo sw offs.toList)) = true := hck
        simp only [Bool.and_eq_true, decide_eq_true_eq] at hk0
        split at h
        · rename_i x st2
          rcases pm_swT_to (k := fun t => .inl (t, pl, st2, hp)) (x := x) (d := a) sw offs.toList lo hk0.2.2 with ⟨t, off, h1, h2, h3, h4, h5⟩ | ⟨h1, h2⟩
          · rw [h1] at h
            exact lv_tableIn hx hb hdec h2 (by omega) (by rw [← Array.getElem?_toList]; exact h4) h5 (ih t pl st2 hp ls H locs h hL hN hP hS)
          · rw [h1] at h
            exact lv_tableOut hx hb hdec (by omega) hk0.1 (ih a pl st2 hp ls H locs h hL hN hP hS)
        · cases h
      | lookupswitch df ps =>
        have hs : pm_step call M.2.2.2.1 M.2.2.2.2.2.1 (i, pl, st, hp) = pm_ts pl st hp a sw := pm_step_some hop
        rw [hs] at h
        unfold pm_ts at h
        have hk0 : (decide ((pc : Int) + df = (pm_pc M.2.2.2.2.2.1 a : Int)) && ((ps.toList.zip (ps.toList.drop 1)).all (fun (a, next) => a.1 < next.1) && pm_swL M.2.2.2.2.2.1 pc sw ps.toList)) = true := hck
        rw [Bool.and_eq_true, Bool.and_eq_true, decide_eq_true_eq] at hk0
        split at h
        · rename_i x st2
          obtain ⟨t, h1, h2⟩ := pm_swL_to hk0.1 (k := fun t => .inl (t, pl, st2, hp)) (x := x) sw ps.toList hk0.2.2
          rw [h1] at h
          exact lv_lookup hx hb hdec hk0.2.1 rfl h2 (ih t pl st2 hp ls H locs h hL hN hP hS)
        · cases h
      | dup =>
        have hs : pm_step call M.2.2.2.1 M.2.2.2.2.2.1 (i, pl, st, hp) = pm_du i pl st hp := pm_step_some hop
        rw [hs] at h
        have hln := hlen
        obtain rfl : len = 1 := hln.elim (fun q => absurd (show (1 : Nat) = 0 from q) (by decide)) (fun q => q)
        unfold pm_du at h
        split at h
        · rename_i x st2
          exact lv_dup (va := .int x) hx hb hdec rfl (go (st2 := .int x :: .int x :: st2) h hL hN hP hS)
        · rename_i x st2
          exact lv_dup (va := .ref (ad x)) hx hb hdec rfl (go (st2 := .ref x :: .ref x :: st2) h hL hN hP hS)
        · cases h
      | dup2 =>
        have hs : pm_step call M.2.2.2.1 M.2.2.2.2.2.1 (i, pl, st, hp) = pm_dd i pl st hp := pm_step_some hop
        rw [hs] at h
        have hln := hlen
        obtain rfl : len = 1 := hln.elim (fun q => absurd (show (1 : Nat) = 0 from q) (by decide)) (fun q => q)
        unfold pm_dd at h
        split at h
        · rename_i x y st2
          exact lv_dup2_11 (va := .int x) (vb := .ref (ad y)) hx hb hdec rfl rfl (go (st2 := .int x :: .ref y :: .int x :: .ref y :: st2) h hL hN hP hS)
        · rename_i x st2
          exact lv_dup2_2 (va := .long x) hx hb hdec rfl (go (st2 := .long x :: .long x :: st2) h hL hN hP hS)
        · cases h
      | pop =>
        have hs : pm_step call M.2.2.2.1 M.2.2.2.2.2.1 (i, pl, st, hp) = pm_po i pl st hp := pm_step_some hop
        rw [hs] at h
        have hln := hlen
        obtain rfl : len = 1 := hln.elim (fun q => absurd (show (1 : Nat) = 0 from q) (by decide)) (fun q => q)
        unfold pm_po at h
        split at h
        · rename_i x st2
          exact lv_pop (va := .int x) hx hb hdec rfl (go (st2 := st2) h hL hN hP hS)
        · cases h
      | getfield k =>
        have hs : pm_step call M.2.2.2.1 M.2.2.2.2.2.1 (i, pl, st, hp) = pm_gf i pl st hp a aux := pm_step_some hop
        rw [hs] at h
        have hln := hlen
        obtain rfl : len = 3 := hln.elim (fun q => absurd (show (3 : Nat) = 0 from q) (by decide)) (fun q => q)
        obtain ⟨x, st2, fs, u, rfl, h1, h2, h3⟩ := pm_gf_inv h
        cases hq : P.2.1[aux.getD 0 0]? with
        | none => unfold pm_chk at hck; dsimp only at hck; rw [hq] at hck; cases hck
        | some q =>
          have hk : (decide (a < q.2.2) && decide (P.2.2.1[aux.getD 1 0]? = some (.fieldLink M.1.cls k (q.2.1 a).1 (q.2.1 a).2.1 (q.2.1 a).2.2.1))) = true := by unfold pm_chk at hck; dsimp only at hck; rw [hq] at hck; exact hck
          simp only [Bool.and_eq_true, decide_eq_true_eq] at hk
          obtain ⟨q1, q2, q3⟩ := q
          exact va_get (D := D) (ci := aux.getD 0 0) (v := pm_vm ad u) (C := q1) (T := q2) (N := q3) hx hb hts ((hok2 _ (List.mem_of_getElem? hq)).1) hown hK hP x (pm_ws_at h1) hq a hk.1 (hts _ (List.mem_of_getElem? hk.2)) (fun _ h9 => h9) (by rw [List.getElem?_map, h2]; rfl) hdec (go h3 hL hN hP hS)
      | putfield k =>
        have hs : pm_step call M.2.2.2.1 M.2.2.2.2.2.1 (i, pl, st, hp) = pm_pf i pl st hp a v aux := pm_step_some hop
        rw [hs] at h
        have hln := hlen
        obtain rfl : len = 3 := hln.elim (fun q => absurd (show (3 : Nat) = 0 from q) (by decide)) (fun q => q)
        obtain ⟨u, x, st2, fs, rfl, hw, h1, h2, h3⟩ := pm_pf_inv h
        cases hq : P.2.1[aux.getD 0 0]? with
        | none => unfold pm_chk at hck; dsimp only at hck; rw [hq] at hck; cases hck
        | some q =>
          have hk : (decide (a < q.2.2) && (decide (P.2.2.1[aux.getD 1 0]? = some (.fieldLink M.1.cls k (q.2.1 a).1 (q.2.1 a).2.1 (q.2.1 a).2.2.1)) && (decide ((q.2.1 a).2.2.2 = false) && pm_fty v (parseFieldDescriptor (q.2.1 a).2.2.1)))) = true := by unfold pm_chk at hck; dsimp only at hck; rw [hq] at hck; exact hck
          rw [Bool.and_eq_true, Bool.and_eq_true, Bool.and_eq_true, decide_eq_true_eq, decide_eq_true_eq, decide_eq_true_eq] at hk
          obtain ⟨q1, q2, q3⟩ := q
          have hc := hok2 _ (List.mem_of_getElem? hq)
          have hset : ∀ w : Value, (pm_ws ad cA hp).set x (ad x, .inr (aux.getD 0 0, (fs.map (pm_vm ad)).set a (pm_vm ad w))) = pm_ws ad cA (hp.set x (.inr (aux.getD 0 0, fs.set a w))) := by
            intro w
            rw [← List.map_set]
            exact pm_ws_set (x := .inr (aux.getD 0 0, fs.set a w))
          have hlN : (hp.set x (.inr (aux.getD 0 0, fs.set a u))).length = N := by rw [List.length_set]; exact hN
          have hty : ∀ k1, k1 < q3 → parseFieldDescriptor (q2 k1).2.2.1 = some ((parseFieldDescriptor (q2 k1).2.2.1).getD .int) := by
            intro k1 hk1
            have := hc.2.1 k1 hk1
            dsimp only at this
            cases hz : parseFieldDescriptor (q2 k1).2.2.1 with
            | none => rw [hz] at this; cases this
            | some z => rfl
          rcases hw with ⟨y, z, rfl, rfl⟩ | ⟨y, z, rfl, rfl⟩
          · refine va_put (D := D) (ci := aux.getD 0 0) (v := .int y) (ty := .int) (C := q1) (T := q2) (N := q3) hx hb hts hc.1 (fun k1 => (parseFieldDescriptor (q2 k1).2.2.1).getD .int) hty hc.2.2 hown hK hP hD hS x (pm_ws_at h1) hq a hk.1 (hts _ (List.mem_of_getElem? hk.2.1)) (fun _ h9 => h9) hk.2.2.1 (of_decide_eq_true hk.2.2.2) rfl rfl (by rw [List.length_map]; exact h2) hdec (fun H1 locs1 hP1 _ hS1 => ?_)
            rw [show (Value.int y) = pm_vm ad (.int y) from rfl, hset] at hP1
            exact go h3 hL hlN hP1 hS1
          · refine va_put (D := D) (ci := aux.getD 0 0) (v := .long y) (ty := .long) (C := q1) (T := q2) (N := q3) hx hb hts hc.1 (fun k1 => (parseFieldDescriptor (q2 k1).2.2.1).getD .int) hty hc.2.2 hown hK hP hD hS x (pm_ws_at h1) hq a hk.1 (hts _ (List.mem_of_getElem? hk.2.1)) (fun _ h9 => h9) hk.2.2.1 (of_decide_eq_true hk.2.2.2) rfl rfl (by rw [List.length_map]; exact h2) hdec (fun H1 locs1 hP1 _ hS1 => ?_)
            rw [show (Value.long y) = pm_vm ad (.long y) from rfl, hset] at hP1
            exact go h3 hL hlN hP1 hS1
      | iaload =>
        have hs : pm_step call M.2.2.2.1 M.2.2.2.2.2.1 (i, pl, st, hp) = pm_al i pl st hp 0 := pm_step_some hop
        rw [hs] at h
        have hln := hlen
        obtain rfl : len = 1 := hln.elim (fun q => absurd (show (1 : Nat) = 0 from q) (by decide)) (fun q => q)
        obtain ⟨j, x, st2, n1, f, rfl, h1, h2, h3⟩ := pm_al_inv h
        exact va_iald (D := D) hx hb hK hP x 0 (pm_ws_at h1) rfl h2 hdec (go h3 hL hN hP hS)
      | baload =>
        have hs : pm_step call M.2.2.2.1 M.2.2.2.2.2.1 (i, pl, st, hp) = pm_al i pl st hp 1 := pm_step_some hop
        rw [hs] at h
        have hln := hlen
        obtain rfl : len = 1 := hln.elim (fun q => absurd (show (1 : Nat) = 0 from q) (by decide)) (fun q => q)
        obtain ⟨j, x, st2, n1, f, rfl, h1, h2, h3⟩ := pm_al_inv h
        exact va_zald (D := D) hx hb hK hP x 1 (pm_ws_at h1) rfl h2 hdec (go h3 hL hN hP hS)
      | iastore =>
        have hs : pm_step call M.2.2.2.1 M.2.2.2.2.2.1 (i, pl, st, hp) = pm_as i pl st hp 0 (fun x => x) := pm_step_some hop
        rw [hs] at h
        have hln := hlen
        obtain rfl : len = 1 := hln.elim (fun q => absurd (show (1 : Nat) = 0 from q) (by decide)) (fun q => q)
        obtain ⟨y, j, x, st2, n1, f, rfl, h1, h2, h3⟩ := pm_as_inv h
        refine va_iast (D := D) hx hb hK hP hD hS x 0 (pm_ws_at h1) rfl h2 hdec (fun H1 locs1 hP1 _ hS1 => ?_)
        refine go h3 hL (by rw [List.length_set]; exact hN) ?_ hS1
        rw [← pm_ws_set]
        exact hP1
      | bastore =>
        have hs : pm_step call M.2.2.2.1 M.2.2.2.2.2.1 (i, pl, st, hp) = pm_as i pl st hp 1 (fun x => vp_nar .boolean x) := pm_step_some hop
        rw [hs] at h
        have hln := hlen
        obtain rfl : len = 1 := hln.elim (fun q => absurd (show (1 : Nat) = 0 from q) (by decide)) (fun q => q)
        obtain ⟨y, j, x, st2, n1, f, rfl, h1, h2, h3⟩ := pm_as_inv h
        refine va_zast (D := D) hx hb hK hP hD hS x 1 (pm_ws_at h1) rfl h2 hdec (fun H1 locs1 hP1 _ hS1 => ?_)
        refine go h3 hL (by rw [List.length_set]; exact hN) ?_ hS1
        rw [← pm_ws_set]
        exact hP1
      | arraylength =>
        have hs : pm_step call M.2.2.2.1 M.2.2.2.2.2.1 (i, pl, st, hp) = pm_len i pl st hp := pm_step_some hop
        rw [hs] at h
        have hln := hlen
        obtain rfl : len = 1 := hln.elim (fun q => absurd (show (1 : Nat) = 0 from q) (by decide)) (fun q => q)
        obtain ⟨x, st2, t, n1, f, rfl, h1, h2, h3⟩ := pm_len_inv h
        have ht : ∃ ty, (pm_tys cA)[t]? = some (cA t, ty) := by
          rcases (show t = 0 ∨ t = 1 by omega) with rfl | rfl
          · exact ⟨_, rfl⟩
          · exact ⟨_, rfl⟩
        obtain ⟨ty, ht⟩ := ht
        exact va_alen (D := D) hx hb hK hP x t (pm_ws_at h1) ht rfl hdec (go h3 hL hN hP hS)
      | invokevirtual k =>
        have hs : pm_step call M.2.2.2.1 M.2.2.2.2.2.1 (i, pl, st, hp) = pm_iv call i pl st hp a aux := pm_step_some hop
        rw [hs] at h
        have hln := hlen
        obtain rfl : len = 3 := hln.elim (fun q => absurd (show (3 : Nat) = 0 from q) (by decide)) (fun q => q)
        have hA : ∀ q, pm_A ad N H.size q → pm_A ad N s.heap.size q := fun q hq => hq.elim Or.inl (fun z => Or.inr (Nat.le_trans hS.1 z))
        obtain ⟨x, rest, fs, r1, hp2, h1, h2, h3, h4, h5⟩ := pm_iv_inv h
        cases hk0 : P.1[a]? with
        | none => unfold pm_chk at hck; dsimp only at hck; rw [hk0] at hck; cases hck
        | some K =>
          cases hq : P.2.1[aux.getD 1 0]? with
          | none => unfold pm_chk at hck; dsimp only at hck; rw [hk0] at hck; dsimp only at hck; rw [hq] at hck; cases hck
          | some q =>
            have hk : (decide (q.1 = K.1.cls) && (decide (P.2.2.1[aux.getD 2 0]? = some (.methodLink M.1.cls k K.1)) && (decide ((parseMethodDescriptor K.1.desc).map (fun d => d.parameters.length) = some (aux.getD 0 0)) &&
                  (decide (P.2.2.1[K.2.2.2.2.2.2.getD 2 0]? = some (.instanceMethod K.1)) && decide (P.2.2.1[K.2.2.2.2.2.2.getD 3 0]? = some (.selects K.1.cls K.1 K.1)))))) = true := by unfold pm_chk at hck; dsimp only at hck; rw [hk0] at hck; dsimp only at hck; rw [hq] at hck; exact hck
            simp only [Bool.and_eq_true, decide_eq_true_eq] at hk
            obtain ⟨g1, g2, g3, g4, g5⟩ := hk
            have hKM := hok3 K (List.mem_of_getElem? hk0)
            obtain ⟨j1, j2, j3, j4, j5, j6, -, -⟩ := pm_okM_to hKM
            obtain ⟨hN2, hMet⟩ := hcall a K _ hp hp2 r1 hk0 h4 hN
            have hlt : (st.take (aux.getD 0 0)).length = aux.getD 0 0 := by
              have : (st.drop (aux.getD 0 0)).length = rest.length + 1 := by rw [h1]; rfl
              rw [List.length_drop] at this
              rw [List.length_take]
              omega
            have hcb : CallB (pm_rm (d + 1)) s args M.1.cls k K.1 K.2.1 K.2.2.1 K.2.2.2.1 (.code K.1 K.2.1 K.2.2.1 K.2.2.2.1 :: P.2.2.1) (pm_rm d) 0 0 (aux.getD 0 0) := callB_of (aux.getD 0 0) hts (hws hKM) rfl rfl rfl (hts _ j5) (hts _ (List.mem_of_getElem? g2)) ⟨j2, j3, g3⟩ ⟨Nat.le_refl _, by show 8 + (K.2.2.1 + 11) + 64 * d ≤ 64 * (d + 1); omega⟩
            have hrun := va_runV (e := e) (below := below) (meth := meth) (H := H) (locs := locs) (cells := 0) (slots := 0) (g := F0 m pc ls (st.map (pm_vm ad))) (b := ad x) (C := K.1.cls) (As := ((st.take (aux.getD 0 0)).reverse).map (pm_vm ad)) (rest := rest.map (pm_vm ad)) ⟨hx, hb, hml, hown, hts⟩ (hMet H.size) ⟨hcb, hts _ (List.mem_of_getElem? g4), hts _ (List.mem_of_getElem? g5)⟩
              ⟨pm_blind D P.2.1 P.2.2.2 ad cA hp H.size _, by rw [← g1]; exact va_recv hK hP hq (pm_ws_at h2), fun U hU hW => ⟨rfl, by rw [hU], by rw [hU]; exact hP, va_K.moved hW.alike hK, hNW.warm hW⟩⟩
              rfl (by rw [List.length_map, List.length_reverse, hlt]) hsl (by
                show st.map (pm_vm ad) = _
                rw [List.map_reverse, List.reverse_reverse]
                conv => lhs; rw [← List.take_append_drop (aux.getD 0 0) st, h1]
                rw [List.map_append]
                rfl) (by
                refine lv_room (Nat.le_trans (?_ : _ ≤ 2 * rest.length) (by omega))
                clear h1 h2 h3 h4 h5 hcb hlt
                induction rest with
                | nil => exact Nat.le_refl _
                | cons y ys ihy =>
                  rw [List.map_cons, List.map_cons, List.sum_cons, List.length_cons]
                  have := lv_cat (pm_vm ad y)
                  omega) hdec ⟨Nat.le_refl _, Nat.le_refl _⟩
            refine pm_call hrun hS hA hA (fun H1 locs1 hP1 hS1 => ?_)
            have h6 := go (st2 := r1.toList ++ rest) h5 hL hN2 hP1 hS1
            have e1 : (r1.map (pm_vm ad)).toList ++ rest.map (pm_vm ad) = (r1.toList ++ rest).map (pm_vm ad) := by cases r1 <;> rfl
            rw [e1]
            exact h6
      | invokestatic k =>
        have hln := hlen
        obtain rfl : len = 3 := hln.elim (fun q => absurd (show (3 : Nat) = 0 from q) (by decide)) (fun q => q)
        have hA : ∀ q, pm_A ad N H.size q → pm_A ad N s.heap.size q := fun q hq => hq.elim Or.inl (fun z => Or.inr (Nat.le_trans hS.1 z))
        cases v with
        | null =>
          have hs : pm_step call M.2.2.2.1 M.2.2.2.2.2.1 (i, pl, st, hp) = pm_cp i pl st hp := pm_step_some hop
          rw [hs] at h
          obtain ⟨n1, dp, dd, sp, x, st2, n0, f, n2, g, rfl, h1, h2, h3, h4⟩ := pm_cp_inv h
          have hk : (decide (P.2.2.1[aux.getD 0 0]? = some (.methodLink M.1.cls k arraycopyName)) && (decide (P.2.2.1[aux.getD 1 0]? = some (.native arraycopyName)) && (decide (P.2.2.1[aux.getD 2 0]? = some (.static arraycopyName)) && decide (P.2.2.1[aux.getD 3 0]? = some (.initialized "java/lang/System"))))) = true := hck
          simp only [Bool.and_eq_true, decide_eq_true_eq] at hk
          obtain ⟨k1, k2, k3, k4, k5, k6⟩ := h3
          have hroom : ∀ rest : List Value, rest.length ≤ 4 → ((rest.map (pm_vm ad)).map fun v => v.category).sum ≤ 8 := by
            intro rest h9
            refine Nat.le_trans (?_ : _ ≤ 2 * rest.length) (by omega)
            clear h9
            induction rest with
            | nil => exact Nat.le_refl _
            | cons y ys ihy =>
              rw [List.map_cons, List.map_cons, List.sum_cons, List.length_cons]
              have := lv_cat (pm_vm ad y)
              omega
          refine va_copyi (D := D) (A := pm_A ad N s.heap.size) hx hb (by rw [hml, hsl]) hown (hts _ (List.mem_of_getElem? hk.1)) (hts _ (List.mem_of_getElem? hk.2.1)) (hts _ (List.mem_of_getElem? hk.2.2.1)) (hts _ (List.mem_of_getElem? hk.2.2.2)) hK hP hD hS x dd 0 0 (pm_ws_at h1) (pm_ws_at h2) rfl rfl rfl k1 k2 k3 k4 k5 (fun _ _ => rfl) (Nat.succ_le_succ (Nat.zero_le d)) ?_ hdec (fun H1 locs1 hP1 _ hS1 => ?_)
          · have := hroom st2 k6
            have e9 : nativeFrameWords "java/lang/System" "arraycopy" 5 = 7 := by decide +kernel
            rw [e9]
            show _ ≤ 64 * (d + 1)
            omega
          · refine go (st2 := st2) h4 hL (by rw [List.length_set]; exact hN) ?_ hS1
            rw [← pm_ws_set]
            exact hP1
        | ref z =>
          have hs : pm_step call M.2.2.2.1 M.2.2.2.2.2.1 (i, pl, st, hp) = pm_mx i pl st hp z := pm_step_some hop
          rw [hs] at h
          obtain ⟨x, y, st2, rfl, h1, h2⟩ := pm_mx_inv h
          unfold pm_chk at hck
          dsimp only at hck
          simp only [Bool.or_eq_true, Bool.and_eq_true, decide_eq_true_eq] at hck
          have hroom : ∀ rest : List Value, rest.length ≤ 4 → ((rest.map (pm_vm ad)).map fun v => v.category).sum ≤ 8 := by
            intro rest h9
            refine Nat.le_trans (?_ : _ ≤ 2 * rest.length) (by omega)
            clear h9
            induction rest with
            | nil => exact Nat.le_refl _
            | cons y ys ihy =>
              rw [List.map_cons, List.map_cons, List.sum_cons, List.length_cons]
              have := lv_cat (pm_vm ad y)
              omega
          have hro : ∀ rest : List Value, rest.length ≤ 4 → ((rest.map (pm_vm ad)).map fun v => v.category).sum + 13 ≤ (pm_rm (d + 1)).locals := by
            intro rest h9
            have := hroom rest h9
            show _ ≤ 64 * (d + 1)
            omega
          rcases h2 with ⟨rfl, h2⟩ | ⟨rfl, h2⟩
          · rcases hck with ⟨-, g1, g2, g3, g4⟩ | ⟨g0, -⟩
            · exact va_mmax hx hb (by rw [hml, hsl]) hown (hts _ (List.mem_of_getElem? g1)) (hts _ (List.mem_of_getElem? g2)) (hts _ (List.mem_of_getElem? g3)) (hts _ (List.mem_of_getElem? g4)) (Nat.succ_le_succ (Nat.zero_le d)) (hro st2 h1) (Nat.zero_le _) (Nat.zero_le _) hdec (go (st2 := .int (if x < y then y else x) :: st2) h2 hL hN hP hS)
            · cases g0
          · rcases hck with ⟨g0, -⟩ | ⟨-, g1, g2, g3, g4⟩
            · cases g0
            · exact va_mmin hx hb (by rw [hml, hsl]) hown (hts _ (List.mem_of_getElem? g1)) (hts _ (List.mem_of_getElem? g2)) (hts _ (List.mem_of_getElem? g3)) (hts _ (List.mem_of_getElem? g4)) (Nat.succ_le_succ (Nat.zero_le d)) (hro st2 h1) (Nat.zero_le _) (Nat.zero_le _) hdec (go (st2 := .int (if y < x then y else x) :: st2) h2 hL hN hP hS)
        | float z =>
          have hs : pm_step call M.2.2.2.1 M.2.2.2.2.2.1 (i, pl, st, hp) = pm_ab i pl st hp := pm_step_some hop
          rw [hs] at h
          obtain ⟨x, st2, rfl, h1, h2⟩ := pm_ab_inv h
          unfold pm_chk at hck
          dsimp only at hck
          simp only [Bool.and_eq_true, decide_eq_true_eq] at hck
          obtain ⟨g1, g2, g3, g4⟩ := hck
          have hroom : ∀ rest : List Value, rest.length ≤ 4 → ((rest.map (pm_vm ad)).map fun v => v.category).sum ≤ 8 := by
            intro rest h9
            refine Nat.le_trans (?_ : _ ≤ 2 * rest.length) (by omega)
            clear h9
            induction rest with
            | nil => exact Nat.le_refl _
            | cons y ys ihy =>
              rw [List.map_cons, List.map_cons, List.sum_cons, List.length_cons]
              have := lv_cat (pm_vm ad y)
              omega
          have hro : ∀ rest : List Value, rest.length ≤ 4 → ((rest.map (pm_vm ad)).map fun v => v.category).sum + 13 ≤ (pm_rm (d + 1)).locals := by
            intro rest h9
            have := hroom rest h9
            show _ ≤ 64 * (d + 1)
            omega
          exact va_mabs hx hb (by rw [hml, hsl]) hown (hts _ (List.mem_of_getElem? g1)) (hts _ (List.mem_of_getElem? g2)) (hts _ (List.mem_of_getElem? g3)) (hts _ (List.mem_of_getElem? g4)) (Nat.succ_le_succ (Nat.zero_le d)) (hro st2 h1) (Nat.zero_le _) (Nat.zero_le _) hdec (go (st2 := .int (if 0 ≤ x then x else 0 - x) :: st2) h2 hL hN hP hS)
        | int z =>
          have hs : pm_step call M.2.2.2.1 M.2.2.2.2.2.1 (i, pl, st, hp) = pm_is call i pl st hp a aux := pm_step_some hop
          rw [hs] at h
          obtain ⟨r1, hp2, h1, h2, h4, h5⟩ := pm_is_inv h
          cases hk0 : P.1[a]? with
          | none => unfold pm_chk at hck; dsimp only at hck; rw [hk0] at hck; cases hck
          | some K =>
            have hKM := hok3 K (List.mem_of_getElem? hk0)
            have hk : (decide ((parseMethodDescriptor K.1.desc).map (fun d => d.parameters.length) = some (aux.getD 0 0)) && (decide (P.2.2.1[K.2.2.2.2.2.2.getD 2 0]? = some (.static K.1)) && decide (P.2.2.1[aux.getD 1 0]? = some (.methodLink M.1.cls k K.1)))) = true := by unfold pm_chk at hck; dsimp only at hck; rw [hk0] at hck; exact hck
            simp only [Bool.and_eq_true, decide_eq_true_eq] at hk
            obtain ⟨g1, g2, g3⟩ := hk
            obtain ⟨j1, j2, j3, j4, j5, j6, -, -⟩ := pm_okM_to hKM
            obtain ⟨hN2, hMet⟩ := hcall a K _ hp hp2 r1 hk0 h4 hN
            have hlt : (st.take (aux.getD 0 0)).length = aux.getD 0 0 := by rw [List.length_take]; omega
            have hstk : st.map (pm_vm ad) = (((st.take (aux.getD 0 0)).reverse).map (pm_vm ad)).reverse ++ (st.drop (aux.getD 0 0)).map (pm_vm ad) := by
              rw [List.map_reverse, List.reverse_reverse, ← List.map_append, List.take_append_drop]
            have hroom : ∀ rest : List Value, rest.length ≤ 4 → ((rest.map (pm_vm ad)).map fun v => v.category).sum ≤ 8 := by
              intro rest h9
              refine Nat.le_trans (?_ : _ ≤ 2 * rest.length) (by omega)
              clear h9
              induction rest with
              | nil => exact Nat.le_refl _
              | cons y ys ihy =>
                rw [List.map_cons, List.map_cons, List.sum_cons, List.length_cons]
                have := lv_cat (pm_vm ad y)
                omega
            have hcb : CallB (pm_rm (d + 1)) s args M.1.cls k K.1 K.2.1 K.2.2.1 K.2.2.2.1 (.code K.1 K.2.1 K.2.2.1 K.2.2.2.1 :: P.2.2.1) (pm_rm d) 0 0 (aux.getD 0 0) := callB_of (aux.getD 0 0) hts (hws hKM) rfl rfl rfl (hts _ j5) (hts _ (List.mem_of_getElem? g3)) ⟨j2, j3, g1⟩ ⟨Nat.le_refl _, by show 8 + (K.2.2.1 + 11) + 64 * d ≤ 64 * (d + 1); omega⟩
            have hrun := va_runS (e := e) (below := below) (meth := meth) (H := H) (locs := locs) (cells := 0) (slots := 0) (g := F0 m pc ls (st.map (pm_vm ad))) (As := ((st.take (aux.getD 0 0)).reverse).map (pm_vm ad)) (rest := (st.drop (aux.getD 0 0)).map (pm_vm ad)) ⟨hx, hb, hml, hown, hts⟩ (hMet H.size) ⟨hcb, hts _ (List.mem_of_getElem? g2)⟩
              ⟨pm_blind D P.2.1 P.2.2.2 ad cA hp H.size _, fun U hU hW => ⟨rfl, by rw [hU], by rw [hU]; exact hP, va_K.moved hW.alike hK, hNW.warm hW⟩⟩
              rfl (by rw [List.length_map, List.length_reverse, hlt]) hsl hstk (lv_room (hroom _ h2)) hdec ⟨Nat.le_refl _, Nat.le_refl _⟩
            refine pm_call hrun hS hA hA (fun H1 locs1 hP1 hS1 => ?_)
            have h6 := go (st2 := r1.toList ++ st.drop (aux.getD 0 0)) h5 hL hN2 hP1 hS1
            have e1 : (r1.map (pm_vm ad)).toList ++ (st.drop (aux.getD 0 0)).map (pm_vm ad) = (r1.toList ++ st.drop (aux.getD 0 0)).map (pm_vm ad) := by cases r1 <;> rfl
            rw [e1]
            exact h6
        | long z =>
          have hs : pm_step call M.2.2.2.1 M.2.2.2.2.2.1 (i, pl, st, hp) = pm_is call i pl st hp a aux := pm_step_some hop
          rw [hs] at h
          obtain ⟨r1, hp2, h1, h2, h4, h5⟩ := pm_is_inv h
          cases hk0 : P.1[a]? with
          | none => unfold pm_chk at hck; dsimp only at hck; rw [hk0] at hck; cases hck
          | some K =>
            have hKM := hok3 K (List.mem_of_getElem? hk0)
            cases hq : P.2.2.2[aux.getD 1 0]? with
            | none => unfold pm_chk at hck; dsimp only at hck; rw [hk0] at hck; dsimp only at hck; rw [hq] at hck; simp at hck
            | some q =>
              have hk : (decide ((parseMethodDescriptor K.1.desc).map (fun d => d.parameters.length) = some (aux.getD 0 0)) && (decide (P.2.2.1[K.2.2.2.2.2.2.getD 2 0]? = some (.static K.1)) && (decide (q.1 = M.1.cls) && (decide (q.2.1 = k) && decide (q.2.2.1 = K.1))))) = true := by unfold pm_chk at hck; dsimp only at hck; rw [hk0] at hck; dsimp only at hck; rw [hq] at hck; exact hck
              simp only [Bool.and_eq_true, decide_eq_true_eq] at hk
              obtain ⟨g1, g2, g3, g4, g5⟩ := hk
              obtain ⟨j1, j2, j3, j4, j5, j6, -, -⟩ := pm_okM_to hKM
              obtain ⟨hN2, hMet⟩ := hcall a K _ hp hp2 r1 hk0 h4 hN
              have hlt : (st.take (aux.getD 0 0)).length = aux.getD 0 0 := by rw [List.length_take]; omega
              have hstk : st.map (pm_vm ad) = (((st.take (aux.getD 0 0)).reverse).map (pm_vm ad)).reverse ++ (st.drop (aux.getD 0 0)).map (pm_vm ad) := by
                rw [List.map_reverse, List.reverse_reverse, ← List.map_append, List.take_append_drop]
              have hroom : ∀ rest : List Value, rest.length ≤ 4 → ((rest.map (pm_vm ad)).map fun v => v.category).sum ≤ 8 := by
                intro rest h9
                refine Nat.le_trans (?_ : _ ≤ 2 * rest.length) (by omega)
                clear h9
                induction rest with
                | nil => exact Nat.le_refl _
                | cons y ys ihy =>
                  rw [List.map_cons, List.map_cons, List.sum_cons, List.length_cons]
                  have := lv_cat (pm_vm ad y)
                  omega
              have hcb : va_CN (pm_rm (d + 1)) s args M.1.cls k K.1 q.2.2.2 K.2.1 K.2.2.1 K.2.2.2.1 (.code K.1 K.2.1 K.2.2.1 K.2.2.2.1 :: P.2.2.1) (pm_rm d) 0 0 (aux.getD 0 0) := va_cnB (aux.getD 0 0) hts (hws hKM) rfl rfl rfl (by have := hNW q (List.mem_of_getElem? hq); rw [g3, g4, g5] at this; exact this) (hts _ j5) ⟨j2, j3, g1⟩ ⟨Nat.le_refl _, by show 8 + (K.2.2.1 + 11) + 64 * d ≤ 64 * (d + 1); omega⟩
              have hrun := va_runSN (e := e) (below := below) (meth := meth) (H := H) (locs := locs) (cells := 0) (slots := 0) (g := F0 m pc ls (st.map (pm_vm ad))) (As := ((st.take (aux.getD 0 0)).reverse).map (pm_vm ad)) (rest := (st.drop (aux.getD 0 0)).map (pm_vm ad)) ⟨hx, hb, hml, hown, hts⟩ (hMet H.size) ⟨hcb, hts _ (List.mem_of_getElem? g2), trivial⟩
                ⟨pm_blind D P.2.1 P.2.2.2 ad cA hp H.size _, fun U hU hW => ⟨rfl, by rw [hU], by rw [hU]; exact hP, va_K.moved hW.alike hK, hNW.warm hW⟩⟩
                rfl (by rw [List.length_map, List.length_reverse, hlt]) hsl hstk (lv_room (hroom _ h2)) hdec ⟨Nat.le_refl _, Nat.le_refl _⟩
              refine pm_call hrun hS hA hA (fun H1 locs1 hP1 hS1 => ?_)
              have h6 := go (st2 := r1.toList ++ st.drop (aux.getD 0 0)) h5 hL hN2 hP1 hS1
              have e1 : (r1.map (pm_vm ad)).toList ++ (st.drop (aux.getD 0 0)).map (pm_vm ad) = (r1.toList ++ st.drop (aux.getD 0 0)).map (pm_vm ad) := by cases r1 <;> rfl
              rw [e1]
              exact h6
        | _ => unfold pm_chk at hck; cases hck
      | ireturn =>
        have hs : pm_step call M.2.2.2.1 M.2.2.2.2.2.1 (i, pl, st, hp) = pm_ri M.2.2.2.1 st hp := pm_step_some hop
        rw [hs] at h
        unfold pm_ri at h
        have hln := hlen
        obtain rfl : len = 1 := hln.elim (fun q => absurd (show (1 : Nat) = 0 from q) (by decide)) (fun q => q)
        split at h
        · rename_i x
          by_cases hz : pm_rz M.2.2.2.1 x = true
          · rw [if_pos hz] at h
            cases h
            unfold pm_rz at hz
            split at hz
            · rename_i hret
              exact W.iret (v := x) hx hb (by rw [hr, hret]) (fun t ht hW => ⟨rfl, by rw [ht]; exact hP, hS.F ht⟩) hS.2.2 hdec hlocks
            · rename_i hret
              exact W.zret (v := x) (ty := .boolean) hx hb (by rw [hr, hret]) (of_decide_eq_true hz) (fun t ht hW => ⟨rfl, by rw [ht]; exact hP, hS.F ht⟩) hS.2.2 hdec hlocks
            · cases hz
          · rw [if_neg hz] at h; cases h
        · cases h
      | lreturn =>
        have hs : pm_step call M.2.2.2.1 M.2.2.2.2.2.1 (i, pl, st, hp) = pm_rl M.2.2.2.1 st hp := pm_step_some hop
        rw [hs] at h
        unfold pm_rl at h
        have hln := hlen
        obtain rfl : len = 1 := hln.elim (fun q => absurd (show (1 : Nat) = 0 from q) (by decide)) (fun q => q)
        split at h
        · rename_i x
          by_cases hz : M.2.2.2.1 = some .long
          · rw [if_pos hz] at h
            cases h
            exact W.lret (v := x) hx hb (by rw [hr, hz]) (fun t ht hW => ⟨rfl, by rw [ht]; exact hP, hS.F ht⟩) hS.2.2 hdec hlocks
          · rw [if_neg hz] at h; cases h
        · cases h
      | return_ =>
        have hs : pm_step call M.2.2.2.1 M.2.2.2.2.2.1 (i, pl, st, hp) = pm_rv M.2.2.2.1 st hp := pm_step_some hop
        rw [hs] at h
        unfold pm_rv at h
        have hln := hlen
        obtain rfl : len = 1 := hln.elim (fun q => absurd (show (1 : Nat) = 0 from q) (by decide)) (fun q => q)
        split at h
        · by_cases hz : M.2.2.2.1 = none
          · rw [if_pos hz] at h
            cases h
            exact W.vret hx hb (by rw [hr, hz]) (fun t ht hW => ⟨rfl, by rw [ht]; exact hP, hS.F ht⟩) hS.2.2 hdec hlocks
          · rw [if_neg hz] at h; cases h
        · cases h
      | _ =>
        have hs : pm_step call M.2.2.2.1 M.2.2.2.2.2.1 (i, pl, st, hp) = .inr none := pm_step_some hop
        rw [hs] at h
        cases h
end
section
/-! the number of cells stays; the soundness of runs -/
theorem pm_evlen {call : pm_K} {ret : Option FieldType} {ops : List pm_OP} {r : Option Value} {hp9 : pm_HP} (hc : ∀ (k : Nat) (as : List Value) (h : pm_HP) (r : Option Value) (h2 : pm_HP), call k as h = some (r, h2) → h2.length = h.length) :
    ∀ (n i : Nat) (pl : pm_LS) (st : List Value) (hp : pm_HP), pm_ev call ret ops n (i, pl, st, hp) = some (r, hp9) → hp9.length = hp.length := by
  intro n
  induction n with
  | zero => intro i pl st hp h; cases h
  | succ n ih =>
    intro i pl st hp h
    rw [pm_ev_fin] at h
    rcases hop : ops[i]? with _ | ⟨pc, ins, len, a, v, aux, sw⟩
    · rw [pm_step_none hop] at h; cases h
    · rw [pm_step_some hop] at h
      cases ins with
      | iload k =>
        replace h : pm_fin (pm_ev call ret ops n) (pm_ldI i pl st hp k) = some (r, hp9) := h
        obtain ⟨x, h1, h2⟩ := pm_ldI_inv h
        exact ih _ _ _ _ h2
      | iload_n k =>
        replace h : pm_fin (pm_ev call ret ops n) (pm_ldI i pl st hp k) = some (r, hp9) := h
        obtain ⟨x, h1, h2⟩ := pm_ldI_inv h
        exact ih _ _ _ _ h2
      | aload k =>
        replace h : pm_fin (pm_ev call ret ops n) (pm_ldA i pl st hp k) = some (r, hp9) := h
        obtain ⟨x, h1, h2⟩ := pm_ldA_inv h
        exact ih _ _ _ _ h2
      | aload_n k =>
        replace h : pm_fin (pm_ev call ret ops n) (pm_ldA i pl st hp k) = some (r, hp9) := h
        obtain ⟨x, h1, h2⟩ := pm_ldA_inv h
        exact ih _ _ _ _ h2
      | lload k =>
        replace h : pm_fin (pm_ev call ret ops n) (pm_ldL i pl st hp k) = some (r, hp9) := h
        obtain ⟨x, h1, h2⟩ := pm_ldL_inv h
        exact ih _ _ _ _ h2
      | lload_n k =>
        replace h : pm_fin (pm_ev call ret ops n) (pm_ldL i pl st hp k) = some (r, hp9) := h
        obtain ⟨x, h1, h2⟩ := pm_ldL_inv h
        exact ih _ _ _ _ h2
      | istore k =>
        replace h : pm_fin (pm_ev call ret ops n) (pm_stI i pl st hp k) = some (r, hp9) := h
        obtain ⟨x, st2, rfl, h2⟩ := pm_stI_inv h
        exact ih _ _ _ _ h2
      | istore_n k =>
        replace h : pm_fin (pm_ev call ret ops n) (pm_stI i pl st hp k) = some (r, hp9) := h
        obtain ⟨x, st2, rfl, h2⟩ := pm_stI_inv h
        exact ih _ _ _ _ h2
      | lstore k =>
        replace h : pm_fin (pm_ev call ret ops n) (pm_stL i pl st hp k) = some (r, hp9) := h
        obtain ⟨x, st2, rfl, h2⟩ := pm_stL_inv h
        exact ih _ _ _ _ h2
      | lstore_n k =>
        replace h : pm_fin (pm_ev call ret ops n) (pm_stL i pl st hp k) = some (r, hp9) := h
        obtain ⟨x, st2, rfl, h2⟩ := pm_stL_inv h
        exact ih _ _ _ _ h2
      | iconst k =>
        replace h : pm_fin (pm_ev call ret ops n) (pm_cI i pl st hp v) = some (r, hp9) := h
        obtain ⟨x, rfl, h2⟩ := pm_cI_inv h
        exact ih _ _ _ _ h2
      | bipush k =>
        replace h : pm_fin (pm_ev call ret ops n) (pm_cI i pl st hp v) = some (r, hp9) := h
        obtain ⟨x, rfl, h2⟩ := pm_cI_inv h
        exact ih _ _ _ _ h2
      | sipush k =>
        replace h : pm_fin (pm_ev call ret ops n) (pm_cI i pl st hp v) = some (r, hp9) := h
        obtain ⟨x, rfl, h2⟩ := pm_cI_inv h
        exact ih _ _ _ _ h2
      | ldc_w k =>
        replace h : pm_fin (pm_ev call ret ops n) (pm_cI i pl st hp v) = some (r, hp9) := h
        obtain ⟨x, rfl, h2⟩ := pm_cI_inv h
        exact ih _ _ _ _ h2
      | lconst k =>
        replace h : pm_fin (pm_ev call ret ops n) (pm_cL i pl st hp v) = some (r, hp9) := h
        obtain ⟨x, rfl, h2⟩ := pm_cL_inv h
        exact ih _ _ _ _ h2
      | ldc2_w k =>
        replace h : pm_fin (pm_ev call ret ops n) (pm_cL i pl st hp v) = some (r, hp9) := h
        obtain ⟨x, rfl, h2⟩ := pm_cL_inv h
        exact ih _ _ _ _ h2
      | iadd =>
        replace h : pm_fin (pm_ev call ret ops n) (pm_b2 i pl st hp (fun x y => x + y)) = some (r, hp9) := h
        obtain ⟨x, y, st2, rfl, h2⟩ := pm_b2_inv h
        exact ih _ _ _ _ h2
      | isub =>
        replace h : pm_fin (pm_ev call ret ops n) (pm_b2 i pl st hp (fun x y => x - y)) = some (r, hp9) := h
        obtain ⟨x, y, st2, rfl, h2⟩ := pm_b2_inv h
        exact ih _ _ _ _ h2
      | imul =>
        replace h : pm_fin (pm_ev call ret ops n) (pm_b2 i pl st hp (fun x y => x * y)) = some (r, hp9) := h
        obtain ⟨x, y, st2, rfl, h2⟩ := pm_b2_inv h
        exact ih _ _ _ _ h2
      | iand =>
        replace h : pm_fin (pm_ev call ret ops n) (pm_b2 i pl st hp (fun x y => x &&& y)) = some (r, hp9) := h
        obtain ⟨x, y, st2, rfl, h2⟩ := pm_b2_inv h
        exact ih _ _ _ _ h2
      | ior =>
        replace h : pm_fin (pm_ev call ret ops n) (pm_b2 i pl st hp (fun x y => x ||| y)) = some (r, hp9) := h
        obtain ⟨x, y, st2, rfl, h2⟩ := pm_b2_inv h
        exact ih _ _ _ _ h2
      | ishl =>
        replace h : pm_fin (pm_ev call ret ops n) (pm_b2 i pl st hp (fun x y => x <<< (y &&& 31))) = some (r, hp9) := h
        obtain ⟨x, y, st2, rfl, h2⟩ := pm_b2_inv h
        exact ih _ _ _ _ h2
      | ishr =>
        replace h : pm_fin (pm_ev call ret ops n) (pm_b2 i pl st hp (fun x y => x >>> (y &&& 31))) = some (r, hp9) := h
        obtain ⟨x, y, st2, rfl, h2⟩ := pm_b2_inv h
        exact ih _ _ _ _ h2
      | iushr =>
        replace h : pm_fin (pm_ev call ret ops n) (pm_b2 i pl st hp (fun x y => (x.toUInt32 >>> (y.toUInt32 &&& Int32.toUInt32 31)).toInt32)) = some (r, hp9) := h
        obtain ⟨x, y, st2, rfl, h2⟩ := pm_b2_inv h
        exact ih _ _ _ _ h2
      | idiv =>
        replace h : pm_fin (pm_ev call ret ops n) (pm_d2 i pl st hp (fun x y => x / y)) = some (r, hp9) := h
        obtain ⟨x, y, st2, rfl, hy, h2⟩ := pm_d2_inv h
        exact ih _ _ _ _ h2
      | irem =>
        replace h : pm_fin (pm_ev call ret ops n) (pm_d2 i pl st hp (fun x y => x - x / y * y)) = some (r, hp9) := h
        obtain ⟨x, y, st2, rfl, hy, h2⟩ := pm_d2_inv h
        exact ih _ _ _ _ h2
      | ladd =>
        replace h : pm_fin (pm_ev call ret ops n) (pm_l2 i pl st hp (fun x y => x + y)) = some (r, hp9) := h
        obtain ⟨x, y, st2, rfl, h2⟩ := pm_l2_inv h
        exact ih _ _ _ _ h2
      | lsub =>
        replace h : pm_fin (pm_ev call ret ops n) (pm_l2 i pl st hp (fun x y => x - y)) = some (r, hp9) := h
        obtain ⟨x, y, st2, rfl, h2⟩ := pm_l2_inv h
        exact ih _ _ _ _ h2
      | lmul =>
        replace h : pm_fin (pm_ev call ret ops n) (pm_l2 i pl st hp (fun x y => x * y)) = some (r, hp9) := h
        obtain ⟨x, y, st2, rfl, h2⟩ := pm_l2_inv h
        exact ih _ _ _ _ h2
      | ldiv =>
        replace h : pm_fin (pm_ev call ret ops n) (pm_e2 i pl st hp (fun x y => x / y)) = some (r, hp9) := h
        obtain ⟨x, y, st2, rfl, hy, h2⟩ := pm_e2_inv h
        exact ih _ _ _ _ h2
      | lrem =>
        replace h : pm_fin (pm_ev call ret ops n) (pm_e2 i pl st hp (fun x y => x - x / y * y)) = some (r, hp9) := h
        obtain ⟨x, y, st2, rfl, hy, h2⟩ := pm_e2_inv h
        exact ih _ _ _ _ h2
      | ineg =>
        replace h : pm_fin (pm_ev call ret ops n) (pm_ng i pl st hp) = some (r, hp9) := h
        unfold pm_ng at h
        split at h
        · exact ih _ _ _ _ h
        · cases h
      | lushr =>
        replace h : pm_fin (pm_ev call ret ops n) (pm_lu i pl st hp) = some (r, hp9) := h
        unfold pm_lu at h
        split at h
        · exact ih _ _ _ _ h
        · cases h
      | i2l =>
        replace h : pm_fin (pm_ev call ret ops n) (pm_il i pl st hp) = some (r, hp9) := h
        unfold pm_il at h
        split at h
        · exact ih _ _ _ _ h
        · cases h
      | l2i =>
        replace h : pm_fin (pm_ev call ret ops n) (pm_li i pl st hp) = some (r, hp9) := h
        unfold pm_li at h
        split at h
        · exact ih _ _ _ _ h
        · cases h
      | lcmp =>
        replace h : pm_fin (pm_ev call ret ops n) (pm_lc i pl st hp) = some (r, hp9) := h
        unfold pm_lc at h
        split at h
        · exact ih _ _ _ _ h
        · cases h
      | dup =>
        replace h : pm_fin (pm_ev call ret ops n) (pm_du i pl st hp) = some (r, hp9) := h
        unfold pm_du at h
        split at h
        · exact ih _ _ _ _ h
        · exact ih _ _ _ _ h
        · cases h
      | dup2 =>
        replace h : pm_fin (pm_ev call ret ops n) (pm_dd i pl st hp) = some (r, hp9) := h
        unfold pm_dd at h
        split at h
        · exact ih _ _ _ _ h
        · exact ih _ _ _ _ h
        · cases h
      | pop =>
        replace h : pm_fin (pm_ev call ret ops n) (pm_po i pl st hp) = some (r, hp9) := h
        unfold pm_po at h
        split at h
        · exact ih _ _ _ _ h
        · cases h
      | goto off =>
        replace h : pm_fin (pm_ev call ret ops n) (.inl (a, pl, st, hp)) = some (r, hp9) := h
        exact ih _ _ _ _ h
      | ifCond cd off =>
        cases cd with
        | eq =>
          replace h : pm_fin (pm_ev call ret ops n) (pm_i1 i pl st hp a (fun x t f => if x = 0 then t else f)) = some (r, hp9) := h
          obtain ⟨x, st2, rfl, h2⟩ := pm_i1_inv h
          try dsimp only at h2
          split at h2
          · exact ih _ _ _ _ h2
          · exact ih _ _ _ _ h2
        | ne =>
          replace h : pm_fin (pm_ev call ret ops n) (pm_i1 i pl st hp a (fun x t f => if x = 0 then f else t)) = some (r, hp9) := h
          obtain ⟨x, st2, rfl, h2⟩ := pm_i1_inv h
          try dsimp only at h2
          split at h2
          · exact ih _ _ _ _ h2
          · exact ih _ _ _ _ h2
        | lt =>
          replace h : pm_fin (pm_ev call ret ops n) (pm_i1 i pl st hp a (fun x t f => if x < 0 then t else f)) = some (r, hp9) := h
          obtain ⟨x, st2, rfl, h2⟩ := pm_i1_inv h
          try dsimp only at h2
          split at h2
          · exact ih _ _ _ _ h2
          · exact ih _ _ _ _ h2
        | ge =>
          replace h : pm_fin (pm_ev call ret ops n) (pm_i1 i pl st hp a (fun x t f => if x < 0 then f else t)) = some (r, hp9) := h
          obtain ⟨x, st2, rfl, h2⟩ := pm_i1_inv h
          try dsimp only at h2
          split at h2
          · exact ih _ _ _ _ h2
          · exact ih _ _ _ _ h2
        | gt =>
          replace h : pm_fin (pm_ev call ret ops n) (pm_i1 i pl st hp a (fun x t f => if 0 < x then t else f)) = some (r, hp9) := h
          obtain ⟨x, st2, rfl, h2⟩ := pm_i1_inv h
          try dsimp only at h2
          split at h2
          · exact ih _ _ _ _ h2
          · exact ih _ _ _ _ h2
        | le =>
          replace h : pm_fin (pm_ev call ret ops n) (pm_i1 i pl st hp a (fun x t f => if 0 < x then f else t)) = some (r, hp9) := h
          obtain ⟨x, st2, rfl, h2⟩ := pm_i1_inv h
          try dsimp only at h2
          split at h2
          · exact ih _ _ _ _ h2
          · exact ih _ _ _ _ h2
      | if_icmp cd off =>
        cases cd with
        | eq =>
          replace h : pm_fin (pm_ev call ret ops n) (pm_i2 i pl st hp a (fun x y t f => if x = y then t else f)) = some (r, hp9) := h
          obtain ⟨x, y, st2, rfl, h2⟩ := pm_i2_inv h
          try dsimp only at h2
          split at h2
          · exact ih _ _ _ _ h2
          · exact ih _ _ _ _ h2
        | ne =>
          replace h : pm_fin (pm_ev call ret ops n) (pm_i2 i pl st hp a (fun x y t f => if x = y then f else t)) = some (r, hp9) := h
          obtain ⟨x, y, st2, rfl, h2⟩ := pm_i2_inv h
          try dsimp only at h2
          split at h2
          · exact ih _ _ _ _ h2
          · exact ih _ _ _ _ h2
        | lt =>
          replace h : pm_fin (pm_ev call ret ops n) (pm_i2 i pl st hp a (fun x y t f => if x < y then t else f)) = some (r, hp9) := h
          obtain ⟨x, y, st2, rfl, h2⟩ := pm_i2_inv h
          try dsimp only at h2
          split at h2
          · exact ih _ _ _ _ h2
          · exact ih _ _ _ _ h2
        | ge =>
          replace h : pm_fin (pm_ev call ret ops n) (pm_i2 i pl st hp a (fun x y t f => if x < y then f else t)) = some (r, hp9) := h
          obtain ⟨x, y, st2, rfl, h2⟩ := pm_i2_inv h
          try dsimp only at h2
          split at h2
          · exact ih _ _ _ _ h2
          · exact ih _ _ _ _ h2
        | gt =>
          replace h : pm_fin (pm_ev call ret ops n) (pm_i2 i pl st hp a (fun x y t f => if y < x then t else f)) = some (r, hp9) := h
          obtain ⟨x, y, st2, rfl, h2⟩ := pm_i2_inv h
          try dsimp only at h2
          split at h2
          · exact ih _ _ _ _ h2
          · exact ih _ _ _ _ h2
        | le =>
          replace h : pm_fin (pm_ev call ret ops n) (pm_i2 i pl st hp a (fun x y t f => if y < x then f else t)) = some (r, hp9) := h
          obtain ⟨x, y, st2, rfl, h2⟩ := pm_i2_inv h
          try dsimp only at h2
          split at h2
          · exact ih _ _ _ _ h2
          · exact ih _ _ _ _ h2
      | iinc k z =>
        replace h : pm_fin (pm_ev call ret ops n) (pm_ii i pl st hp k v) = some (r, hp9) := h
        unfold pm_ii at h
        split at h
        · split at h
          · exact ih _ _ _ _ h
          · cases h
        · cases h
      | tableswitch df lo hi offs =>
        replace h : pm_fin (pm_ev call ret ops n) (pm_ts pl st hp a sw) = some (r, hp9) := h
        unfold pm_ts at h
        split at h
        · rename_i x st2
          have key : ∀ sw : List (Int32 × Nat), pm_fin (pm_ev call ret ops n) (pm_sw (fun t => .inl (t, pl, st2, hp)) x a sw) = some (r, hp9) → hp9.length = hp.length := by
            intro sw
            induction sw with
            | nil => intro h1; exact ih _ _ _ _ h1
            | cons q qs ihq =>
              intro h1
              rw [pm_sw] at h1
              split at h1
              · exact ih _ _ _ _ h1
              · exact ihq h1
          exact key sw h
        · cases h
      | lookupswitch df ps =>
        replace h : pm_fin (pm_ev call ret ops n) (pm_ts pl st hp a sw) = some (r, hp9) := h
        unfold pm_ts at h
        split at h
        · rename_i x st2
          have key : ∀ sw : List (Int32 × Nat), pm_fin (pm_ev call ret ops n) (pm_sw (fun t => .inl (t, pl, st2, hp)) x a sw) = some (r, hp9) → hp9.length = hp.length := by
            intro sw
            induction sw with
            | nil => intro h1; exact ih _ _ _ _ h1
            | cons q qs ihq =>
              intro h1
              rw [pm_sw] at h1
              split at h1
              · exact ih _ _ _ _ h1
              · exact ihq h1
          exact key sw h
        · cases h
      | getfield k =>
        replace h : pm_fin (pm_ev call ret ops n) (pm_gf i pl st hp a aux) = some (r, hp9) := h
        obtain ⟨x, st2, fs, u, rfl, h1, h2, h3⟩ := pm_gf_inv h
        exact ih _ _ _ _ h3
      | putfield k =>
        replace h : pm_fin (pm_ev call ret ops n) (pm_pf i pl st hp a v aux) = some (r, hp9) := h
        obtain ⟨u, x, st2, fs, rfl, hw, h1, h2, h3⟩ := pm_pf_inv h
        have := ih _ _ _ _ h3
        rw [List.length_set] at this
        exact this
      | iaload =>
        replace h : pm_fin (pm_ev call ret ops n) (pm_al i pl st hp 0) = some (r, hp9) := h
        obtain ⟨j, x, st2, n1, f, rfl, h1, h2, h3⟩ := pm_al_inv h
        exact ih _ _ _ _ h3
      | baload =>
        replace h : pm_fin (pm_ev call ret ops n) (pm_al i pl st hp 1) = some (r, hp9) := h
        obtain ⟨j, x, st2, n1, f, rfl, h1, h2, h3⟩ := pm_al_inv h
        exact ih _ _ _ _ h3
      | iastore =>
        replace h : pm_fin (pm_ev call ret ops n) (pm_as i pl st hp 0 (fun x => x)) = some (r, hp9) := h
        obtain ⟨y, j, x, st2, n1, f, rfl, h1, h2, h3⟩ := pm_as_inv h
        have := ih _ _ _ _ h3
        rw [List.length_set] at this
        exact this
      | bastore =>
        replace h : pm_fin (pm_ev call ret ops n) (pm_as i pl st hp 1 (fun x => vp_nar .boolean x)) = some (r, hp9) := h
        obtain ⟨y, j, x, st2, n1, f, rfl, h1, h2, h3⟩ := pm_as_inv h
        have := ih _ _ _ _ h3
        rw [List.length_set] at this
        exact this
      | arraylength =>
        replace h : pm_fin (pm_ev call ret ops n) (pm_len i pl st hp) = some (r, hp9) := h
        obtain ⟨x, st2, t, n1, f, rfl, h1, h2, h3⟩ := pm_len_inv h
        exact ih _ _ _ _ h3
      | invokevirtual k =>
        replace h : pm_fin (pm_ev call ret ops n) (pm_iv call i pl st hp a aux) = some (r, hp9) := h
        obtain ⟨x, rest, fs, r1, hp2, h1, h2, h3, h4, h5⟩ := pm_iv_inv h
        exact (ih _ _ _ _ h5).trans (hc _ _ _ _ _ h4)
      | invokestatic k =>
        have key : pm_fin (pm_ev call ret ops n) (pm_is call i pl st hp a aux) = some (r, hp9) → hp9.length = hp.length := by
          intro h
          obtain ⟨r1, hp2, h1, h2, h4, h5⟩ := pm_is_inv h
          exact (ih _ _ _ _ h5).trans (hc _ _ _ _ _ h4)
        cases v with
        | null =>
          replace h : pm_fin (pm_ev call ret ops n) (pm_cp i pl st hp) = some (r, hp9) := h
          obtain ⟨n1, dp, dd, sp, x, st2, n0, f, n2, g, rfl, h1, h2, h3, h4⟩ := pm_cp_inv h
          have := ih _ _ _ _ h4
          rw [List.length_set] at this
          exact this
        | ref z =>
          replace h : pm_fin (pm_ev call ret ops n) (pm_mx i pl st hp z) = some (r, hp9) := h
          obtain ⟨x, y, st2, rfl, h1, h2⟩ := pm_mx_inv h
          rcases h2 with ⟨-, h2⟩ | ⟨-, h2⟩
          · exact ih _ _ _ _ h2
          · exact ih _ _ _ _ h2
        | float z =>
          replace h : pm_fin (pm_ev call ret ops n) (pm_ab i pl st hp) = some (r, hp9) := h
          obtain ⟨x, st2, rfl, h1, h2⟩ := pm_ab_inv h
          exact ih _ _ _ _ h2
        | _ => exact key h
      | ireturn =>
        replace h : pm_fin (pm_ev call ret ops n) (pm_ri ret st hp) = some (r, hp9) := h
        unfold pm_ri at h
        split at h
        · split at h
          · cases h; rfl
          · cases h
        · cases h
      | lreturn =>
        replace h : pm_fin (pm_ev call ret ops n) (pm_rl ret st hp) = some (r, hp9) := h
        unfold pm_rl at h
        split at h
        · split at h
          · cases h; rfl
          · cases h
        · cases h
      | return_ =>
        replace h : pm_fin (pm_ev call ret ops n) (pm_rv ret st hp) = some (r, hp9) := h
        unfold pm_rv at h
        split at h
        · split at h
          · cases h; rfl
          · cases h
        · cases h
      | _ => cases h
theorem pm_runlen (mt : List pm_M) : ∀ (d k : Nat) (as : List Value) (hp : pm_HP) (r : Option Value) (hp2 : pm_HP), pm_run mt d k as hp = some (r, hp2) → hp2.length = hp.length
  | 0, _, _, _, _, _, h => by cases h
  | d + 1, k, as, hp, r, hp2, h => by
    unfold pm_run at h
    try dsimp only at h
    split at h
    · cases h
    · rename_i M hM
      split at h
      · obtain ⟨n, hn⟩ := pm_EV_to h
        exact pm_evlen (pm_runlen mt d) n _ _ _ _ hn
      · cases h
set_option maxHeartbeats 4000000 in
/-- what a pure run answers, the method answers: for every method of the tables, at every depth -/
theorem pm_sound {P : pm_P} (hP0 : pm_okP P) (l : Launch) (D : va_G) (cA : Nat → ClassId) (ad : Nat → Nat) (N : Nat) (hinj : ∀ i j, i < N → j < N → ad i = ad j → i = j) :
    ∀ (d k : Nat) (K : pm_M) (as : List Value) (hp hp2 : pm_HP) (r : Option Value), P.1[k]? = some K → pm_run P.1 d k as hp = some (r, hp2) → hp.length = N →
      hp2.length = N ∧ ∀ sz, Met l K.1 (.code K.1 K.2.1 K.2.2.1 K.2.2.2.1 :: P.2.2.1) (pm_rm d) (va_Pc (as.map (pm_vm ad)) (pm_Pre D P.2.1 P.2.2.2 ad cA hp sz)) (pm_Post D P.2.1 ad cA r hp2 (pm_A ad N sz)) 0 0 (pm_A ad N sz) := by
  intro d
  induction d with
  | zero => intro k K as hp hp2 r _ h; cases h
  | succ d ih =>
    intro k K as hp hp2 r hk h hN
    refine ⟨(pm_runlen P.1 _ k as hp r hp2 h).trans hN, fun sz => ?_⟩
    unfold pm_run at h
    try dsimp only at h
    rw [hk] at h
    try dsimp only at h
    split at h
    · rename_i hent
      obtain ⟨n, hn⟩ := pm_EV_to h
      have hKM := hP0.2.2 K (List.mem_of_getElem? hk)
      obtain ⟨j1, j2, j3, j4, j5, j6, j7, -⟩ := pm_okM_to hKM
      refine Met.ofW (cc := K.2.1) (maxL := K.2.2.1) (ret := K.2.2.2.1) j1 rfl ?_
      intro p e s m args below meth c s₁ B hml hv
      obtain ⟨rfl, hsz, hP, hK, hNW⟩ := hv
      have hts := atoms_spec (ws := .code K.1 K.2.1 K.2.2.1 K.2.2.2.1 :: P.2.2.1) B.pre
      have hown : s.vm.findClass K.1.cls = some m.cls := findClass_of_methodNamed B.named
      subst hsz
      rw [lg_entry_eq]
      have hW := pm_inner (p := p) (l := l) (e := e) (below := below) (meth := meth) (d := d) (N := N) (D := D) (ad := ad) (cA := cA) (r := r) (hp9 := hp2) hP0 hKM B.exec B.bytes hml B.returns B.notSynchronized hown (fun w hw => hts w (List.mem_cons_of_mem _ hw)) hK hNW hinj (fun k2 K2 as2 h1 h2 r1 hk2 hc hn2 => ih k2 K2 as2 h1 h2 r1 hk2 hc hn2) n 0 _ [] hp _ s.heap [] hn (pm_LR_entry (ad := ad) hent.1 hent.2) hN hP va_S.rf
      rw [j7] at hW
      exact hW
    · cases h
end
