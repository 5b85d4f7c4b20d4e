section
-- ===== PART A: goes FIRST, ahead of the names: the tables' words, and 'selects' of the private methods out of them =====
/-- a private method of a class that the tables say can be made, by its rows of tables_1 -/
def lw_okq (q : MethodName × Nat) : Prop := (q.1.cls ≠ "java/lang/invoke/MethodHandle" ∧ q.1.cls ≠ "java/lang/invoke/VarHandle") ∧ Cond.instantiable q.1.cls q.2 ∈ tables_1 ∧ Cond.privateMethod q.1 ∈ tables_1 ∧ Cond.instanceMethod q.1 ∈ tables_1
theorem lw_p0 : lw_okq (⟨"AntLease$House", "set", "(II)V"⟩, 1) := ⟨⟨by decide +kernel, by decide +kernel⟩, List.mem_of_getElem? (i := 36) (by decide +kernel), List.mem_of_getElem? (i := 181) (by decide +kernel), List.mem_of_getElem? (i := 182) (by decide +kernel)⟩
theorem lw_p1 : lw_okq (⟨"AntLease$House", "add", "(II)V"⟩, 1) := ⟨⟨by decide +kernel, by decide +kernel⟩, List.mem_of_getElem? (i := 36) (by decide +kernel), List.mem_of_getElem? (i := 194) (by decide +kernel), List.mem_of_getElem? (i := 195) (by decide +kernel)⟩
theorem lw_p2 : lw_okq (⟨"AntLease$House", "cell", "(I)I"⟩, 1) := ⟨⟨by decide +kernel, by decide +kernel⟩, List.mem_of_getElem? (i := 36) (by decide +kernel), List.mem_of_getElem? (i := 198) (by decide +kernel), List.mem_of_getElem? (i := 199) (by decide +kernel)⟩
theorem lw_p3 : lw_okq (⟨"AntLease$Past", "next", "()I"⟩, 3) := ⟨⟨by decide +kernel, by decide +kernel⟩, List.mem_of_getElem? (i := 46) (by decide +kernel), List.mem_of_getElem? (i := 342) (by decide +kernel), List.mem_of_getElem? (i := 343) (by decide +kernel)⟩
theorem lw_p4 : lw_okq (⟨"AntLease$House", "refusal", "(II)I"⟩, 1) := ⟨⟨by decide +kernel, by decide +kernel⟩, List.mem_of_getElem? (i := 36) (by decide +kernel), List.mem_of_getElem? (i := 380) (by decide +kernel), List.mem_of_getElem? (i := 381) (by decide +kernel)⟩
theorem lw_p5 : lw_okq (⟨"AntLease", "worthOfThose", "(I)I"⟩, 10) := ⟨⟨by decide +kernel, by decide +kernel⟩, List.mem_of_getElem? (i := 14) (by decide +kernel), List.mem_of_getElem? (i := 490) (by decide +kernel), List.mem_of_getElem? (i := 491) (by decide +kernel)⟩
theorem lw_p6 : lw_okq (⟨"AntLease$Said", "isSo", "(II)Z"⟩, 3) := ⟨⟨by decide +kernel, by decide +kernel⟩, List.mem_of_getElem? (i := 75) (by decide +kernel), List.mem_of_getElem? (i := 523) (by decide +kernel), List.mem_of_getElem? (i := 524) (by decide +kernel)⟩
theorem lw_p7 : lw_okq (⟨"AntLease", "pairsThatKeep", "(II)I"⟩, 10) := ⟨⟨by decide +kernel, by decide +kernel⟩, List.mem_of_getElem? (i := 14) (by decide +kernel), List.mem_of_getElem? (i := 536) (by decide +kernel), List.mem_of_getElem? (i := 537) (by decide +kernel)⟩
theorem lw_p8 : lw_okq (⟨"AntLease", "weighKnown", "(I)V"⟩, 10) := ⟨⟨by decide +kernel, by decide +kernel⟩, List.mem_of_getElem? (i := 14) (by decide +kernel), List.mem_of_getElem? (i := 560) (by decide +kernel), List.mem_of_getElem? (i := 561) (by decide +kernel)⟩
theorem lw_p9 : lw_okq (⟨"AntLeaseModel", "readManor", "()I"⟩, 32) := ⟨⟨by decide +kernel, by decide +kernel⟩, List.mem_of_getElem? (i := 599) (by decide +kernel), List.mem_of_getElem? (i := 719) (by decide +kernel), List.mem_of_getElem? (i := 720) (by decide +kernel)⟩
theorem lw_p10 : lw_okq (⟨"AntLeaseModel", "figure", "(I)I"⟩, 32) := ⟨⟨by decide +kernel, by decide +kernel⟩, List.mem_of_getElem? (i := 599) (by decide +kernel), List.mem_of_getElem? (i := 723) (by decide +kernel), List.mem_of_getElem? (i := 724) (by decide +kernel)⟩
theorem lw_p11 : lw_okq (⟨"AntLeaseModel", "readPart", "()Z"⟩, 32) := ⟨⟨by decide +kernel, by decide +kernel⟩, List.mem_of_getElem? (i := 599) (by decide +kernel), List.mem_of_getElem? (i := 727) (by decide +kernel), List.mem_of_getElem? (i := 728) (by decide +kernel)⟩
theorem lw_p12 : lw_okq (⟨"AntLeaseModel", "readOneFood", "()Z"⟩, 32) := ⟨⟨by decide +kernel, by decide +kernel⟩, List.mem_of_getElem? (i := 599) (by decide +kernel), List.mem_of_getElem? (i := 731) (by decide +kernel), List.mem_of_getElem? (i := 732) (by decide +kernel)⟩
theorem lw_p13 : lw_okq (⟨"AntLeaseModel", "readOneThing", "()Z"⟩, 32) := ⟨⟨by decide +kernel, by decide +kernel⟩, List.mem_of_getElem? (i := 599) (by decide +kernel), List.mem_of_getElem? (i := 735) (by decide +kernel), List.mem_of_getElem? (i := 736) (by decide +kernel)⟩
theorem lw_p14 : lw_okq (⟨"AntLeaseModel", "shortOf", "([I)I"⟩, 32) := ⟨⟨by decide +kernel, by decide +kernel⟩, List.mem_of_getElem? (i := 599) (by decide +kernel), List.mem_of_getElem? (i := 750) (by decide +kernel), List.mem_of_getElem? (i := 751) (by decide +kernel)⟩
theorem lw_p15 : lw_okq (⟨"AntLeaseModel", "worthOf", "([II)I"⟩, 32) := ⟨⟨by decide +kernel, by decide +kernel⟩, List.mem_of_getElem? (i := 599) (by decide +kernel), List.mem_of_getElem? (i := 754) (by decide +kernel), List.mem_of_getElem? (i := 755) (by decide +kernel)⟩
def lw_privs_1 : List (MethodName × Nat) := [(⟨"AntLease$House", "set", "(II)V"⟩, 1), (⟨"AntLease$House", "add", "(II)V"⟩, 1), (⟨"AntLease$House", "cell", "(I)I"⟩, 1), (⟨"AntLease$Past", "next", "()I"⟩, 3), (⟨"AntLease$House", "refusal", "(II)I"⟩, 1), (⟨"AntLease", "worthOfThose", "(I)I"⟩, 10), (⟨"AntLease$Said", "isSo", "(II)Z"⟩, 3), (⟨"AntLease", "pairsThatKeep", "(II)I"⟩, 10), (⟨"AntLease", "weighKnown", "(I)V"⟩, 10), (⟨"AntLeaseModel", "readManor", "()I"⟩, 32), (⟨"AntLeaseModel", "figure", "(I)I"⟩, 32), (⟨"AntLeaseModel", "readPart", "()Z"⟩, 32), (⟨"AntLeaseModel", "readOneFood", "()Z"⟩, 32), (⟨"AntLeaseModel", "readOneThing", "()Z"⟩, 32), (⟨"AntLeaseModel", "shortOf", "([I)I"⟩, 32), (⟨"AntLeaseModel", "worthOf", "([II)I"⟩, 32)]
theorem lw_r1 : ∀ q ∈ lw_privs_1, lw_okq q := List.forall_mem_cons.mpr ⟨lw_p0, List.forall_mem_cons.mpr ⟨lw_p1, List.forall_mem_cons.mpr ⟨lw_p2, List.forall_mem_cons.mpr ⟨lw_p3, List.forall_mem_cons.mpr ⟨lw_p4, List.forall_mem_cons.mpr ⟨lw_p5, List.forall_mem_cons.mpr ⟨lw_p6, List.forall_mem_cons.mpr ⟨lw_p7, List.forall_mem_cons.mpr ⟨lw_p8, List.forall_mem_cons.mpr ⟨lw_p9, List.forall_mem_cons.mpr ⟨lw_p10, List.forall_mem_cons.mpr ⟨lw_p11, List.forall_mem_cons.mpr ⟨lw_p12, List.forall_mem_cons.mpr ⟨lw_p13, List.forall_mem_cons.mpr ⟨lw_p14, List.forall_mem_cons.mpr ⟨lw_p15, fun _ h => absurd h List.not_mem_nil⟩⟩⟩⟩⟩⟩⟩⟩⟩⟩⟩⟩⟩⟩⟩⟩
theorem lw_p16 : lw_okq (⟨"AntLeaseModel", "worth", "([II)I"⟩, 32) := ⟨⟨by decide +kernel, by decide +kernel⟩, List.mem_of_getElem? (i := 599) (by decide +kernel), List.mem_of_getElem? (i := 761) (by decide +kernel), List.mem_of_getElem? (i := 762) (by decide +kernel)⟩
theorem lw_p17 : lw_okq (⟨"AntLeaseModel", "antsOf", "([I)I"⟩, 32) := ⟨⟨by decide +kernel, by decide +kernel⟩, List.mem_of_getElem? (i := 599) (by decide +kernel), List.mem_of_getElem? (i := 765) (by decide +kernel), List.mem_of_getElem? (i := 766) (by decide +kernel)⟩
theorem lw_p18 : lw_okq (⟨"AntLeaseModel", "known", "([I)I"⟩, 32) := ⟨⟨by decide +kernel, by decide +kernel⟩, List.mem_of_getElem? (i := 599) (by decide +kernel), List.mem_of_getElem? (i := 772) (by decide +kernel), List.mem_of_getElem? (i := 773) (by decide +kernel)⟩
theorem lw_p19 : lw_okq (⟨"AntLeaseModel", "noFood", "(I)Z"⟩, 32) := ⟨⟨by decide +kernel, by decide +kernel⟩, List.mem_of_getElem? (i := 599) (by decide +kernel), List.mem_of_getElem? (i := 780) (by decide +kernel), List.mem_of_getElem? (i := 781) (by decide +kernel)⟩
theorem lw_p20 : lw_okq (⟨"AntLeaseModel", "noThing", "(I)Z"⟩, 32) := ⟨⟨by decide +kernel, by decide +kernel⟩, List.mem_of_getElem? (i := 599) (by decide +kernel), List.mem_of_getElem? (i := 788) (by decide +kernel), List.mem_of_getElem? (i := 789) (by decide +kernel)⟩
theorem lw_p21 : lw_okq (⟨"AntLeaseModel", "astray", "(I)I"⟩, 32) := ⟨⟨by decide +kernel, by decide +kernel⟩, List.mem_of_getElem? (i := 599) (by decide +kernel), List.mem_of_getElem? (i := 792) (by decide +kernel), List.mem_of_getElem? (i := 793) (by decide +kernel)⟩
theorem lw_p22 : lw_okq (⟨"AntLeaseModel", "note", "()V"⟩, 32) := ⟨⟨by decide +kernel, by decide +kernel⟩, List.mem_of_getElem? (i := 599) (by decide +kernel), List.mem_of_getElem? (i := 803) (by decide +kernel), List.mem_of_getElem? (i := 804) (by decide +kernel)⟩
theorem lw_p23 : lw_okq (⟨"AntLeaseModel", "goQuarter", "([I)I"⟩, 32) := ⟨⟨by decide +kernel, by decide +kernel⟩, List.mem_of_getElem? (i := 599) (by decide +kernel), List.mem_of_getElem? (i := 807) (by decide +kernel), List.mem_of_getElem? (i := 808) (by decide +kernel)⟩
theorem lw_p24 : lw_okq (⟨"AntLeaseModel", "grains", "(II)I"⟩, 32) := ⟨⟨by decide +kernel, by decide +kernel⟩, List.mem_of_getElem? (i := 599) (by decide +kernel), List.mem_of_getElem? (i := 830) (by decide +kernel), List.mem_of_getElem? (i := 831) (by decide +kernel)⟩
theorem lw_p25 : lw_okq (⟨"AntLeaseModel", "goLeave", "([III)Z"⟩, 32) := ⟨⟨by decide +kernel, by decide +kernel⟩, List.mem_of_getElem? (i := 599) (by decide +kernel), List.mem_of_getElem? (i := 834) (by decide +kernel), List.mem_of_getElem? (i := 835) (by decide +kernel)⟩
theorem lw_p26 : lw_okq (⟨"AntLeaseModel", "begin", "()V"⟩, 32) := ⟨⟨by decide +kernel, by decide +kernel⟩, List.mem_of_getElem? (i := 599) (by decide +kernel), List.mem_of_getElem? (i := 859) (by decide +kernel), List.mem_of_getElem? (i := 860) (by decide +kernel)⟩
theorem lw_p27 : lw_okq (⟨"AntLeaseModel", "leaves", "(I)I"⟩, 32) := ⟨⟨by decide +kernel, by decide +kernel⟩, List.mem_of_getElem? (i := 599) (by decide +kernel), List.mem_of_getElem? (i := 870) (by decide +kernel), List.mem_of_getElem? (i := 871) (by decide +kernel)⟩
theorem lw_p28 : lw_okq (⟨"AntLeaseModel", "does", "(I)Z"⟩, 32) := ⟨⟨by decide +kernel, by decide +kernel⟩, List.mem_of_getElem? (i := 599) (by decide +kernel), List.mem_of_getElem? (i := 883) (by decide +kernel), List.mem_of_getElem? (i := 884) (by decide +kernel)⟩
theorem lw_p29 : lw_okq (⟨"AntLeaseModel", "moves", "(II)Z"⟩, 32) := ⟨⟨by decide +kernel, by decide +kernel⟩, List.mem_of_getElem? (i := 599) (by decide +kernel), List.mem_of_getElem? (i := 887) (by decide +kernel), List.mem_of_getElem? (i := 888) (by decide +kernel)⟩
theorem lw_p30 : lw_okq (⟨"AntLeaseModel", "sprinkles", "(I)Z"⟩, 32) := ⟨⟨by decide +kernel, by decide +kernel⟩, List.mem_of_getElem? (i := 599) (by decide +kernel), List.mem_of_getElem? (i := 891) (by decide +kernel), List.mem_of_getElem? (i := 892) (by decide +kernel)⟩
def lw_privs_2 : List (MethodName × Nat) := [(⟨"AntLeaseModel", "worth", "([II)I"⟩, 32), (⟨"AntLeaseModel", "antsOf", "([I)I"⟩, 32), (⟨"AntLeaseModel", "known", "([I)I"⟩, 32), (⟨"AntLeaseModel", "noFood", "(I)Z"⟩, 32), (⟨"AntLeaseModel", "noThing", "(I)Z"⟩, 32), (⟨"AntLeaseModel", "astray", "(I)I"⟩, 32), (⟨"AntLeaseModel", "note", "()V"⟩, 32), (⟨"AntLeaseModel", "goQuarter", "([I)I"⟩, 32), (⟨"AntLeaseModel", "grains", "(II)I"⟩, 32), (⟨"AntLeaseModel", "goLeave", "([III)Z"⟩, 32), (⟨"AntLeaseModel", "begin", "()V"⟩, 32), (⟨"AntLeaseModel", "leaves", "(I)I"⟩, 32), (⟨"AntLeaseModel", "does", "(I)Z"⟩, 32), (⟨"AntLeaseModel", "moves", "(II)Z"⟩, 32), (⟨"AntLeaseModel", "sprinkles", "(I)Z"⟩, 32)]
theorem lw_r2 : ∀ q ∈ lw_privs_2, lw_okq q := List.forall_mem_cons.mpr ⟨lw_p16, List.forall_mem_cons.mpr ⟨lw_p17, List.forall_mem_cons.mpr ⟨lw_p18, List.forall_mem_cons.mpr ⟨lw_p19, List.forall_mem_cons.mpr ⟨lw_p20, List.forall_mem_cons.mpr ⟨lw_p21, List.forall_mem_cons.mpr ⟨lw_p22, List.forall_mem_cons.mpr ⟨lw_p23, List.forall_mem_cons.mpr ⟨lw_p24, List.forall_mem_cons.mpr ⟨lw_p25, List.forall_mem_cons.mpr ⟨lw_p26, List.forall_mem_cons.mpr ⟨lw_p27, List.forall_mem_cons.mpr ⟨lw_p28, List.forall_mem_cons.mpr ⟨lw_p29, List.forall_mem_cons.mpr ⟨lw_p30, fun _ h => absurd h List.not_mem_nil⟩⟩⟩⟩⟩⟩⟩⟩⟩⟩⟩⟩⟩⟩⟩
def lw_privs : List (MethodName × Nat) := lw_privs_1 ++ (lw_privs_2)
def lw_tbl : List Cond := k2_sels lw_privs ++ tables_1
theorem lw_privs_ok : ∀ q ∈ lw_privs, lw_okq q := by
  show ∀ q ∈ lw_privs_1 ++ (lw_privs_2), lw_okq q
  exact List.forall_mem_append.mpr ⟨lw_r1, lw_r2⟩
-- ===== end of PART A; then your names; then what follows =====
end
section
/-! THE PURE MACHINE: a step function on indices of instructions, over a heap of numbered cells; fuel-free runs; all of my own -/
abbrev pm_CE : Type := (Nat × vp_A) ⊕ (Nat × List Value)
abbrev pm_HP : Type := List pm_CE
abbrev pm_LS : Type := List (Option Value)
abbrev pm_OP : Type := Nat × Instr × Nat × Nat × Value × List Nat × List (Int32 × Nat)
abbrev pm_R : Type := Option Value × pm_HP
abbrev pm_C : Type := Nat × pm_LS × List Value × pm_HP
abbrev pm_M : Type := MethodName × ByteArray × Nat × Option FieldType × List Nat × List pm_OP × List Nat
abbrev pm_X : Type := pm_C ⊕ Option pm_R
abbrev pm_K : Type := Nat → List Value → pm_HP → Option pm_R
def pm_ld (ls : pm_LS) (k : Nat) : Option Value := match ls[k]? with
  | some (some v) => some v
  | _ => none
def pm_in (i : Int32) (n : Nat) : Bool := decide (¬ (i < 0 ∨ n ≤ i.toNatClampNeg))
def pm_sw (k : Nat → pm_X) (x : Int32) (d : Nat) : List (Int32 × Nat) → pm_X
  | [] => k d
  | q :: r => if x = q.1 then k q.2 else pm_sw k x d r
def pm_bd (o : Option pm_R) (k : Option Value → pm_HP → pm_X) : pm_X := match o with
  | some q => k q.1 q.2
  | none => .inr none
def pm_ldI (i : Nat) (ls : pm_LS) (st : List Value) (hp : pm_HP) (k : Nat) : pm_X := match pm_ld ls k with
  | some (.int x) => .inl (i + 1, ls, .int x :: st, hp)
  | _ => .inr none
def pm_ldA (i : Nat) (ls : pm_LS) (st : List Value) (hp : pm_HP) (k : Nat) : pm_X := match pm_ld ls k with
  | some (.ref x) => .inl (i + 1, ls, .ref x :: st, hp)
  | _ => .inr none
def pm_ldL (i : Nat) (ls : pm_LS) (st : List Value) (hp : pm_HP) (k : Nat) : pm_X := match pm_ld ls k with
  | some (.long x) => .inl (i + 1, ls, .long x :: st, hp)
  | _ => .inr none
def pm_stI (i : Nat) (ls : pm_LS) (st : List Value) (hp : pm_HP) (k : Nat) : pm_X := match st with
  | .int x :: st => .inl (i + 1, ls.set k (some (.int x)), st, hp)
  | _ => .inr none
def pm_stL (i : Nat) (ls : pm_LS) (st : List Value) (hp : pm_HP) (k : Nat) : pm_X := match st with
  | .long x :: st => .inl (i + 1, (ls.set k (some (.long x))).set (k + 1) none, st, hp)
  | _ => .inr none
def pm_cI (i : Nat) (ls : pm_LS) (st : List Value) (hp : pm_HP) (v : Value) : pm_X := match v with
  | .int x => .inl (i + 1, ls, .int x :: st, hp)
  | _ => .inr none
def pm_cL (i : Nat) (ls : pm_LS) (st : List Value) (hp : pm_HP) (v : Value) : pm_X := match v with
  | .long x => .inl (i + 1, ls, .long x :: st, hp)
  | _ => .inr none
def pm_b2 (i : Nat) (ls : pm_LS) (st : List Value) (hp : pm_HP) (f : Int32 → Int32 → Int32) : pm_X := match st with
  | .int y :: .int x :: st => .inl (i + 1, ls, .int (f x y) :: st, hp)
  | _ => .inr none
def pm_d2 (i : Nat) (ls : pm_LS) (st : List Value) (hp : pm_HP) (f : Int32 → Int32 → Int32) : pm_X := match st with
  | .int y :: .int x :: st => if y = 0 then .inr none else .inl (i + 1, ls, .int (f x y) :: st, hp)
  | _ => .inr none
def pm_l2 (i : Nat) (ls : pm_LS) (st : List Value) (hp : pm_HP) (f : Int64 → Int64 → Int64) : pm_X := match st with
  | .long y :: .long x :: st => .inl (i + 1, ls, .long (f x y) :: st, hp)
  | _ => .inr none
def pm_e2 (i : Nat) (ls : pm_LS) (st : List Value) (hp : pm_HP) (f : Int64 → Int64 → Int64) : pm_X := match st with
  | .long y :: .long x :: st => if y = 0 then .inr none else .inl (i + 1, ls, .long (f x y) :: st, hp)
  | _ => .inr none
def pm_i1 (i : Nat) (ls : pm_LS) (st : List Value) (hp : pm_HP) (a : Nat) (f : Int32 → pm_X → pm_X → pm_X) : pm_X := match st with
  | .int x :: st => f x (.inl (a, ls, st, hp)) (.inl (i + 1, ls, st, hp))
  | _ => .inr none
def pm_i2 (i : Nat) (ls : pm_LS) (st : List Value) (hp : pm_HP) (a : Nat) (f : Int32 → Int32 → pm_X → pm_X → pm_X) : pm_X := match st with
  | .int y :: .int x :: st => f x y (.inl (a, ls, st, hp)) (.inl (i + 1, ls, st, hp))
  | _ => .inr none
def pm_gf (i : Nat) (ls : pm_LS) (st : List Value) (hp : pm_HP) (a : Nat) (aux : List Nat) : pm_X := match st with
  | .ref o :: st => (match hp[o]? with
    | some (.inr q) => if q.1 = aux.getD 0 0 then (match q.2[a]? with
      | some v => .inl (i + 1, ls, v :: st, hp)
      | none => .inr none) else .inr none
    | _ => .inr none)
  | _ => .inr none
def pm_pf (i : Nat) (ls : pm_LS) (st : List Value) (hp : pm_HP) (a : Nat) (v : Value) (aux : List Nat) : pm_X := match st with
  | .int x :: .ref o :: st => (match v with
    | .int _ => (match hp[o]? with
      | some (.inr q) => if q.1 = aux.getD 0 0 ∧ a < q.2.length then .inl (i + 1, ls, st, hp.set o (.inr (q.1, q.2.set a (.int x)))) else .inr none
      | _ => .inr none)
    | _ => .inr none)
  | .long x :: .ref o :: st => (match v with
    | .long _ => (match hp[o]? with
      | some (.inr q) => if q.1 = aux.getD 0 0 ∧ a < q.2.length then .inl (i + 1, ls, st, hp.set o (.inr (q.1, q.2.set a (.long x)))) else .inr none
      | _ => .inr none)
    | _ => .inr none)
  | _ => .inr none
def pm_al (i : Nat) (ls : pm_LS) (st : List Value) (hp : pm_HP) (t : Nat) : pm_X := match st with
  | .int j :: .ref o :: st => (match hp[o]? with
    | some (.inl (t0, n, .inl f)) => if t0 = t ∧ pm_in j n = true then .inl (i + 1, ls, .int (f j.toNatClampNeg) :: st, hp) else .inr none
    | _ => .inr none)
  | _ => .inr none
def pm_as (i : Nat) (ls : pm_LS) (st : List Value) (hp : pm_HP) (t : Nat) (g : Int32 → Int32) : pm_X := match st with
  | .int x :: .int j :: .ref o :: st => (match hp[o]? with
    | some (.inl (t0, n, .inl f)) => if t0 = t ∧ pm_in j n = true then .inl (i + 1, ls, st, hp.set o (.inl (t, n, .inl (upd f j.toNatClampNeg (g x))))) else .inr none
    | _ => .inr none)
  | _ => .inr none
def pm_len (i : Nat) (ls : pm_LS) (st : List Value) (hp : pm_HP) : pm_X := match st with
  | .ref o :: st => (match hp[o]? with
    | some (.inl (t0, n, _)) => if t0 < 2 then .inl (i + 1, ls, .int (Int32.ofNat n) :: st, hp) else .inr none
    | _ => .inr none)
  | _ => .inr none
def pm_cp (i : Nat) (ls : pm_LS) (st : List Value) (hp : pm_HP) : pm_X := match st with
  | .int n :: .int dp :: .ref d :: .int sp :: .ref o :: st => (match hp[o]? with
    | some (.inl (0, n0, .inl f)) => (match hp[d]? with
      | some (.inl (0, n1, .inl g)) => if ¬ sp < 0 ∧ ¬ dp < 0 ∧ ¬ n < 0 ∧ sp.toNatClampNeg + n.toNatClampNeg ≤ n0 ∧ dp.toNatClampNeg + n.toNatClampNeg ≤ n1 ∧ st.length ≤ 4 then
          .inl (i + 1, ls, st, hp.set d (.inl (0, n1, .inl (va_cpy f g sp.toNatClampNeg dp.toNatClampNeg n.toNatClampNeg)))) else .inr none
      | _ => .inr none)
    | _ => .inr none)
  | _ => .inr none
def pm_iv (call : pm_K) (i : Nat) (ls : pm_LS) (st : List Value) (hp : pm_HP) (a : Nat) (aux : List Nat) : pm_X := match st.drop (aux.getD 0 0) with
  | .ref o :: rest => (match hp[o]? with
    | some (.inr q) => if q.1 = aux.getD 1 0 ∧ rest.length ≤ 4 then pm_bd (call a (.ref o :: (st.take (aux.getD 0 0)).reverse) hp) (fun r hp2 => .inl (i + 1, ls, r.toList ++ rest, hp2)) else .inr none
    | _ => .inr none)
  | _ => .inr none
def pm_is (call : pm_K) (i : Nat) (ls : pm_LS) (st : List Value) (hp : pm_HP) (a : Nat) (aux : List Nat) : pm_X :=
  if aux.getD 0 0 ≤ st.length ∧ (st.drop (aux.getD 0 0)).length ≤ 4 then pm_bd (call a ((st.take (aux.getD 0 0)).reverse) hp) (fun r hp2 => .inl (i + 1, ls, r.toList ++ st.drop (aux.getD 0 0), hp2)) else .inr none
def pm_mx (i : Nat) (ls : pm_LS) (st : List Value) (hp : pm_HP) (k : Nat) : pm_X := match st with
  | .int y :: .int x :: st => if st.length ≤ 4 then (if k = 1 then .inl (i + 1, ls, .int (if x < y then y else x) :: st, hp) else if k = 2 then .inl (i + 1, ls, .int (if y < x then y else x) :: st, hp) else .inr none) else .inr none
  | _ => .inr none
def pm_ab (i : Nat) (ls : pm_LS) (st : List Value) (hp : pm_HP) : pm_X := match st with
  | .int x :: st => if st.length ≤ 4 then .inl (i + 1, ls, .int (if 0 ≤ x then x else 0 - x) :: st, hp) else .inr none
  | _ => .inr none
def pm_rz (ret : Option FieldType) (x : Int32) : Bool := match ret with
  | some .int => true
  | some .boolean => decide (narrow .boolean (.int x) = .int x)
  | _ => false
def pm_ng (i : Nat) (ls : pm_LS) (st : List Value) (hp : pm_HP) : pm_X := match st with
  | .int x :: st => .inl (i + 1, ls, .int (-x) :: st, hp)
  | _ => .inr none
def pm_lu (i : Nat) (ls : pm_LS) (st : List Value) (hp : pm_HP) : pm_X := match st with
  | .int y :: .long x :: st => .inl (i + 1, ls, .long (x.toUInt64 >>> (y.toInt64.toUInt64 &&& Int64.toUInt64 63)).toInt64 :: st, hp)
  | _ => .inr none
def pm_il (i : Nat) (ls : pm_LS) (st : List Value) (hp : pm_HP) : pm_X := match st with
  | .int x :: st => .inl (i + 1, ls, .long x.toInt64 :: st, hp)
  | _ => .inr none
def pm_li (i : Nat) (ls : pm_LS) (st : List Value) (hp : pm_HP) : pm_X := match st with
  | .long x :: st => .inl (i + 1, ls, .int x.toInt32 :: st, hp)
  | _ => .inr none
def pm_lc (i : Nat) (ls : pm_LS) (st : List Value) (hp : pm_HP) : pm_X := match st with
  | .long y :: .long x :: st => .inl (i + 1, ls, .int (lg_cmp x y) :: st, hp)
  | _ => .inr none
def pm_ii (i : Nat) (ls : pm_LS) (st : List Value) (hp : pm_HP) (k : Nat) (v : Value) : pm_X := match pm_ld ls k with
  | some (.int x) => (match v with
    | .int y => .inl (i + 1, ls.set k (some (.int (x + y))), st, hp)
    | _ => .inr none)
  | _ => .inr none
def pm_ts (ls : pm_LS) (st : List Value) (hp : pm_HP) (a : Nat) (sw : List (Int32 × Nat)) : pm_X := match st with
  | .int x :: st => pm_sw (fun t => .inl (t, ls, st, hp)) x a sw
  | _ => .inr none
def pm_du (i : Nat) (ls : pm_LS) (st : List Value) (hp : pm_HP) : pm_X := match st with
  | .int x :: st => .inl (i + 1, ls, .int x :: .int x :: st, hp)
  | .ref x :: st => .inl (i + 1, ls, .ref x :: .ref x :: st, hp)
  | _ => .inr none
def pm_dd (i : Nat) (ls : pm_LS) (st : List Value) (hp : pm_HP) : pm_X := match st with
  | .int x :: .ref y :: st => .inl (i + 1, ls, .int x :: .ref y :: .int x :: .ref y :: st, hp)
  | .long x :: st => .inl (i + 1, ls, .long x :: .long x :: st, hp)
  | _ => .inr none
def pm_po (i : Nat) (ls : pm_LS) (st : List Value) (hp : pm_HP) : pm_X := match st with
  | .int _ :: st => .inl (i + 1, ls, st, hp)
  | _ => .inr none
def pm_ri (ret : Option FieldType) (st : List Value) (hp : pm_HP) : pm_X := match st with
  | [.int x] => if pm_rz ret x = true then .inr (some (some (.int x), hp)) else .inr none
  | _ => .inr none
def pm_rl (ret : Option FieldType) (st : List Value) (hp : pm_HP) : pm_X := match st with
  | [.long x] => if ret = some .long then .inr (some (some (.long x), hp)) else .inr none
  | _ => .inr none
def pm_rv (ret : Option FieldType) (st : List Value) (hp : pm_HP) : pm_X := match st with
  | [] => if ret = none then .inr (some (none, hp)) else .inr none
  | _ => .inr none
def pm_act (call : pm_K) (ret : Option FieldType) (i : Nat) (ls : pm_LS) (st : List Value) (hp : pm_HP) (op : pm_OP) : pm_X := match op with
    | (_, ins, _, a, v, aux, sw) => match ins with
      | .iload k => pm_ldI i ls st hp k
      | .iload_n k => pm_ldI i ls st hp k
      | .aload k => pm_ldA i ls st hp k
      | .aload_n k => pm_ldA i ls st hp k
      | .lload k => pm_ldL i ls st hp k
      | .lload_n k => pm_ldL i ls st hp k
      | .istore k => pm_stI i ls st hp k
      | .istore_n k => pm_stI i ls st hp k
      | .lstore k => pm_stL i ls st hp k
      | .lstore_n k => pm_stL i ls st hp k
      | .iconst _ => pm_cI i ls st hp v
      | .bipush _ => pm_cI i ls st hp v
      | .sipush _ => pm_cI i ls st hp v
      | .ldc_w _ => pm_cI i ls st hp v
      | .lconst _ => pm_cL i ls st hp v
      | .ldc2_w _ => pm_cL i ls st hp v
      | .iadd => pm_b2 i ls st hp (fun x y => x + y)
      | .isub => pm_b2 i ls st hp (fun x y => x - y)
      | .imul => pm_b2 i ls st hp (fun x y => x * y)
      | .iand => pm_b2 i ls st hp (fun x y => x &&& y)
      | .ior => pm_b2 i ls st hp (fun x y => x ||| y)
      | .ishl => pm_b2 i ls st hp (fun x y => x <<< (y &&& 31))
      | .ishr => pm_b2 i ls st hp (fun x y => x >>> (y &&& 31))
      | .iushr => pm_b2 i ls st hp (fun x y => (x.toUInt32 >>> (y.toUInt32 &&& Int32.toUInt32 31)).toInt32)
      | .idiv => pm_d2 i ls st hp (fun x y => x / y)
      | .irem => pm_d2 i ls st hp (fun x y => x - x / y * y)
      | .ineg => pm_ng i ls st hp
      | .ladd => pm_l2 i ls st hp (fun x y => x + y)
      | .lsub => pm_l2 i ls st hp (fun x y => x - y)
      | .lmul => pm_l2 i ls st hp (fun x y => x * y)
      | .ldiv => pm_e2 i ls st hp (fun x y => x / y)
      | .lrem => pm_e2 i ls st hp (fun x y => x - x / y * y)
      | .lushr => pm_lu i ls st hp
      | .i2l => pm_il i ls st hp
      | .l2i => pm_li i ls st hp
      | .lcmp => pm_lc i ls st hp
      | .goto _ => .inl (a, ls, st, hp)
      | .ifCond .eq _ => pm_i1 i ls st hp a (fun x t f => if x = 0 then t else f)
      | .ifCond .ne _ => pm_i1 i ls st hp a (fun x t f => if x = 0 then f else t)
      | .ifCond .lt _ => pm_i1 i ls st hp a (fun x t f => if x < 0 then t else f)
      | .ifCond .ge _ => pm_i1 i ls st hp a (fun x t f => if x < 0 then f else t)
      | .ifCond .gt _ => pm_i1 i ls st hp a (fun x t f => if 0 < x then t else f)
      | .ifCond .le _ => pm_i1 i ls st hp a (fun x t f => if 0 < x then f else t)
      | .if_icmp .eq _ => pm_i2 i ls st hp a (fun x y t f => if x = y then t else f)
      | .if_icmp .ne _ => pm_i2 i ls st hp a (fun x y t f => if x = y then f else t)
      | .if_icmp .lt _ => pm_i2 i ls st hp a (fun x y t f => if x < y then t else f)
      | .if_icmp .ge _ => pm_i2 i ls st hp a (fun x y t f => if x < y then f else t)
      | .if_icmp .gt _ => pm_i2 i ls st hp a (fun x y t f => if y < x then t else f)
      | .if_icmp .le _ => pm_i2 i ls st hp a (fun x y t f => if y < x then f else t)
      | .iinc k _ => pm_ii i ls st hp k v
      | .tableswitch _ _ _ _ => pm_ts ls st hp a sw
      | .lookupswitch _ _ => pm_ts ls st hp a sw
      | .dup => pm_du i ls st hp
      | .dup2 => pm_dd i ls st hp
      | .pop => pm_po i ls st hp
      | .getfield _ => pm_gf i ls st hp a aux
      | .putfield _ => pm_pf i ls st hp a v aux
      | .iaload => pm_al i ls st hp 0
      | .baload => pm_al i ls st hp 1
      | .iastore => pm_as i ls st hp 0 (fun x => x)
      | .bastore => pm_as i ls st hp 1 (fun x => vp_nar .boolean x)
      | .arraylength => pm_len i ls st hp
      | .invokevirtual _ => pm_iv call i ls st hp a aux
      | .invokestatic _ => (match v with
        | .null => pm_cp i ls st hp
        | .ref k => pm_mx i ls st hp k
        | .float _ => pm_ab i ls st hp
        | _ => pm_is call i ls st hp a aux)
      | .ireturn => pm_ri ret st hp
      | .lreturn => pm_rl ret st hp
      | .return_ => pm_rv ret st hp
      | _ => .inr none
def pm_step (call : pm_K) (ret : Option FieldType) (ops : List pm_OP) (c : pm_C) : pm_X := match ops[c.1]? with
  | none => .inr none
  | some op => pm_act call ret c.1 c.2.1 c.2.2.1 c.2.2.2 op
theorem pm_step_some {call : pm_K} {ret : Option FieldType} {ops : List pm_OP} {i : Nat} {ls : pm_LS} {st : List Value} {hp : pm_HP} {op : pm_OP} (h : ops[i]? = some op) : pm_step call ret ops (i, ls, st, hp) = pm_act call ret i ls st hp op := by
  unfold pm_step
  rw [show (i, ls, st, hp).1 = i from rfl, h]
theorem pm_step_none {call : pm_K} {ret : Option FieldType} {ops : List pm_OP} {i : Nat} {ls : pm_LS} {st : List Value} {hp : pm_HP} (h : ops[i]? = none) : pm_step call ret ops (i, ls, st, hp) = .inr none := by
  unfold pm_step
  rw [show (i, ls, st, hp).1 = i from rfl, h]
def pm_ev (call : pm_K) (ret : Option FieldType) (ops : List pm_OP) : Nat → pm_C → Option pm_R
  | 0, _ => none
  | n + 1, c => match pm_step call ret ops c with
    | .inl c2 => pm_ev call ret ops n c2
    | .inr r => r
theorem pm_ev_up {call : pm_K} {ret : Option FieldType} {ops : List pm_OP} : ∀ (n : Nat) (c : pm_C) (r : pm_R), pm_ev call ret ops n c = some r → pm_ev call ret ops (n + 1) c = some r
  | 0, _, _, h => by cases h
  | n + 1, c, r, h => by
    rw [pm_ev] at h ⊢
    cases hs : pm_step call ret ops c with
    | inl c2 => rw [hs] at h; exact pm_ev_up n c2 r h
    | inr x => rw [hs] at h; exact h
theorem pm_ev_le {call : pm_K} {ret : Option FieldType} {ops : List pm_OP} {n : Nat} {c : pm_C} {r : pm_R} (h : pm_ev call ret ops n c = some r) : ∀ k, pm_ev call ret ops (n + k) c = some r
  | 0 => h
  | k + 1 => pm_ev_up _ _ _ (pm_ev_le h k)
theorem pm_ev_one {call : pm_K} {ret : Option FieldType} {ops : List pm_OP} {n k : Nat} {c : pm_C} {r q : pm_R} (h : pm_ev call ret ops n c = some r) (h2 : pm_ev call ret ops k c = some q) : r = q := by
  have a := pm_ev_le h k
  have b := pm_ev_le h2 n
  rw [Nat.add_comm] at b
  rw [a] at b
  exact Option.some.inj b
noncomputable def pm_EV (call : pm_K) (ret : Option FieldType) (ops : List pm_OP) (c : pm_C) : Option pm_R :=
  @dite (Option pm_R) (∃ n, (pm_ev call ret ops n c).isSome = true) (Classical.propDecidable _) (fun h => pm_ev call ret ops h.choose c) (fun _ => none)
theorem pm_EV_of {call : pm_K} {ret : Option FieldType} {ops : List pm_OP} {c : pm_C} {n : Nat} {r : pm_R} (h : pm_ev call ret ops n c = some r) : pm_EV call ret ops c = some r := by
  have hx : ∃ n, (pm_ev call ret ops n c).isSome = true := ⟨n, by rw [h]; rfl⟩
  unfold pm_EV
  rw [dif_pos hx]
  have h1 := hx.choose_spec
  cases hq : pm_ev call ret ops hx.choose c with
  | none => rw [hq] at h1; cases h1
  | some q => rw [pm_ev_one hq h]
theorem pm_EV_to {call : pm_K} {ret : Option FieldType} {ops : List pm_OP} {c : pm_C} {r : pm_R} (h : pm_EV call ret ops c = some r) : ∃ n, pm_ev call ret ops n c = some r := by
  unfold pm_EV at h
  by_cases hx : ∃ n, (pm_ev call ret ops n c).isSome = true
  · rw [dif_pos hx] at h
    exact ⟨_, h⟩
  · rw [dif_neg hx] at h
    cases h
noncomputable def pm_res (call : pm_K) (ret : Option FieldType) (ops : List pm_OP) (x : pm_X) : Option pm_R := match x with
  | .inl c => pm_EV call ret ops c
  | .inr r => r
theorem pm_EV_eq (call : pm_K) (ret : Option FieldType) (ops : List pm_OP) (c : pm_C) : pm_EV call ret ops c = pm_res call ret ops (pm_step call ret ops c) := by
  apply Option.ext
  intro r
  constructor
  · intro h
    obtain ⟨n, hn⟩ := pm_EV_to h
    cases n with
    | zero => cases hn
    | succ n =>
      rw [pm_ev] at hn
      cases hs : pm_step call ret ops c with
      | inl c2 => rw [hs] at hn; exact pm_EV_of hn
      | inr x => rw [hs] at hn; exact hn
  · intro h
    cases hs : pm_step call ret ops c with
    | inl c2 =>
      rw [hs] at h
      obtain ⟨n, hn⟩ := pm_EV_to (show pm_EV call ret ops c2 = some r from h)
      exact pm_EV_of (n := n + 1) (by rw [pm_ev, hs]; exact hn)
    | inr x =>
      rw [hs] at h
      exact pm_EV_of (n := 1) (by rw [pm_ev, hs]; exact h)
def pm_go (call : pm_K) (ret : Option FieldType) (ops : List pm_OP) : Nat → pm_C → Option pm_C
  | 0, c => some c
  | n + 1, c => match pm_step call ret ops c with
    | .inl c2 => pm_go call ret ops n c2
    | .inr _ => none
theorem pm_EV_go {call : pm_K} {ret : Option FieldType} {ops : List pm_OP} : ∀ (n : Nat) {c d : pm_C}, pm_go call ret ops n c = some d → pm_EV call ret ops c = pm_EV call ret ops d
  | 0, c, d, h => by cases h; rfl
  | n + 1, c, d, h => by
    rw [pm_go] at h
    rw [pm_EV_eq]
    cases hs : pm_step call ret ops c with
    | inl c2 => rw [hs] at h; exact pm_EV_go n h
    | inr x => rw [hs] at h; cases h
theorem pm_res_if {call : pm_K} {ret : Option FieldType} {ops : List pm_OP} {q : Prop} {dq : Decidable q} {a b : pm_X} : pm_res call ret ops (@ite _ q dq a b) = @ite _ q dq (pm_res call ret ops a) (pm_res call ret ops b) := by
  cases dq <;> rfl
/-- k plain steps, then one whose outcome is x -/
theorem pm_EV_at {call : pm_K} {ret : Option FieldType} {ops : List pm_OP} (n : Nat) {c d : pm_C} {x : pm_X} (h : pm_go call ret ops n c = some d) (h2 : pm_step call ret ops d = x) : pm_EV call ret ops c = pm_res call ret ops x := by
  rw [pm_EV_go n h, pm_EV_eq, h2]
theorem pm_EV_if {call : pm_K} {ret : Option FieldType} {ops : List pm_OP} (n : Nat) {c d c1 c2 : pm_C} {q : Prop} {dq : Decidable q} (h : pm_go call ret ops n c = some d) (h2 : pm_step call ret ops d = @ite _ q dq (.inl c1) (.inl c2)) : pm_EV call ret ops c = @ite _ q dq (pm_EV call ret ops c1) (pm_EV call ret ops c2) := by
  rw [pm_EV_at n h h2, pm_res_if]
  rfl
theorem pm_EV_gd {call : pm_K} {ret : Option FieldType} {ops : List pm_OP} (n : Nat) {c d c1 : pm_C} {q : Prop} {dq : Decidable q} (h : pm_go call ret ops n c = some d) (h2 : pm_step call ret ops d = @ite _ q dq (.inl c1) (.inr none)) (hq : q) : pm_EV call ret ops c = pm_EV call ret ops c1 := by
  rw [pm_EV_at n h h2, if_pos hq]
  rfl
theorem pm_EV_nz {call : pm_K} {ret : Option FieldType} {ops : List pm_OP} (n : Nat) {c d c1 : pm_C} {q : Prop} {dq : Decidable q} (h : pm_go call ret ops n c = some d) (h2 : pm_step call ret ops d = @ite _ q dq (.inr none) (.inl c1)) (hq : ¬ q) : pm_EV call ret ops c = pm_EV call ret ops c1 := by
  rw [pm_EV_at n h h2, if_neg hq]
  rfl
theorem pm_EV_call {call : pm_K} {ret : Option FieldType} {ops : List pm_OP} (n : Nat) {c d : pm_C} {a : Nat} {as : List Value} {hp : pm_HP} {k : Option Value → pm_HP → pm_X} {q : pm_R} (h : pm_go call ret ops n c = some d) (h2 : pm_step call ret ops d = pm_bd (call a as hp) k) (hq : call a as hp = some q) : pm_EV call ret ops c = pm_res call ret ops (k q.1 q.2) := by
  rw [pm_EV_at n h h2, hq]
  rfl
def pm_ent : List Value → pm_LS
  | [] => []
  | .long x :: r => some (.long x) :: none :: pm_ent r
  | v :: r => some v :: pm_ent r
def pm_aok (L : List Nat) : Nat → List Value → Bool
  | _, [] => true
  | i, .int _ :: r => pm_aok L (i + 1) r
  | i, .ref _ :: r => pm_aok L (i + 1) r
  | i, .long _ :: r => L.contains i && pm_aok L (i + 2) r
  | _, _ => false
noncomputable def pm_run (mt : List pm_M) : Nat → pm_K
  | 0 => fun _ _ _ => none
  | d + 1 => fun k as hp => match mt[k]? with
    | none => none
    | some M => if pm_aok M.2.2.2.2.1 0 as = true ∧ (pm_ent as).length ≤ M.2.2.1 then
        pm_EV (pm_run mt d) M.2.2.2.1 M.2.2.2.2.2.1 (0, pm_ent as ++ List.replicate (M.2.2.1 - (pm_ent as).length) none, [], hp) else none
end
section
/-! THE PURE MACHINE IS RIGHT: what it answers, the machine answers -/
def pm_pc (ops : List pm_OP) (i : Nat) : Nat := match ops[i]? with
  | some op => op.1
  | none => 0
def pm_vm (ad : Nat → Nat) (v : Value) : Value := match v with
  | .ref i => .ref (ad i)
  | v => v
theorem pm_vm_cat (ad : Nat → Nat) (v : Value) : (pm_vm ad v).category = v.category := by cases v <;> rfl
def pm_ce (ad : Nat → Nat) (cA : Nat → ClassId) (x : pm_CE) : va_E := match x with
  | .inl a => .inl (cA a.1, a.2)
  | .inr o => .inr (o.1, o.2.map (pm_vm ad))
def pm_ws (ad : Nat → Nat) (cA : Nat → ClassId) (hp : pm_HP) : va_W := hp.mapIdx (fun i x => (ad i, pm_ce ad cA x))
theorem pm_ws_at {ad : Nat → Nat} {cA : Nat → ClassId} {hp : pm_HP} {i : Nat} {x : pm_CE} (h : hp[i]? = some x) : (pm_ws ad cA hp)[i]? = some (ad i, pm_ce ad cA x) := by
  rw [pm_ws, List.getElem?_mapIdx, h]
  rfl
theorem pm_ws_set {ad : Nat → Nat} {cA : Nat → ClassId} {hp : pm_HP} {i : Nat} {x : pm_CE} : (pm_ws ad cA hp).set i (ad i, pm_ce ad cA x) = pm_ws ad cA (hp.set i x) := by
  apply List.ext_getElem?
  intro j
  rw [pm_ws, pm_ws, List.getElem?_mapIdx]
  by_cases hj : i = j
  · subst hj
    rw [List.getElem?_set_self', List.getElem?_set_self', List.getElem?_mapIdx]
    cases hp[i]? <;> rfl
  · rw [List.getElem?_set_ne hj, List.getElem?_set_ne hj, List.getElem?_mapIdx]
def pm_A (ad : Nat → Nat) (N sz : Nat) : Nat → Prop := fun q => (∃ i, i < N ∧ q = ad i) ∨ sz ≤ q
theorem pm_D {ad : Nat → Nat} {cA : Nat → ClassId} {hp : pm_HP} {N : Nat} (sz : Nat) (hN : hp.length = N) (hinj : ∀ i j, i < N → j < N → ad i = ad j → i = j) : va_D (pm_A ad N sz) (pm_ws ad cA hp) := by
  have key : ∀ (k : Nat) (q : Nat × va_E), (pm_ws ad cA hp)[k]? = some q → k < N ∧ q.1 = ad k := by
    intro k q hk
    rw [pm_ws, List.getElem?_mapIdx] at hk
    cases hx : hp[k]? with
    | none => rw [hx] at hk; cases hk
    | some x =>
      rw [hx] at hk
      cases hk
      exact ⟨hN ▸ (List.getElem?_eq_some_iff.mp hx).1, rfl⟩
  refine ⟨fun i j x y hi hj hxy => ?_, fun k q hk => ?_⟩
  · obtain ⟨a1, a2⟩ := key i x hi
    obtain ⟨b1, b2⟩ := key j y hj
    exact hinj i j a1 b1 (by rw [← a2, ← b2, hxy])
  · obtain ⟨a1, a2⟩ := key k q hk
    exact Or.inl ⟨k, a1, a2⟩
def pm_tys (cA : Nat → ClassId) : List (ClassId × FieldType) := [(cA 0, .int), (cA 1, .boolean)]
abbrev pm_N : Type := String × Nat × MethodName × String
def pm_NW (nst : List pm_N) (U : State) : Prop := ∀ q ∈ nst, va_Nw (.methodLinkNest q.1 q.2.1 q.2.2.1 q.2.2.2) U
/-- locals -/
def pm_LR (ls : Array Slot) (nL : Nat) (L : List Nat) (ad : Nat → Nat) (pl : pm_LS) : Prop := ls.size = nL ∧ lv_wf ls ∧ pl.length = nL ∧ ∀ (j : Nat) (v : Value), pl[j]? = some (some v) → ls[j]? = some (.val (pm_vm ad v)) ∧ (v.category = 2 → j ∈ L)
theorem pm_LR.ld {ls : Array Slot} {nL : Nat} {L : List Nat} {ad : Nat → Nat} {pl : pm_LS} (h : pm_LR ls nL L ad pl) {k : Nat} {v : Value} (hk : pm_ld pl k = some v) : ls[k]? = some (.val (pm_vm ad v)) := by
  have : pl[k]? = some (some v) := by
    unfold pm_ld at hk
    split at hk
    · rename_i w hw; cases hk; exact hw
    · cases hk
  exact (h.2.2.2 k v this).1
def pm_lv (ad : Nat → Nat) (pl : pm_LS) : List (Nat × Value) := (List.range pl.length).filterMap (fun j => match pl[j]? with
  | some (some v) => some (j, pm_vm ad v)
  | _ => none)
theorem pm_lv_mem {ad : Nat → Nat} {pl : pm_LS} {j : Nat} {v : Value} (h : pl[j]? = some (some v)) : (j, pm_vm ad v) ∈ pm_lv ad pl := by
  refine List.mem_filterMap.mpr ⟨j, List.mem_range.mpr (List.getElem?_eq_some_iff.mp h).1, ?_⟩
  rw [h]
theorem pm_lv_of {ad : Nat → Nat} {pl : pm_LS} {q : Nat × Value} (h : q ∈ pm_lv ad pl) : ∃ v, pl[q.1]? = some (some v) ∧ q.2 = pm_vm ad v := by
  obtain ⟨j, -, hj⟩ := List.mem_filterMap.mp h
  split at hj
  · rename_i v hv; cases hj; exact ⟨v, hv, rfl⟩
  · cases hj
theorem pm_LR.has {ls : Array Slot} {nL : Nat} {L : List Nat} {ad : Nat → Nat} {pl : pm_LS} (h : pm_LR ls nL L ad pl) : lv_has ls nL (pm_lv ad pl) := by
  refine ⟨h.1, h.2.1, fun q hq => ?_⟩
  obtain ⟨v, h1, h2⟩ := pm_lv_of hq
  rw [h2]
  exact (h.2.2.2 _ v h1).1
def pm_oks (nL : Nat) (L : List Nat) (k : Nat) : Bool := decide (k < nL) && L.all (fun j => decide (k ≠ j) && decide (k ≠ j + 1))
def pm_okl (nL : Nat) (L : List Nat) (k : Nat) : Bool := decide (k + 1 < nL) && (L.contains k && L.all (fun j => decide (k ≠ j + 1)))
theorem pm_LR.st1 {ls ls2 : Array Slot} {nL : Nat} {L : List Nat} {ad : Nat → Nat} {pl : pm_LS} {k : Nat} {v : Value} (h : pm_LR ls nL L ad pl) (hk : pm_oks nL L k = true) (hv : v.category = 1)
    (h2 : lv_has ls2 nL ((k, pm_vm ad v) :: (pm_lv ad pl).filter (fun q => !(q.1 == k) && !(q.1 + 1 == k && q.2.category == 2)))) : pm_LR ls2 nL L ad (pl.set k (some v)) := by
  unfold pm_oks at hk
  simp only [Bool.and_eq_true, decide_eq_true_eq, List.all_eq_true] at hk
  refine ⟨h2.1, h2.2.1, by rw [List.length_set]; exact h.2.2.1, fun j w hj => ?_⟩
  by_cases hjk : k = j
  · subst hjk
    rw [List.getElem?_set_self (by rw [h.2.2.1]; exact hk.1)] at hj
    cases hj
    exact ⟨h2.2.2 (k, pm_vm ad v) List.mem_cons_self, fun hc => by omega⟩
  · rw [List.getElem?_set_ne hjk] at hj
    refine ⟨h2.2.2 (j, pm_vm ad w) (List.mem_cons_of_mem _ (List.mem_filter.mpr ⟨pm_lv_mem hj, ?_⟩)), (h.2.2.2 j w hj).2⟩
    have h3 := (h.2.2.2 j w hj).2
    simp only [Bool.and_eq_true, Bool.not_eq_true', beq_eq_false_iff_ne, ne_eq, Bool.and_eq_false_iff, pm_vm_cat]
    refine ⟨fun z => hjk z.symm, ?_⟩
    by_cases hc : w.category = 2
    · exact Or.inl (fun z => (hk.2 j (h3 hc)).2 z.symm)
    · exact Or.inr hc
theorem pm_LR.st2 {ls ls2 : Array Slot} {nL : Nat} {L : List Nat} {ad : Nat → Nat} {pl : pm_LS} {k : Nat} {v : Value} (h : pm_LR ls nL L ad pl) (hk : pm_okl nL L k = true)
    (h2 : lv_has ls2 nL ((k, pm_vm ad v) :: (pm_lv ad pl).filter (fun q => !(q.1 == k) && (!(q.1 == k + 1) && !(q.1 + 1 == k && q.2.category == 2))))) : pm_LR ls2 nL L ad ((pl.set k (some v)).set (k + 1) none) := by
  unfold pm_okl at hk
  simp only [Bool.and_eq_true, decide_eq_true_eq, List.all_eq_true, List.contains_iff_mem] at hk
  refine ⟨h2.1, h2.2.1, by rw [List.length_set, List.length_set]; exact h.2.2.1, fun j w hj => ?_⟩
  by_cases hj1 : k + 1 = j
  · subst hj1
    rw [List.getElem?_set_self (by rw [List.length_set, h.2.2.1]; exact hk.1)] at hj
    cases hj
  · rw [List.getElem?_set_ne hj1] at hj
    by_cases hjk : k = j
    · subst hjk
      rw [List.getElem?_set_self (by rw [h.2.2.1]; omega)] at hj
      cases hj
      exact ⟨h2.2.2 (k, pm_vm ad v) List.mem_cons_self, fun _ => hk.2.1⟩
    · rw [List.getElem?_set_ne hjk] at hj
      refine ⟨h2.2.2 (j, pm_vm ad w) (List.mem_cons_of_mem _ (List.mem_filter.mpr ⟨pm_lv_mem hj, ?_⟩)), (h.2.2.2 j w hj).2⟩
      have h3 := (h.2.2.2 j w hj).2
      simp only [Bool.and_eq_true, Bool.not_eq_true', beq_eq_false_iff_ne, ne_eq, Bool.and_eq_false_iff, pm_vm_cat]
      refine ⟨fun z => hjk z.symm, fun z => hj1 z.symm, ?_⟩
      by_cases hc : w.category = 2
      · exact Or.inl (fun z => hk.2.2 j (h3 hc) z.symm)
      · exact Or.inr hc
/-- entry -/
theorem pm_ent_args {ad : Nat → Nat} {L : List Nat} : ∀ (as : List Value) (i : Nat), pm_aok L i as = true →
    (lg_sl (as.map (pm_vm ad))).length = (pm_ent as).length ∧ ∀ (j : Nat) (v : Value), (pm_ent as)[j]? = some (some v) → (i + j, pm_vm ad v) ∈ lv_args i (as.map (pm_vm ad)) ∧ (v.category = 2 → i + j ∈ L)
  | [], i, _ => ⟨rfl, fun j v h => by simp [pm_ent] at h⟩
  | .int x :: r, i, h => by
    obtain ⟨h1, h2⟩ := pm_ent_args (ad := ad) (L := L) r (i + 1) h
    refine ⟨?_, fun j v hj => ?_⟩
    · show (lg_sl (Value.int x :: r.map (pm_vm ad))).length = (some (Value.int x) :: pm_ent r).length
      rw [List.length_cons, ← h1]
      simp [lg_sl, Value.category]
    · cases j with
      | zero => cases hj; exact ⟨List.mem_cons_self, fun hc => by cases hc⟩
      | succ j =>
        have := h2 j v hj
        rw [Nat.add_assoc, Nat.add_comm 1 j] at this
        exact ⟨List.mem_cons_of_mem _ this.1, this.2⟩
  | .ref x :: r, i, h => by
    obtain ⟨h1, h2⟩ := pm_ent_args (ad := ad) (L := L) r (i + 1) h
    refine ⟨?_, fun j v hj => ?_⟩
    · show (lg_sl (Value.ref (ad x) :: r.map (pm_vm ad))).length = (some (Value.ref x) :: pm_ent r).length
      rw [List.length_cons, ← h1]
      simp [lg_sl, Value.category]
    · cases j with
      | zero => cases hj; exact ⟨List.mem_cons_self, fun hc => by cases hc⟩
      | succ j =>
        have := h2 j v hj
        rw [Nat.add_assoc, Nat.add_comm 1 j] at this
        exact ⟨List.mem_cons_of_mem _ this.1, this.2⟩
  | .long x :: r, i, h => by
    have h0 : L.contains i = true ∧ pm_aok L (i + 2) r = true := by
      simpa [pm_aok] using h
    obtain ⟨h1, h2⟩ := pm_ent_args (ad := ad) (L := L) r (i + 2) h0.2
    refine ⟨?_, fun j v hj => ?_⟩
    · show (lg_sl (Value.long x :: r.map (pm_vm ad))).length = (some (Value.long x) :: none :: pm_ent r).length
      rw [List.length_cons, List.length_cons, ← h1]
      simp [lg_sl, Value.category]
    · cases j with
      | zero => cases hj; exact ⟨List.mem_cons_self, fun _ => List.contains_iff_mem.mp h0.1⟩
      | succ j =>
        cases j with
        | zero => cases hj
        | succ j =>
          have := h2 j v hj
          rw [Nat.add_assoc, Nat.add_comm 2 j] at this
          exact ⟨List.mem_cons_of_mem _ this.1, this.2⟩
  | .float _ :: _, _, h => by cases h
  | .double _ :: _, _, h => by cases h
  | .null :: _, _, h => by cases h
  | .retAddr _ :: _, _, h => by cases h
theorem pm_LR_entry {ad : Nat → Nat} {L : List Nat} {as : List Value} {nL : Nat} (h : pm_aok L 0 as = true) (hn : (pm_ent as).length ≤ nL) :
    pm_LR ((lg_sl (as.map (pm_vm ad)) ++ List.replicate (nL - (lg_sl (as.map (pm_vm ad))).length) Slot.unset).toArray) nL L ad (pm_ent as ++ List.replicate (nL - (pm_ent as).length) none) := by
  obtain ⟨h1, h2⟩ := pm_ent_args (ad := ad) (L := L) as 0 h
  have he := lv_entry (as.map (pm_vm ad)) (n := nL) (by rw [h1]; exact hn)
  refine ⟨he.1, he.2.1, by rw [List.length_append, List.length_replicate]; omega, fun j v hj => ?_⟩
  by_cases hlt : j < (pm_ent as).length
  · rw [List.getElem?_append_left hlt] at hj
    have := h2 j v hj
    rw [Nat.zero_add] at this
    exact ⟨he.2.2 _ this.1, this.2⟩
  · rw [List.getElem?_append_right (by omega), List.getElem?_replicate] at hj
    split at hj <;> cases hj
/-- switches -/
def pm_swT (ops : List pm_OP) (pc : Nat) : Int → List (Int32 × Nat) → List Int → Bool
  | _, [], [] => true
  | z, q :: r, o :: os => decide (q.1.toInt = z) && (decide ((pc : Int) + o = (pm_pc ops q.2 : Int)) && pm_swT ops pc (z + 1) r os)
  | _, _, _ => false
def pm_swL (ops : List pm_OP) (pc : Nat) : List (Int32 × Nat) → List (Int × Int) → Bool
  | [], [] => true
  | q :: r, o :: os => decide (q.1.toInt = o.1) && (decide ((pc : Int) + o.2 = (pm_pc ops q.2 : Int)) && pm_swL ops pc r os)
  | _, _ => false
theorem pm_swT_to {ops : List pm_OP} {pc : Nat} {k : Nat → pm_X} {x : Int32} {d : Nat} : ∀ (sw : List (Int32 × Nat)) (os : List Int) (z : Int), pm_swT ops pc z sw os = true →
    (∃ (t : Nat) (off : Int), pm_sw k x d sw = k t ∧ ¬ x.toInt < z ∧ x.toInt < z + os.length ∧ os[(x.toInt - z).toNat]? = some off ∧ (pc : Int) + off = (pm_pc ops t : Int)) ∨
    (pm_sw k x d sw = k d ∧ (x.toInt < z ∨ z + os.length ≤ x.toInt))
  | [], [], z, _ => Or.inr ⟨rfl, by simp; omega⟩
  | [], _ :: _, _, h => by cases h
  | _ :: _, [], _, h => by cases h
  | q :: r, o :: os, z, h => by
    simp only [pm_swT, Bool.and_eq_true, decide_eq_true_eq] at h
    by_cases hx : x = q.1
    · refine Or.inl ⟨q.2, o, by rw [pm_sw, if_pos hx], ?_, ?_, ?_, h.2.1⟩
      · rw [hx, h.1]; omega
      · rw [hx, h.1, List.length_cons]; omega
      · rw [hx, h.1, Int.sub_self]; rfl
    · have hne : x.toInt ≠ z := fun e => hx (Int32.toInt_inj.mp (e.trans h.1.symm))
      rcases pm_swT_to (k := k) (x := x) (d := d) r os (z + 1) h.2.2 with ⟨t, off, h1, h2, h3, h4, h5⟩ | ⟨h1, h2⟩
      · refine Or.inl ⟨t, off, by rw [pm_sw, if_neg hx]; exact h1, by omega, by rw [List.length_cons]; omega, ?_, h5⟩
        have e : (x.toInt - z).toNat = (x.toInt - (z + 1)).toNat + 1 := by omega
        rw [e, List.getElem?_cons_succ]
        exact h4
      · refine Or.inr ⟨by rw [pm_sw, if_neg hx]; exact h1, ?_⟩
        rw [List.length_cons]
        omega
theorem pm_swL_to {ops : List pm_OP} {pc : Nat} {k : Nat → pm_X} {x : Int32} {d : Nat} {dflt : Int} (hd : (pc : Int) + dflt = (pm_pc ops d : Int)) : ∀ (sw : List (Int32 × Nat)) (os : List (Int × Int)), pm_swL ops pc sw os = true →
    ∃ (t : Nat), pm_sw k x d sw = k t ∧ (pc : Int) + Op.lookupswitch.offset os dflt x.toInt = (pm_pc ops t : Int)
  | [], [], _ => ⟨d, rfl, hd⟩
  | [], _ :: _, h => by cases h
  | _ :: _, [], h => by cases h
  | q :: r, (a, o) :: os, h => by
    simp only [pm_swL, Bool.and_eq_true, decide_eq_true_eq] at h
    by_cases hx : x = q.1
    · refine ⟨q.2, by rw [pm_sw, if_pos hx], ?_⟩
      rw [Op.lookupswitch.offset_cons, if_pos (by rw [hx]; exact h.1.symm)]
      exact h.2.1
    · obtain ⟨t, h1, h2⟩ := pm_swL_to hd r os h.2.2 (k := k) (x := x)
      refine ⟨t, by rw [pm_sw, if_neg hx]; exact h1, ?_⟩
      rw [Op.lookupswitch.offset_cons, if_neg (fun e => hx (Int32.toInt_inj.mp (e.symm.trans h.1.symm)))]
      exact h2
/-- what a program must show of a method's table -/
def pm_ln (ins : Instr) : Nat := match ins with
  | .iload _ => 2
  | .aload _ => 2
  | .lload _ => 2
  | .istore _ => 2
  | .lstore _ => 2
  | .bipush _ => 2
  | .sipush _ => 3
  | .ldc_w _ => 3
  | .ldc2_w _ => 3
  | .goto _ => 3
  | .ifCond _ _ => 3
  | .if_icmp _ _ => 3
  | .iinc _ _ => 3
  | .tableswitch _ _ _ _ => 0
  | .lookupswitch _ _ => 0
  | .getfield _ => 3
  | .putfield _ => 3
  | .invokevirtual _ => 3
  | .invokestatic _ => 3
  | _ => 1
def pm_fty (v : Value) (t : Option FieldType) : Bool := match v with
  | .int _ => decide (t = some .int)
  | .long _ => decide (t = some .long)
  | _ => false
abbrev pm_P : Type := List pm_M × List vw_C × List Cond × List pm_N
def pm_chk (P : pm_P) (M : pm_M) (op : pm_OP) : Bool := match op with
  | (pc, ins, _, a, v, aux, sw) => match ins with
    | .istore k => pm_oks M.2.2.1 M.2.2.2.2.1 k
    | .istore_n k => pm_oks M.2.2.1 M.2.2.2.2.1 k
    | .lstore k => pm_okl M.2.2.1 M.2.2.2.2.1 k
    | .lstore_n k => pm_okl M.2.2.1 M.2.2.2.2.1 k
    | .iinc k n => pm_oks M.2.2.1 M.2.2.2.2.1 k && decide (v = .int (Int32.ofInt n))
    | .iconst n => decide (v = .int (Int32.ofInt n))
    | .bipush n => decide (v = .int (Int8.ofInt n).toInt32)
    | .sipush n => decide (v = .int (Int16.ofInt n).toInt32)
    | .lconst n => decide (v = .long (Int64.ofNat (n : Nat)))
    | .ldc_w k => (match v with
      | .int x => decide (P.2.2.1[aux.getD 0 0]? = some (.constant M.1.cls k x))
      | _ => false)
    | .ldc2_w k => (match v with
      | .long x => decide (P.2.2.1[aux.getD 0 0]? = some (.constantLong M.1.cls k x))
      | _ => false)
    | .goto off => decide ((pc : Int) + off = (pm_pc M.2.2.2.2.2.1 a : Int))
    | .ifCond _ off => decide ((pc : Int) + off = (pm_pc M.2.2.2.2.2.1 a : Int))
    | .if_icmp _ off => decide ((pc : Int) + off = (pm_pc M.2.2.2.2.2.1 a : Int))
    | .tableswitch d lo hi offs => decide ((pc : Int) + d = (pm_pc M.2.2.2.2.2.1 a : Int)) && (decide (hi + 1 = lo + offs.toList.length) && pm_swT M.2.2.2.2.2.1 pc lo sw offs.toList)
    | .lookupswitch d ps => decide ((pc : Int) + d = (pm_pc M.2.2.2.2.2.1 a : Int)) && ((ps.toList.zip (ps.toList.drop 1)).all (fun (a, next) => a.1 < next.1) && pm_swL M.2.2.2.2.2.1 pc sw ps.toList)
    | .getfield k => (match P.2.1[aux.getD 0 0]? with
      | some q => decide (a < q.2.2) && decide (P.2.2.1[aux.getD 1 0]? = some (.fieldLink M.1.cls k (q.2.1 a).1 (q.2.1 a).2.1 (q.2.1 a).2.2.1))
      | none => false)
    | .putfield k => (match P.2.1[aux.getD 0 0]? with
      | some q => decide (a < q.2.2) && (decide (P.2.2.1[aux.getD 1 0]? = some (.fieldLink M.1.cls k (q.2.1 a).1 (q.2.1 a).2.1 (q.2.1 a).2.2.1)) && (decide ((q.2.1 a).2.2.2 = false) && pm_fty v (parseFieldDescriptor (q.2.1 a).2.2.1)))
      | none => false)
    | .invokevirtual k => (match P.1[a]? with
      | some K => (match P.2.1[aux.getD 1 0]? with
        | some q => decide (q.1 = K.1.cls) && (decide (P.2.2.1[aux.getD 2 0]? = some (.methodLink M.1.cls k K.1)) && (decide ((parseMethodDescriptor K.1.desc).map (fun d => d.parameters.length) = some (aux.getD 0 0)) &&
          (decide (P.2.2.1[K.2.2.2.2.2.2.getD 2 0]? = some (.instanceMethod K.1)) && decide (P.2.2.1[K.2.2.2.2.2.2.getD 3 0]? = some (.selects K.1.cls K.1 K.1)))))
        | none => false)
      | none => false)
    | .invokestatic k => (match v with
      | .null => decide (P.2.2.1[aux.getD 0 0]? = some (.methodLink M.1.cls k arraycopyName)) && (decide (P.2.2.1[aux.getD 1 0]? = some (.native arraycopyName)) && (decide (P.2.2.1[aux.getD 2 0]? = some (.static arraycopyName)) && decide (P.2.2.1[aux.getD 3 0]? = some (.initialized "java/lang/System"))))
      | .ref z => (decide (z = 1) && (decide (P.2.2.1[aux.getD 0 0]? = some (.methodLink M.1.cls k Lib.Math.max.name)) && (decide (P.2.2.1[aux.getD 1 0]? = some (.static Lib.Math.max.name)) && (decide (P.2.2.1[aux.getD 2 0]? = some (.initialized "java/lang/Math")) && decide (P.2.2.1[aux.getD 3 0]? = some (.code Lib.Math.max.name Lib.Math.max.code 2 (some .int))))))) ||
          (decide (z = 2) && (decide (P.2.2.1[aux.getD 0 0]? = some (.methodLink M.1.cls k Lib.Math.min.name)) && (decide (P.2.2.1[aux.getD 1 0]? = some (.static Lib.Math.min.name)) && (decide (P.2.2.1[aux.getD 2 0]? = some (.initialized "java/lang/Math")) && decide (P.2.2.1[aux.getD 3 0]? = some (.code Lib.Math.min.name Lib.Math.min.code 2 (some .int)))))))
      | .float _ => (decide (P.2.2.1[aux.getD 0 0]? = some (.methodLink M.1.cls k Lib.Math.abs.name)) && (decide (P.2.2.1[aux.getD 1 0]? = some (.static Lib.Math.abs.name)) && (decide (P.2.2.1[aux.getD 2 0]? = some (.initialized "java/lang/Math")) && decide (P.2.2.1[aux.getD 3 0]? = some (.code Lib.Math.abs.name Lib.Math.abs.code 1 (some .int))))))
      | .int _ => (match P.1[a]? with
        | some K => decide ((parseMethodDescriptor K.1.desc).map (fun d => d.parameters.length) = some (aux.getD 0 0)) && (decide (P.2.2.1[K.2.2.2.2.2.2.getD 2 0]? = some (.static K.1)) && decide (P.2.2.1[aux.getD 1 0]? = some (.methodLink M.1.cls k K.1)))
        | none => false)
      | .long _ => (match P.1[a]? with
        | some K => decide ((parseMethodDescriptor K.1.desc).map (fun d => d.parameters.length) = some (aux.getD 0 0)) && (decide (P.2.2.1[K.2.2.2.2.2.2.getD 2 0]? = some (.static K.1)) && (match P.2.2.2[aux.getD 1 0]? with
          | some q => decide (q.1 = M.1.cls) && (decide (q.2.1 = k) && decide (q.2.2.1 = K.1))
          | none => false))
        | none => false)
      | _ => false)
    | _ => true
def pm_okO (P : pm_P) (M : pm_M) (i : Nat) : Bool := match M.2.2.2.2.2.1[i]? with
  | none => false
  | some op => decide (decode M.2.1 op.1 = .ok (op.2.1, op.2.2.1)) && (decide (pm_ln op.2.1 = 0 ∨ op.2.2.1 = pm_ln op.2.1) && (decide (i + 1 < M.2.2.2.2.2.1.length → pm_pc M.2.2.2.2.2.1 (i + 1) = op.1 + op.2.2.1) && pm_chk P M op))
def pm_okM (P : pm_P) (M : pm_M) : Bool :=
  (plainName M.1.cls && (decide (M.1.cls ≠ "java/lang/invoke/MethodHandle") && (decide (M.1.cls ≠ "java/lang/invoke/VarHandle") && (decide (P.2.2.1[M.2.2.2.2.2.2.getD 0 0]? = some (.code M.1 M.2.1 M.2.2.1 M.2.2.2.1)) && (decide (P.2.2.1[M.2.2.2.2.2.2.getD 1 0]? = some (.initialized M.1.cls)) && (decide (M.2.2.1 ≤ 40) && decide (pm_pc M.2.2.2.2.2.1 0 = 0))))))) &&
    (List.range M.2.2.2.2.2.1.length).all (pm_okO P M)
end
section
/-! the walk: one theorem for all instructions -/
def pm_fin (E : pm_C → Option pm_R) (x : pm_X) : Option pm_R := match x with
  | .inl c => E c
  | .inr r => r
theorem pm_ev_fin {call : pm_K} {ret : Option FieldType} {ops : List pm_OP} {n : Nat} {c : pm_C} : pm_ev call ret ops (n + 1) c = pm_fin (pm_ev call ret ops n) (pm_step call ret ops c) := rfl
section INV
variable {E : pm_C → Option pm_R} {i a k : Nat} {ls : pm_LS} {st : List Value} {hp : pm_HP} {o : pm_R}
theorem pm_ldI_inv (h : pm_fin E (pm_ldI i ls st hp k) = some o) : ∃ x, pm_ld ls k = some (.int x) ∧ E (i + 1, ls, .int x :: st, hp) = some o := by
  unfold pm_ldI at h
  split at h
  · rename_i x hx; exact ⟨x, hx, h⟩
  · cases h
theorem pm_ldA_inv (h : pm_fin E (pm_ldA i ls st hp k) = some o) : ∃ x, pm_ld ls k = some (.ref x) ∧ E (i + 1, ls, .ref x :: st, hp) = some o := by
  unfold pm_ldA at h
  split at h
  · rename_i x hx; exact ⟨x, hx, h⟩
  · cases h
theorem pm_ldL_inv (h : pm_fin E (pm_ldL i ls st hp k) = some o) : ∃ x, pm_ld ls k = some (.long x) ∧ E (i + 1, ls, .long x :: st, hp) = some o := by
  unfold pm_ldL at h
  split at h
  · rename_i x hx; exact ⟨x, hx, h⟩
  · cases h
theorem pm_stI_inv (h : pm_fin E (pm_stI i ls st hp k) = some o) : ∃ x st2, st = .int x :: st2 ∧ E (i + 1, ls.set k (some (.int x)), st2, hp) = some o := by
  unfold pm_stI at h
  split at h
  · rename_i x st2; exact ⟨x, st2, rfl, h⟩
  · cases h
theorem pm_stL_inv (h : pm_fin E (pm_stL i ls st hp k) = some o) : ∃ x st2, st = .long x :: st2 ∧ E (i + 1, (ls.set k (some (.long x))).set (k + 1) none, st2, hp) = some o := by
  unfold pm_stL at h
  split at h
  · rename_i x st2; exact ⟨x, st2, rfl, h⟩
  · cases h
theorem pm_cI_inv {v : Value} (h : pm_fin E (pm_cI i ls st hp v) = some o) : ∃ x, v = .int x ∧ E (i + 1, ls, .int x :: st, hp) = some o := by
  unfold pm_cI at h
  split at h
  · rename_i x; exact ⟨x, rfl, h⟩
  · cases h
theorem pm_cL_inv {v : Value} (h : pm_fin E (pm_cL i ls st hp v) = some o) : ∃ x, v = .long x ∧ E (i + 1, ls, .long x :: st, hp) = some o := by
  unfold pm_cL at h
  split at h
  · rename_i x; exact ⟨x, rfl, h⟩
  · cases h
theorem pm_b2_inv {f : Int32 → Int32 → Int32} (h : pm_fin E (pm_b2 i ls st hp f) = some o) : ∃ x y st2, st = .int y :: .int x :: st2 ∧ E (i + 1, ls, .int (f x y) :: st2, hp) = some o := by
  unfold pm_b2 at h
  split at h
  · rename_i y x st2; exact ⟨x, y, st2, rfl, h⟩
  · cases h
theorem pm_d2_inv {f : Int32 → Int32 → Int32} (h : pm_fin E (pm_d2 i ls st hp f) = some o) : ∃ x y st2, st = .int y :: .int x :: st2 ∧ ¬ y = 0 ∧ E (i + 1, ls, .int (f x y) :: st2, hp) = some o := by
  unfold pm_d2 at h
  split at h
  · rename_i y x st2
    by_cases hy : y = 0
    · rw [if_pos hy] at h; cases h
    · rw [if_neg hy] at h; exact ⟨x, y, st2, rfl, hy, h⟩
  · cases h
theorem pm_l2_inv {f : Int64 → Int64 → Int64} (h : pm_fin E (pm_l2 i ls st hp f) = some o) : ∃ x y st2, st = .long y :: .long x :: st2 ∧ E (i + 1, ls, .long (f x y) :: st2, hp) = some o := by
  unfold pm_l2 at h
  split at h
  · rename_i y x st2; exact ⟨x, y, st2, rfl, h⟩
  · cases h
theorem pm_e2_inv {f : Int64 → Int64 → Int64} (h : pm_fin E (pm_e2 i ls st hp f) = some o) : ∃ x y st2, st = .long y :: .long x :: st2 ∧ ¬ y = 0 ∧ E (i + 1, ls, .long (f x y) :: st2, hp) = some o := by
  unfold pm_e2 at h
  split at h
  · rename_i y x st2
    by_cases hy : y = 0
    · rw [if_pos hy] at h; cases h
    · rw [if_neg hy] at h; exact ⟨x, y, st2, rfl, hy, h⟩
  · cases h
theorem pm_i1_inv {f : Int32 → pm_X → pm_X → pm_X} (h : pm_fin E (pm_i1 i ls st hp a f) = some o) : ∃ x st2, st = .int x :: st2 ∧ pm_fin E (f x (.inl (a, ls, st2, hp)) (.inl (i + 1, ls, st2, hp))) = some o := by
  unfold pm_i1 at h
  split at h
  · rename_i x st2; exact ⟨x, st2, rfl, h⟩
  · cases h
theorem pm_i2_inv {f : Int32 → Int32 → pm_X → pm_X → pm_X} (h : pm_fin E (pm_i2 i ls st hp a f) = some o) : ∃ x y st2, st = .int y :: .int x :: st2 ∧ pm_fin E (f x y (.inl (a, ls, st2, hp)) (.inl (i + 1, ls, st2, hp))) = some o := by
  unfold pm_i2 at h
  split at h
  · rename_i y x st2; exact ⟨x, y, st2, rfl, h⟩
  · cases h
theorem pm_gf_inv {aux : List Nat} (h : pm_fin E (pm_gf i ls st hp a aux) = some o) : ∃ x st2 fs v, st = .ref x :: st2 ∧ hp[x]? = some (.inr (aux.getD 0 0, fs)) ∧ fs[a]? = some v ∧ E (i + 1, ls, v :: st2, hp) = some o := by
  unfold pm_gf at h
  split at h
  · rename_i x st2
    split at h
    · rename_i q hq
      obtain ⟨c0, fs⟩ := q
      by_cases hc : c0 = aux.getD 0 0
      · rw [if_pos hc] at h
        split at h
        · rename_i v hv; exact ⟨x, st2, fs, v, rfl, by rw [hq, hc], hv, h⟩
        · cases h
      · rw [if_neg hc] at h; cases h
    · cases h
  · cases h
theorem pm_pf_inv {v : Value} {aux : List Nat} (h : pm_fin E (pm_pf i ls st hp a v aux) = some o) : ∃ w x st2 fs, st = w :: .ref x :: st2 ∧ ((∃ y z, w = .int y ∧ v = .int z) ∨ (∃ y z, w = .long y ∧ v = .long z)) ∧ hp[x]? = some (.inr (aux.getD 0 0, fs)) ∧ a < fs.length ∧ E (i + 1, ls, st2, hp.set x (.inr (aux.getD 0 0, fs.set a w))) = some o := by
  unfold pm_pf at h
  split at h
  · rename_i y x st2
    split at h
    · rename_i z
      split at h
      · rename_i q hq
        obtain ⟨c0, fs⟩ := q
        by_cases hc : c0 = aux.getD 0 0 ∧ a < fs.length
        · rw [if_pos hc] at h
          have hc1 := hc.1
          subst hc1
          exact ⟨.int y, x, st2, fs, rfl, Or.inl ⟨y, z, rfl, rfl⟩, hq, hc.2, h⟩
        · rw [if_neg hc] at h; cases h
      · cases h
    · cases h
  · rename_i y x st2
    split at h
    · rename_i z
      split at h
      · rename_i q hq
        obtain ⟨c0, fs⟩ := q
        by_cases hc : c0 = aux.getD 0 0 ∧ a < fs.length
        · rw [if_pos hc] at h
          have hc1 := hc.1
          subst hc1
          exact ⟨.long y, x, st2, fs, rfl, Or.inr ⟨y, z, rfl, rfl⟩, hq, hc.2, h⟩
        · rw [if_neg hc] at h; cases h
      · cases h
    · cases h
  · cases h
theorem pm_in_of {j : Int32} {n : Nat} (h : pm_in j n = true) : vp_in j n := of_decide_eq_true (p := ¬ (j < 0 ∨ n ≤ j.toNatClampNeg)) h
theorem pm_al_inv {t : Nat} (h : pm_fin E (pm_al i ls st hp t) = some o) : ∃ j x st2 n f, st = .int j :: .ref x :: st2 ∧ hp[x]? = some (.inl (t, n, .inl f)) ∧ vp_in j n ∧ E (i + 1, ls, .int (f j.toNatClampNeg) :: st2, hp) = some o := by
  unfold pm_al at h
  split at h
  · rename_i j x st2
    split at h
    · rename_i t0 n f hq
      by_cases hc : t0 = t ∧ pm_in j n = true
      · rw [if_pos hc] at h
        have hc1 := hc.1
        subst hc1
        exact ⟨j, x, st2, n, f, rfl, hq, pm_in_of hc.2, h⟩
      · rw [if_neg hc] at h; cases h
    · cases h
  · cases h
theorem pm_as_inv {t : Nat} {g : Int32 → Int32} (h : pm_fin E (pm_as i ls st hp t g) = some o) : ∃ y j x st2 n f, st = .int y :: .int j :: .ref x :: st2 ∧ hp[x]? = some (.inl (t, n, .inl f)) ∧ vp_in j n ∧ E (i + 1, ls, st2, hp.set x (.inl (t, n, .inl (upd f j.toNatClampNeg (g y))))) = some o := by
  unfold pm_as at h
  split at h
  · rename_i y j x st2
    split at h
    · rename_i t0 n f hq
      by_cases hc : t0 = t ∧ pm_in j n = true
      · rw [if_pos hc] at h
        have hc1 := hc.1
        subst hc1
        exact ⟨y, j, x, st2, n, f, rfl, hq, pm_in_of hc.2, h⟩
      · rw [if_neg hc] at h; cases h
    · cases h
  · cases h
theorem pm_len_inv (h : pm_fin E (pm_len i ls st hp) = some o) : ∃ x st2 t n f, st = .ref x :: st2 ∧ hp[x]? = some (.inl (t, n, f)) ∧ t < 2 ∧ E (i + 1, ls, .int (Int32.ofNat n) :: st2, hp) = some o := by
  unfold pm_len at h
  split at h
  · rename_i x st2
    split at h
    · rename_i t0 n f hq
      by_cases hc : t0 < 2
      · rw [if_pos hc] at h; exact ⟨x, st2, t0, n, f, rfl, hq, hc, h⟩
      · rw [if_neg hc] at h; cases h
    · cases h
  · cases h
theorem pm_cp_inv (h : pm_fin E (pm_cp i ls st hp) = some o) : ∃ n dp d sp x st2 n0 f n1 g, st = .int n :: .int dp :: .ref d :: .int sp :: .ref x :: st2 ∧ hp[x]? = some (.inl (0, n0, .inl f)) ∧ hp[d]? = some (.inl (0, n1, .inl g)) ∧ (¬ sp < 0 ∧ ¬ dp < 0 ∧ ¬ n < 0 ∧ sp.toNatClampNeg + n.toNatClampNeg ≤ n0 ∧ dp.toNatClampNeg + n.toNatClampNeg ≤ n1 ∧ st2.length ≤ 4) ∧
    E (i + 1, ls, st2, hp.set d (.inl (0, n1, .inl (va_cpy f g sp.toNatClampNeg dp.toNatClampNeg n.toNatClampNeg)))) = some o := by
  unfold pm_cp at h
  split at h
  · rename_i n dp d sp x st2
    split at h
    · rename_i n0 f hq
      split at h
      · rename_i n1 g hg
        split at h
        · rename_i hc; exact ⟨n, dp, d, sp, x, st2, n0, f, n1, g, rfl, hq, hg, hc, h⟩
        · cases h
      · cases h
    · cases h
  · cases h
theorem pm_bd_inv {w : Option pm_R} {kk : Option Value → pm_HP → pm_X} (h : pm_fin E (pm_bd w kk) = some o) : ∃ r hp2, w = some (r, hp2) ∧ pm_fin E (kk r hp2) = some o := by
  cases w with
  | none => cases h
  | some q => exact ⟨q.1, q.2, rfl, h⟩
theorem pm_iv_inv {call : pm_K} {aux : List Nat} (h : pm_fin E (pm_iv call i ls st hp a aux) = some o) : ∃ x rest fs r hp2, st.drop (aux.getD 0 0) = .ref x :: rest ∧ hp[x]? = some (.inr (aux.getD 1 0, fs)) ∧ rest.length ≤ 4 ∧ call a (.ref x :: (st.take (aux.getD 0 0)).reverse) hp = some (r, hp2) ∧ E (i + 1, ls, r.toList ++ rest, hp2) = some o := by
  unfold pm_iv at h
  split at h
  · rename_i x rest hd
    split at h
    · rename_i q hq
      obtain ⟨c0, fs⟩ := q
      by_cases hc : c0 = aux.getD 1 0 ∧ rest.length ≤ 4
      · rw [if_pos hc] at h
        obtain ⟨r, hp2, h1, h2⟩ := pm_bd_inv h
        exact ⟨x, rest, fs, r, hp2, hd, by rw [hq, hc.1], hc.2, h1, h2⟩
      · rw [if_neg hc] at h; cases h
    · cases h
  · cases h
theorem pm_is_inv {call : pm_K} {aux : List Nat} (h : pm_fin E (pm_is call i ls st hp a aux) = some o) : ∃ r hp2, aux.getD 0 0 ≤ st.length ∧ (st.drop (aux.getD 0 0)).length ≤ 4 ∧ call a ((st.take (aux.getD 0 0)).reverse) hp = some (r, hp2) ∧ E (i + 1, ls, r.toList ++ st.drop (aux.getD 0 0), hp2) = some o := by
  unfold pm_is at h
  split at h
  · rename_i hc
    obtain ⟨r, hp2, h1, h2⟩ := pm_bd_inv h
    exact ⟨r, hp2, hc.1, hc.2, h1, h2⟩
  · cases h
theorem pm_mx_inv {z : Nat} (h : pm_fin E (pm_mx i ls st hp z) = some o) : ∃ x y st2, st = .int y :: .int x :: st2 ∧ st2.length ≤ 4 ∧ ((z = 1 ∧ E (i + 1, ls, .int (if x < y then y else x) :: st2, hp) = some o) ∨ (z = 2 ∧ E (i + 1, ls, .int (if y < x then y else x) :: st2, hp) = some o)) := by
  unfold pm_mx at h
  split at h
  · rename_i y x st2
    by_cases hl : st2.length ≤ 4
    · rw [if_pos hl] at h
      by_cases h1 : z = 1
      · rw [if_pos h1] at h; exact ⟨x, y, st2, rfl, hl, Or.inl ⟨h1, h⟩⟩
      · rw [if_neg h1] at h
        by_cases h2 : z = 2
        · rw [if_pos h2] at h; exact ⟨x, y, st2, rfl, hl, Or.inr ⟨h2, h⟩⟩
        · rw [if_neg h2] at h; cases h
    · rw [if_neg hl] at h; cases h
  · cases h
theorem pm_ab_inv (h : pm_fin E (pm_ab i ls st hp) = some o) : ∃ x st2, st = .int x :: st2 ∧ st2.length ≤ 4 ∧ E (i + 1, ls, .int (if 0 ≤ x then x else 0 - x) :: st2, hp) = some o := by
  unfold pm_ab at h
  split at h
  · rename_i x st2
    by_cases hl : st2.length ≤ 4
    · rw [if_pos hl] at h; exact ⟨x, st2, rfl, hl, h⟩
    · rw [if_neg hl] at h; cases h
  · cases h
end INV
/-- a method's start and end, in the words of the pure machine -/
def pm_Pre (D : va_G) (cl : List vw_C) (nst : List pm_N) (ad : Nat → Nat) (cA : Nat → ClassId) (hp : pm_HP) (sz : Nat) (U : State) : Prop := U.heap.size = sz ∧ va_P D cl (pm_ws ad cA hp) U.heap ∧ va_K D cl (pm_tys cA) U ∧ pm_NW nst U
def pm_Post (D : va_G) (cl : List vw_C) (ad : Nat → Nat) (cA : Nat → ClassId) (r : Option Value) (hp : pm_HP) (A : Nat → Prop) : Array Value → State → Outcome → State → Prop := fun _ st oc t => oc = .returned (r.map (pm_vm ad)) ∧ va_P D cl (pm_ws ad cA hp) t.heap ∧ va_F A st t
def pm_rm (d : Nat) : Room := { frames := d, cells := 0, slots := 0, locals := 64 * d }
theorem pm_NW.warm {nst : List pm_N} {s U : State} (h : pm_NW nst s) (hW : s.WarmedH U.vm) : pm_NW nst U := fun q hq => va_Nw.warmM hW (h q hq)
theorem pm_blind (D : va_G) (cl : List vw_C) (nst : List pm_N) (ad : Nat → Nat) (cA : Nat → ClassId) (hp : pm_HP) (sz : Nat) (av : List Value) : FrameBlind (va_Pc av (pm_Pre D cl nst ad cA hp sz)) := by
  intro a U g mk h
  obtain ⟨h0, h1, h2, h3, h4⟩ := h
  exact ⟨h0, h1, h2, va_K.moved (u := U) (U := U.calling g mk a) (Vm.Alike.refl U.vm) h3, fun q hq => va_Nw.same (u := U) (U := U.calling g mk a) rfl rfl (h4 q hq)⟩
theorem pm_call {p : Program} {l : Launch} {e : Env} {R : Room} {s : State} {m : MethodId} {args : Array Value} {below : List Frame} {meth : Method} {c : Code} {H : Heap} {locs : List Loc} {Q : State → Prop} {D : va_G} {cl : List vw_C} {ad : Nat → Nat} {cA : Nat → ClassId} {r : Option Value} {hp : pm_HP}
    {pc : Nat} {ls : Array Slot} {rest st0 : List Value} {a : Array Value} {A0 A1 : Nat → Prop} {H0 : Heap} {free : Addr → Prop}
    (hr : va_Run p l e R s m args below meth c H locs 0 0 0 0 (F0 m pc ls st0) rest (pm_Post D cl ad cA r hp A1 a) free) (hS : va_S A0 H0 H locs) (hA : ∀ q, A1 q → A0 q) (hf : ∀ q, free q → A0 q)
    (kk : ∀ (H1 : Heap) (locs1 : List Loc), va_P D cl (pm_ws ad cA hp) H1 → va_S A0 H0 H1 locs1 → W p l e R s m args below meth c H1 locs1 0 0 Q (F0 m (pc + 3) ls ((r.map (pm_vm ad)).toList ++ rest))) : W p l e R s m args below meth c H locs 0 0 Q (F0 m pc ls st0) := by
  intro T hT X
  obtain ⟨v, st₀, t, T', L, h0, X', hL, e1, e2, ⟨hv, hP1, hz, hk⟩, st⟩ := hr T hT X
  cases hv
  rw [h0] at hz hk
  obtain ⟨t2, a1, b1⟩ := kk T'.heap (locs ++ L) (by rw [e1]; exact hP1)
    ⟨Nat.le_trans hS.1 (by rw [e1]; exact hz), fun q h1 h2 => by rw [e1, hk q (Nat.lt_of_lt_of_le h1 hS.1) (fun z => h2 (hA q z))]; exact hS.2.1 q h1 h2, fun q hq => by
      rcases List.mem_append.mp hq with h | h
      · exact hS.2.2 q h
      · exact hf _ (hL q h)⟩ T' rfl X'
  exact ⟨t2, st t2 a1, b1⟩
/-- what the whole program's tables say -/
def pm_okP (P : pm_P) : Prop := (∀ w ∈ P.2.2.1, goodWord w = true) ∧ (∀ q ∈ P.2.1, (∀ w ∈ u_ws q.1 q.2.1 q.2.2, w ∈ P.2.2.1) ∧ (∀ k, k < q.2.2 → (parseFieldDescriptor (q.2.1 k).2.2.1).isSome = true) ∧ ∀ a, a < q.2.2 → ∀ b, b < q.2.2 → a ≠ b → (q.2.1 a).2.1 ≠ (q.2.1 b).2.1) ∧ ∀ M ∈ P.1, pm_okM P M = true
theorem pm_okM_to {P : pm_P} {M : pm_M} (h : pm_okM P M = true) : plainName M.1.cls = true ∧ M.1.cls ≠ "java/lang/invoke/MethodHandle" ∧ M.1.cls ≠ "java/lang/invoke/VarHandle" ∧ Cond.code M.1 M.2.1 M.2.2.1 M.2.2.2.1 ∈ P.2.2.1 ∧ Cond.initialized M.1.cls ∈ P.2.2.1 ∧ M.2.2.1 ≤ 40 ∧ pm_pc M.2.2.2.2.2.1 0 = 0 ∧
    ∀ (i : Nat) (op : pm_OP), M.2.2.2.2.2.1[i]? = some op → decode M.2.1 op.1 = .ok (op.2.1, op.2.2.1) ∧ (pm_ln op.2.1 = 0 ∨ op.2.2.1 = pm_ln op.2.1) ∧ (i + 1 < M.2.2.2.2.2.1.length → pm_pc M.2.2.2.2.2.1 (i + 1) = op.1 + op.2.2.1) ∧ pm_chk P M op = true := by
  unfold pm_okM at h
  simp only [Bool.and_eq_true, decide_eq_true_eq, List.all_eq_true, List.mem_range] at h
  obtain ⟨⟨h1, h2, h3, h4, h5, h6, h7⟩, h8⟩ := h
  refine ⟨h1, h2, h3, List.mem_of_getElem? h4, List.mem_of_getElem? h5, h6, h7, fun i op hi => ?_⟩
  have h9 := h8 i (List.getElem?_eq_some_iff.mp hi).1
  unfold pm_okO at h9
  rw [hi] at h9
  simp only [Bool.and_eq_true, decide_eq_true_eq] at h9
  exact h9
end
section
/-! the walk of a method, by its pure run -/
set_option maxHeartbeats 4000000 in
theorem pm_inner {p : Program} {l : Launch} {e : Env} {s : State} {m : MethodId} {args : Array Value} {below : List Frame} {meth : Method} {c : Code} {P : pm_P} {M : pm_M} {d N : Nat} {call : pm_K} {D : va_G} {ad : Nat → Nat} {cA : Nat → ClassId} {r : Option Value} {hp9 : pm_HP}
    (hP0 : pm_okP P) (hM : pm_okM P M = true) (hx : p.tables.exec = Jvm.exec) (hb : c.code = M.2.1) (hml : c.maxLocals = M.2.2.1) (hr : meth.sig.returnType = M.2.2.2.1) (hlocks : meth.locks = false) (hown : s.vm.findClass M.1.cls = some m.cls)
    (hts : ∀ w ∈ P.2.2.1, w.before args s = true) (hK : va_K D P.2.1 (pm_tys cA) s) (hNW : pm_NW P.2.2.2 s) (hinj : ∀ i j, i < N → j < N → ad i = ad j → i = j)
    (hcall : ∀ (k : Nat) (K : pm_M) (as : List Value) (hp1 hp2 : pm_HP) (r1 : Option Value), P.1[k]? = some K → call k as hp1 = some (r1, hp2) → hp1.length = N → hp2.length = N ∧ ∀ sz, Met l K.1 (.code K.1 K.2.1 K.2.2.1 K.2.2.2.1 :: P.2.2.1) (pm_rm d) (va_Pc (as.map (pm_vm ad)) (pm_Pre D P.2.1 P.2.2.2 ad cA hp1 sz)) (pm_Post D P.2.1 ad cA r1 hp2 (pm_A ad N sz)) 0 0 (pm_A ad N sz)) :
    ∀ (n i : Nat) (pl : pm_LS) (st : List Value) (hp : pm_HP) (ls : Array Slot) (H : Heap) (locs : List Loc), pm_ev call M.2.2.2.1 M.2.2.2.2.2.1 n (i, pl, st, hp) = some (r, hp9) → pm_LR ls M.2.2.1 M.2.2.2.2.1 ad pl → hp.length = N → va_P D P.2.1 (pm_ws ad cA hp) H → va_S (pm_A ad N s.heap.size) s.heap H locs →
      W p l e (pm_rm (d + 1)) s m args below meth c H locs 0 0 (MQ below (pm_Post D P.2.1 ad cA r hp9 (pm_A ad N s.heap.size)) args s 0 0 (pm_A ad N s.heap.size)) (F0 m (pm_pc M.2.2.2.2.2.1 i) ls (st.map (pm_vm ad))) := by
  obtain ⟨hok1, hok2, hok3⟩ := hP0
  obtain ⟨-, -, -, hcode, hini, hml40, -, hops⟩ := pm_okM_to hM
  have hws : ∀ {K : pm_M}, pm_okM P K = true → GoodIn P.2.2.1 (.code K.1 K.2.1 K.2.2.1 K.2.2.2.1 :: P.2.2.1) := fun hK1 w hw => by
    rcases List.mem_cons.mp hw with rfl | hw
    · exact ⟨(pm_okM_to hK1).2.2.2.1, good_of_word (hok1 _ (pm_okM_to hK1).2.2.2.1)⟩
    · exact ⟨hw, good_of_word (hok1 _ hw)⟩
  intro n
  induction n with
  | zero => intro i pl st hp ls H locs h; cases h
  | succ n ih =>
    intro i pl st hp ls H locs h hL hN hP hS
    rw [pm_ev_fin] at h
    have hD := pm_D (cA := cA) (hp := hp) s.heap.size hN hinj
    rcases hop : M.2.2.2.2.2.1[i]? with _ | ⟨pc, ins, len, a, v, aux, sw⟩
    · have hs : pm_step call M.2.2.2.1 M.2.2.2.2.2.1 (i, pl, st, hp) = .inr none := pm_step_none hop
      rw [hs] at h
      cases h
    · have hpc : pm_pc M.2.2.2.2.2.1 i = pc := by unfold pm_pc; rw [hop]
      obtain ⟨hdec, hlen, hnx, hck⟩ := hops i _ hop
      rw [hpc]
      have go : ∀ {pl2 : pm_LS} {st2 : List Value} {hp2 : pm_HP} {ls2 : Array Slot} {H2 : Heap} {locs2 : List Loc}, pm_ev call M.2.2.2.1 M.2.2.2.2.2.1 n (i + 1, pl2, st2, hp2) = some (r, hp9) → pm_LR ls2 M.2.2.1 M.2.2.2.2.1 ad pl2 → hp2.length = N → va_P D P.2.1 (pm_ws ad cA hp2) H2 → va_S (pm_A ad N s.heap.size) s.heap H2 locs2 →
          W p l e (pm_rm (d + 1)) s m args below meth c H2 locs2 0 0 (MQ below (pm_Post D P.2.1 ad cA r hp9 (pm_A ad N s.heap.size)) args s 0 0 (pm_A ad N s.heap.size)) (F0 m (pc + len) ls2 (st2.map (pm_vm ad))) := by
        intro pl2 st2 hp2 ls2 H2 locs2 h1 h2 h3 h4 h5
        have hlt : i + 1 < M.2.2.2.2.2.1.length := by
          rcases Nat.lt_or_ge (i + 1) M.2.2.2.2.2.1.length with q | q
          · exact q
          · exfalso
            cases n with
            | zero => cases h1
            | succ n =>
              rw [pm_ev_fin] at h1
              have hs : pm_step call M.2.2.2.1 M.2.2.2.2.2.1 (i + 1, pl2, st2, hp2) = .inr none := pm_step_none (List.getElem?_eq_none q)
              rw [hs] at h1
              cases h1
        have h6 := ih (i + 1) pl2 st2 hp2 ls2 H2 locs2 h1 h2 h3 h4 h5
        rw [hnx hlt] at h6
        exact h6
      have hsl : ls.size = M.2.2.1 := hL.1
      dsimp only at hdec hlen
      cases ins with
      | iload k =>
        have hs : pm_step call M.2.2.2.1 M.2.2.2.2.2.1 (i, pl, st, hp) = pm_ldI i pl st hp k := pm_step_some hop
        rw [hs] at h
        have hln := hlen
        obtain rfl : len = 2 := hln.elim (fun q => absurd (show (2 : Nat) = 0 from q) (by decide)) (fun q => q)
        obtain ⟨x, h1, h2⟩ := pm_ldI_inv h
        exact lv_iload hx hb hdec (hL.ld h1) (go h2 hL hN hP hS)
      | iload_n k =>
        have hs : pm_step call M.2.2.2.1 M.2.2.2.2.2.1 (i, pl, st, hp) = pm_ldI i pl st hp k := pm_step_some hop
        rw [hs] at h
        have hln := hlen
        obtain rfl : len = 1 := hln.elim (fun q => absurd (show (1 : Nat) = 0 from q) (by decide)) (fun q => q)
        obtain ⟨x, h1, h2⟩ := pm_ldI_inv h
        exact lv_iload_n hx hb hdec rfl (hL.ld h1) (go h2 hL hN hP hS)
      | aload k =>
        have hs : pm_step call M.2.2.2.1 M.2.2.2.2.2.1 (i, pl, st, hp) = pm_ldA i pl st hp k := pm_step_some hop
        rw [hs] at h
        have hln := hlen
        obtain rfl : len = 2 := hln.elim (fun q => absurd (show (2 : Nat) = 0 from q) (by decide)) (fun q => q)
        obtain ⟨x, h1, h2⟩ := pm_ldA_inv h
        exact lv_aload hx hb hdec (hL.ld h1) (go h2 hL hN hP hS)
      | aload_n k =>
        have hs : pm_step call M.2.2.2.1 M.2.2.2.2.2.1 (i, pl, st, hp) = pm_ldA i pl st hp k := pm_step_some hop
        rw [hs] at h
        have hln := hlen
        obtain rfl : len = 1 := hln.elim (fun q => absurd (show (1 : Nat) = 0 from q) (by decide)) (fun q => q)
        obtain ⟨x, h1, h2⟩ := pm_ldA_inv h
        exact lv_aload_n hx hb hdec rfl (hL.ld h1) (go h2 hL hN hP hS)
      | lload k =>
        have hs : pm_step call M.2.2.2.1 M.2.2.2.2.2.1 (i, pl, st, hp) = pm_ldL i pl st hp k := pm_step_some hop
        rw [hs] at h
        have hln := hlen
        obtain rfl : len = 2 := hln.elim (fun q => absurd (show (2 : Nat) = 0 from q) (by decide)) (fun q => q)
        obtain ⟨x, h1, h2⟩ := pm_ldL_inv h
        exact lv_lload hx hb hdec (hL.ld h1) (go h2 hL hN hP hS)
      | lload_n k =>
        have hs : pm_step call M.2.2.2.1 M.2.2.2.2.2.1 (i, pl, st, hp) = pm_ldL i pl st hp k := pm_step_some hop
        rw [hs] at h
        have hln := hlen
        obtain rfl : len = 1 := hln.elim (fun q => absurd (show (1 : Nat) = 0 from q) (by decide)) (fun q => q)
        obtain ⟨x, h1, h2⟩ := pm_ldL_inv h
        exact lv_lload_n hx hb hdec rfl (hL.ld h1) (go h2 hL hN hP hS)
      | istore k =>
        have hs : pm_step call M.2.2.2.1 M.2.2.2.2.2.1 (i, pl, st, hp) = pm_stI i pl st hp k := pm_step_some hop
        rw [hs] at h
        have hln := hlen
        obtain rfl : len = 2 := hln.elim (fun q => absurd (show (2 : Nat) = 0 from q) (by decide)) (fun q => q)
        obtain ⟨x, st2, rfl, h2⟩ := pm_stI_inv h
        have hk : pm_oks M.2.2.1 M.2.2.2.2.1 k = true := hck
        have hk1 : (k : Nat) < M.2.2.1 := by have := hk; unfold pm_oks at this; simp only [Bool.and_eq_true, decide_eq_true_eq] at this; exact this.1
        exact lv_istore hx hb hdec hL.has hk1 rfl (fun ls2 hl2 => go h2 (hL.st1 (v := .int x) hk rfl hl2) hN hP hS)
      | istore_n k =>
        have hs : pm_step call M.2.2.2.1 M.2.2.2.2.2.1 (i, pl, st, hp) = pm_stI i pl st hp k := pm_step_some hop
        rw [hs] at h
        have hln := hlen
        obtain rfl : len = 1 := hln.elim (fun q => absurd (show (1 : Nat) = 0 from q) (by decide)) (fun q => q)
        obtain ⟨x, st2, rfl, h2⟩ := pm_stI_inv h
        have hk : pm_oks M.2.2.1 M.2.2.2.2.1 k = true := hck
        have hk1 : (k : Nat) < M.2.2.1 := by have := hk; unfold pm_oks at this; simp only [Bool.and_eq_true, decide_eq_true_eq] at this; exact this.1
        exact lv_istore_n hx hb hdec rfl hL.has hk1 rfl (fun ls2 hl2 => go h2 (hL.st1 (v := .int x) hk rfl hl2) hN hP hS)
      | lstore k =>
        have hs : pm_step call M.2.2.2.1 M.2.2.2.2.2.1 (i, pl, st, hp) = pm_stL i pl st hp k := pm_step_some hop
        rw [hs] at h
        have hln := hlen
        obtain rfl : len = 2 := hln.elim (fun q => absurd (show (2 : Nat) = 0 from q) (by decide)) (fun q => q)
        obtain ⟨x, st2, rfl, h2⟩ := pm_stL_inv h
        have hk : pm_okl M.2.2.1 M.2.2.2.2.1 k = true := hck
        have hk1 : (k : Nat) + 1 < M.2.2.1 := by have := hk; unfold pm_okl at this; simp only [Bool.and_eq_true, decide_eq_true_eq] at this; exact this.1
        exact lv_lstore hx hb hdec hL.has hk1 rfl (fun ls2 hl2 => go h2 (hL.st2 (v := .long x) hk hl2) hN hP hS)
      | lstore_n k =>
        have hs : pm_step call M.2.2.2.1 M.2.2.2.2.2.1 (i, pl, st, hp) = pm_stL i pl st hp k := pm_step_some hop
        rw [hs] at h
        have hln := hlen
        obtain rfl : len = 1 := hln.elim (fun q => absurd (show (1 : Nat) = 0 from q) (by decide)) (fun q => q)
        obtain ⟨x, st2, rfl, h2⟩ := pm_stL_inv h
        have hk : pm_okl M.2.2.1 M.2.2.2.2.1 k = true := hck
        have hk1 : (k : Nat) + 1 < M.2.2.1 := by have := hk; unfold pm_okl at this; simp only [Bool.and_eq_true, decide_eq_true_eq] at this; exact this.1
        exact lv_lstore_n hx hb hdec rfl hL.has hk1 rfl (fun ls2 hl2 => go h2 (hL.st2 (v := .long x) hk hl2) hN hP hS)
      | iconst k =>
        have hs : pm_step call M.2.2.2.1 M.2.2.2.2.2.1 (i, pl, st, hp) = pm_cI i pl st hp v := pm_step_some hop
        rw [hs] at h
        have hln := hlen
        obtain rfl : len = 1 := hln.elim (fun q => absurd (show (1 : Nat) = 0 from q) (by decide)) (fun q => q)
        obtain ⟨x, rfl, h2⟩ := pm_cI_inv h
        have hk : Value.int x = .int (Int32.ofInt k) := of_decide_eq_true (show decide (Value.int x = .int (Int32.ofInt k)) = true from hck)
        exact lv_iconst hx hb hdec (Value.int.inj hk).symm (go h2 hL hN hP hS)
      | bipush k =>
        have hs : pm_step call M.2.2.2.1 M.2.2.2.2.2.1 (i, pl, st, hp) = pm_cI i pl st hp v := pm_step_some hop
        rw [hs] at h
        have hln := hlen
        obtain rfl : len = 2 := hln.elim (fun q => absurd (show (2 : Nat) = 0 from q) (by decide)) (fun q => q)
        obtain ⟨x, rfl, h2⟩ := pm_cI_inv h
        have hk : Value.int x = .int ((Int8.ofInt k).toInt32) := of_decide_eq_true (show decide (Value.int x = .int ((Int8.ofInt k).toInt32)) = true from hck)
        exact lv_bipush hx hb hdec (Value.int.inj hk).symm (go h2 hL hN hP hS)
      | sipush k =>
        have hs : pm_step call M.2.2.2.1 M.2.2.2.2.2.1 (i, pl, st, hp) = pm_cI i pl st hp v := pm_step_some hop
        rw [hs] at h
        have hln := hlen
        obtain rfl : len = 3 := hln.elim (fun q => absurd (show (3 : Nat) = 0 from q) (by decide)) (fun q => q)
        obtain ⟨x, rfl, h2⟩ := pm_cI_inv h
        have hk : Value.int x = .int ((Int16.ofInt k).toInt32) := of_decide_eq_true (show decide (Value.int x = .int ((Int16.ofInt k).toInt32)) = true from hck)
        exact lv_sipush hx hb hdec (Value.int.inj hk).symm (go h2 hL hN hP hS)
      | lconst k =>
        have hs : pm_step call M.2.2.2.1 M.2.2.2.2.2.1 (i, pl, st, hp) = pm_cL i pl st hp v := pm_step_some hop
        rw [hs] at h
        have hln := hlen
        obtain rfl : len = 1 := hln.elim (fun q => absurd (show (1 : Nat) = 0 from q) (by decide)) (fun q => q)
        obtain ⟨x, rfl, h2⟩ := pm_cL_inv h
        have hk : Value.long x = .long (Int64.ofNat (k : Nat)) := of_decide_eq_true (show decide (Value.long x = .long (Int64.ofNat (k : Nat))) = true from hck)
        exact lv_lconst hx hb hdec (Value.long.inj hk).symm (go h2 hL hN hP hS)
      | ldc_w k =>
        have hs : pm_step call M.2.2.2.1 M.2.2.2.2.2.1 (i, pl, st, hp) = pm_cI i pl st hp v := pm_step_some hop
        rw [hs] at h
        have hln := hlen
        obtain rfl : len = 3 := hln.elim (fun q => absurd (show (3 : Nat) = 0 from q) (by decide)) (fun q => q)
        obtain ⟨x, rfl, h2⟩ := pm_cI_inv h
        have hk : P.2.2.1[aux.getD 0 0]? = some (.constant M.1.cls k x) := of_decide_eq_true (show decide (P.2.2.1[aux.getD 0 0]? = some (.constant M.1.cls k x)) = true from hck)
        exact lv_ldcw hx hb hown (hts _ (List.mem_of_getElem? hk)) hdec (go h2 hL hN hP hS)
      | ldc2_w k =>
        have hs : pm_step call M.2.2.2.1 M.2.2.2.2.2.1 (i, pl, st, hp) = pm_cL i pl st hp v := pm_step_some hop
        rw [hs] at h
        have hln := hlen
        obtain rfl : len = 3 := hln.elim (fun q => absurd (show (3 : Nat) = 0 from q) (by decide)) (fun q => q)
        obtain ⟨x, rfl, h2⟩ := pm_cL_inv h
        have hk : P.2.2.1[aux.getD 0 0]? = some (.constantLong M.1.cls k x) := of_decide_eq_true (show decide (P.2.2.1[aux.getD 0 0]? = some (.constantLong M.1.cls k x)) = true from hck)
        exact lv_ldc2 hx hb hown (hts _ (List.mem_of_getElem? hk)) hdec (go h2 hL hN hP hS)
      | iadd =>
        have hs : pm_step call M.2.2.2.1 M.2.2.2.2.2.1 (i, pl, st, hp) = pm_b2 i pl st hp (fun x y => x + y) := pm_step_some hop
        rw [hs] at h
        have hln := hlen
        obtain rfl : len = 1 := hln.elim (fun q => absurd (show (1 : Nat) = 0 from q) (by decide)) (fun q => q)
        obtain ⟨x, y, st2, rfl, h2⟩ := pm_b2_inv h
        exact lv_iadd hx hb hdec (go h2 hL hN hP hS)
      | isub =>
        have hs : pm_step call M.2.2.2.1 M.2.2.2.2.2.1 (i, pl, st, hp) = pm_b2 i pl st hp (fun x y => x - y) := pm_step_some hop
        rw [hs] at h
        have hln := hlen
        obtain rfl : len = 1 := hln.elim (fun q => absurd (show (1 : Nat) = 0 from q) (by decide)) (fun q => q)
        obtain ⟨x, y, st2, rfl, h2⟩ := pm_b2_inv h
        exact lv_isub hx hb hdec (go h2 hL hN hP hS)
      | imul =>
        have hs : pm_step call M.2.2.2.1 M.2.2.2.2.2.1 (i, pl, st, hp) = pm_b2 i pl st hp (fun x y => x * y) := pm_step_some hop
        rw [hs] at h
        have hln := hlen
        obtain rfl : len = 1 := hln.elim (fun q => absurd (show (1 : Nat) = 0 from q) (by decide)) (fun q => q)
        obtain ⟨x, y, st2, rfl, h2⟩ := pm_b2_inv h
        exact lv_imul hx hb hdec (go h2 hL hN hP hS)
      | iand =>
        have hs : pm_step call M.2.2.2.1 M.2.2.2.2.2.1 (i, pl, st, hp) = pm_b2 i pl st hp (fun x y => x &&& y) := pm_step_some hop
        rw [hs] at h
        have hln := hlen
        obtain rfl : len = 1 := hln.elim (fun q => absurd (show (1 : Nat) = 0 from q) (by decide)) (fun q => q)
        obtain ⟨x, y, st2, rfl, h2⟩ := pm_b2_inv h
        exact lv_iand hx hb hdec (go h2 hL hN hP hS)
      | ior =>
        have hs : pm_step call M.2.2.2.1 M.2.2.2.2.2.1 (i, pl, st, hp) = pm_b2 i pl st hp (fun x y => x ||| y) := pm_step_some hop
        rw [hs] at h
        have hln := hlen
        obtain rfl : len = 1 := hln.elim (fun q => absurd (show (1 : Nat) = 0 from q) (by decide)) (fun q => q)
        obtain ⟨x, y, st2, rfl, h2⟩ := pm_b2_inv h
        exact lv_ior hx hb hdec (go h2 hL hN hP hS)
      | ishl =>
        have hs : pm_step call M.2.2.2.1 M.2.2.2.2.2.1 (i, pl, st, hp) = pm_b2 i pl st hp (fun x y => x <<< (y &&& 31)) := pm_step_some hop
        rw [hs] at h
        have hln := hlen
        obtain rfl : len = 1 := hln.elim (fun q => absurd (show (1 : Nat) = 0 from q) (by decide)) (fun q => q)
        obtain ⟨x, y, st2, rfl, h2⟩ := pm_b2_inv h
        exact lv_ishl hx hb hdec (go h2 hL hN hP hS)
      | ishr =>
        have hs : pm_step call M.2.2.2.1 M.2.2.2.2.2.1 (i, pl, st, hp) = pm_b2 i pl st hp (fun x y => x >>> (y &&& 31)) := pm_step_some hop
        rw [hs] at h
        have hln := hlen
        obtain rfl : len = 1 := hln.elim (fun q => absurd (show (1 : Nat) = 0 from q) (by decide)) (fun q => q)
        obtain ⟨x, y, st2, rfl, h2⟩ := pm_b2_inv h
        exact lv_ishr hx hb hdec (go h2 hL hN hP hS)
      | iushr =>
        have hs : pm_step call M.2.2.2.1 M.2.2.2.2.2.1 (i, pl, st, hp) = pm_b2 i pl st hp (fun x y => (x.toUInt32 >>> (y.toUInt32 &&& Int32.toUInt32 31)).toInt32) := pm_step_some hop
        rw [hs] at h
        have hln := hlen
        obtain rfl : len = 1 := hln.elim (fun q => absurd (show (1 : Nat) = 0 from q) (by decide)) (fun q => q)
        obtain ⟨x, y, st2, rfl, h2⟩ := pm_b2_inv h
        exact lv_iushr hx hb hdec rfl (go h2 hL hN hP hS)
      | idiv =>
        have hs : pm_step call M.2.2.2.1 M.2.2.2.2.2.1 (i, pl, st, hp) = pm_d2 i pl st hp (fun x y => x / y) := pm_step_some hop
        rw [hs] at h
        have hln := hlen
        obtain rfl : len = 1 := hln.elim (fun q => absurd (show (1 : Nat) = 0 from q) (by decide)) (fun q => q)
        obtain ⟨x, y, st2, rfl, hy, h2⟩ := pm_d2_inv h
        exact lv_idiv hx hb hdec hy (go h2 hL hN hP hS)
      | irem =>
        have hs : pm_step call M.2.2.2.1 M.2.2.2.2.2.1 (i, pl, st, hp) = pm_d2 i pl st hp (fun x y => x - x / y * y) := pm_step_some hop
        rw [hs] at h
        have hln := hlen
        obtain rfl : len = 1 := hln.elim (fun q => absurd (show (1 : Nat) = 0 from q) (by decide)) (fun q => q)
        obtain ⟨x, y, st2, rfl, hy, h2⟩ := pm_d2_inv h
        exact lv_irem hx hb hdec hy (go h2 hL hN hP hS)
      | ladd =>
        have hs : pm_step call M.2.2.2.1 M.2.2.2.2.2.1 (i, pl, st, hp) = pm_l2 i pl st hp (fun x y => x + y) := pm_step_some hop
        rw [hs] at h
        have hln := hlen
        obtain rfl : len = 1 := hln.elim (fun q => absurd (show (1 : Nat) = 0 from q) (by decide)) (fun q => q)
        obtain ⟨x, y, st2, rfl, h2⟩ := pm_l2_inv h
        exact lv_ladd hx hb hdec (go h2 hL hN hP hS)
      | lsub =>
        have hs : pm_step call M.2.2.2.1 M.2.2.2.2.2.1 (i, pl, st, hp) = pm_l2 i pl st hp (fun x y => x - y) := pm_step_some hop
        rw [hs] at h
        have hln := hlen
        obtain rfl : len = 1 := hln.elim (fun q => absurd (show (1 : Nat) = 0 from q) (by decide)) (fun q => q)
        obtain ⟨x, y, st2, rfl, h2⟩ := pm_l2_inv h
        exact lv_lsub hx hb hdec (go h2 hL hN hP hS)
      | lmul =>
        have hs : pm_step call M.2.2.2.1 M.2.2.2.2.2.1 (i, pl, st, hp) = pm_l2 i pl st hp (fun x y => x * y) := pm_step_some hop
        rw [hs] at h
        have hln := hlen
        obtain rfl : len = 1 := hln.elim (fun q => absurd (show (1 : Nat) = 0 from q) (by decide)) (fun q => q)
        obtain ⟨x, y, st2, rfl, h2⟩ := pm_l2_inv h
        exact lv_lmul hx hb hdec (go h2 hL hN hP hS)
      | ldiv =>
        have hs : pm_step call M.2.2.2.1 M.2.2.2.2.2.1 (i, pl, st, hp) = pm_e2 i pl st hp (fun x y => x / y) := pm_step_some hop
        rw [hs] at h
        have hln := hlen
        obtain rfl : len = 1 := hln.elim (fun q => absurd (show (1 : Nat) = 0 from q) (by decide)) (fun q => q)
        obtain ⟨x, y, st2, rfl, hy, h2⟩ := pm_e2_inv h
        exact lv_ldiv hx hb hdec hy (go h2 hL hN hP hS)
      | lrem =>
        have hs : pm_step call M.2.2.2.1 M.2.2.2.2.2.1 (i, pl, st, hp) = pm_e2 i pl st hp (fun x y => x - x / y * y) := pm_step_some hop
        rw [hs] at h
        have hln := hlen
        obtain rfl : len = 1 := hln.elim (fun q => absurd (show (1 : Nat) = 0 from q) (by decide)) (fun q => q)
        obtain ⟨x, y, st2, rfl, hy, h2⟩ := pm_e2_inv h
        exact lv_lrem hx hb hdec hy (go h2 hL hN hP hS)
      | ineg =>
        have hs : pm_step call M.2.2.2.1 M.2.2.2.2.2.1 (i, pl, st, hp) = pm_ng i pl st hp := pm_step_some hop
        rw [hs] at h
        have hln := hlen
        obtain rfl : len = 1 := hln.elim (fun q => absurd (show (1 : Nat) = 0 from q) (by decide)) (fun q => q)
        unfold pm_ng at h
        split at h
        · rename_i x st2
          exact lv_ineg hx hb hdec (go (st2 := .int (-x) :: st2) h hL hN hP hS)
        · cases h
      | lushr =>
        have hs : pm_step call M.2.2.2.1 M.2.2.2.2.2.1 (i, pl, st, hp) = pm_lu i pl st hp := pm_step_some hop
        rw [hs] at h
        have hln := hlen
        obtain rfl : len = 1 := hln.elim (fun q => absurd (show (1 : Nat) = 0 from q) (by decide)) (fun q => q)
        unfold pm_lu at h
        split at h
        · rename_i y x st2
          exact lv_lushr hx hb hdec rfl (go (st2 := .long (x.toUInt64 >>> (y.toInt64.toUInt64 &&& Int64.toUInt64 63)).toInt64 :: st2) h hL hN hP hS)
        · cases h
      | i2l =>
        have hs : pm_step call M.2.2.2.1 M.2.2.2.2.2.1 (i, pl, st, hp) = pm_il i pl st hp := pm_step_some hop
        rw [hs] at h
        have hln := hlen
        obtain rfl : len = 1 := hln.elim (fun q => absurd (show (1 : Nat) = 0 from q) (by decide)) (fun q => q)
        unfold pm_il at h
        split at h
        · rename_i x st2
          exact lv_i2l hx hb hdec rfl (go (st2 := .long x.toInt64 :: st2) h hL hN hP hS)
        · cases h
      | l2i =>
        have hs : pm_step call M.2.2.2.1 M.2.2.2.2.2.1 (i, pl, st, hp) = pm_li i pl st hp := pm_step_some hop
        rw [hs] at h
        have hln := hlen
        obtain rfl : len = 1 := hln.elim (fun q => absurd (show (1 : Nat) = 0 from q) (by decide)) (fun q => q)
        unfold pm_li at h
        split at h
        · rename_i x st2
          exact lv_l2i hx hb hdec rfl (go (st2 := .int x.toInt32 :: st2) h hL hN hP hS)
        · cases h
      | lcmp =>
        have hs : pm_step call M.2.2.2.1 M.2.2.2.2.2.1 (i, pl, st, hp) = pm_lc i pl st hp := pm_step_some hop
        rw [hs] at h
        have hln := hlen
        obtain rfl : len = 1 := hln.elim (fun q => absurd (show (1 : Nat) = 0 from q) (by decide)) (fun q => q)
        unfold pm_lc at h
        split at h
        · rename_i y x st2
          exact W.lcmp hx hb hdec (go (st2 := .int (lg_cmp x y) :: st2) h hL hN hP hS)
        · cases h
      | goto off =>
        have hs : pm_step call M.2.2.2.1 M.2.2.2.2.2.1 (i, pl, st, hp) = .inl (a, pl, st, hp) := pm_step_some hop
        rw [hs] at h
        have hln := hlen
        obtain rfl : len = 3 := hln.elim (fun q => absurd (show (3 : Nat) = 0 from q) (by decide)) (fun q => q)
        have hk : (pc : Int) + off = (pm_pc M.2.2.2.2.2.1 a : Int) := of_decide_eq_true (show decide ((pc : Int) + off = (pm_pc M.2.2.2.2.2.1 a : Int)) = true from hck)
        exact lv_goto hx hb hdec hk (ih a pl st hp ls H locs h hL hN hP hS)
      | ifCond cd off =>
        have hk : (pc : Int) + off = (pm_pc M.2.2.2.2.2.1 a : Int) := of_decide_eq_true (show decide ((pc : Int) + off = (pm_pc M.2.2.2.2.2.1 a : Int)) = true from hck)
        have hln := hlen
        obtain rfl : len = 3 := hln.elim (fun q => absurd (show (3 : Nat) = 0 from q) (by decide)) (fun q => q)
        cases cd with
        | eq =>
          have hs : pm_step call M.2.2.2.1 M.2.2.2.2.2.1 (i, pl, st, hp) = pm_i1 i pl st hp a (fun x t f => if x = 0 then t else f) := pm_step_some hop
          rw [hs] at h
          obtain ⟨x, st2, rfl, h2⟩ := pm_i1_inv h
          try dsimp only at h2
          exact lv_if_eq hx hb hdec hk (fun q => ih a pl st2 hp ls H locs (by rw [if_pos q] at h2; exact h2) hL hN hP hS) (fun q => go (by rw [if_neg q] at h2; exact h2) hL hN hP hS)
        | ne =>
          have hs : pm_step call M.2.2.2.1 M.2.2.2.2.2.1 (i, pl, st, hp) = pm_i1 i pl st hp a (fun x t f => if x = 0 then f else t) := pm_step_some hop
          rw [hs] at h
          obtain ⟨x, st2, rfl, h2⟩ := pm_i1_inv h
          try dsimp only at h2
          exact lv_if_ne hx hb hdec hk (fun q => ih a pl st2 hp ls H locs (by rw [if_neg q] at h2; exact h2) hL hN hP hS) (fun q => go (by rw [if_pos q] at h2; exact h2) hL hN hP hS)
        | lt =>
          have hs : pm_step call M.2.2.2.1 M.2.2.2.2.2.1 (i, pl, st, hp) = pm_i1 i pl st hp a (fun x t f => if x < 0 then t else f) := pm_step_some hop
          rw [hs] at h
          obtain ⟨x, st2, rfl, h2⟩ := pm_i1_inv h
          try dsimp only at h2
          exact lv_if_lt hx hb hdec hk (fun q => ih a pl st2 hp ls H locs (by rw [if_pos q] at h2; exact h2) hL hN hP hS) (fun q => go (by rw [if_neg q] at h2; exact h2) hL hN hP hS)
        | ge =>
          have hs : pm_step call M.2.2.2.1 M.2.2.2.2.2.1 (i, pl, st, hp) = pm_i1 i pl st hp a (fun x t f => if x < 0 then f else t) := pm_step_some hop
          rw [hs] at h
          obtain ⟨x, st2, rfl, h2⟩ := pm_i1_inv h
          try dsimp only at h2
          exact lv_if_ge hx hb hdec hk (fun q => ih a pl st2 hp ls H locs (by rw [if_neg (Int32.not_lt.mpr q)] at h2; exact h2) hL hN hP hS) (fun q => go (by rw [if_pos (Int32.not_le.mp q)] at h2; exact h2) hL hN hP hS)
        | gt =>
          have hs : pm_step call M.2.2.2.1 M.2.2.2.2.2.1 (i, pl, st, hp) = pm_i1 i pl st hp a (fun x t f => if 0 < x then t else f) := pm_step_some hop
          rw [hs] at h
          obtain ⟨x, st2, rfl, h2⟩ := pm_i1_inv h
          try dsimp only at h2
          exact lv_if_gt hx hb hdec hk (fun q => ih a pl st2 hp ls H locs (by rw [if_pos q] at h2; exact h2) hL hN hP hS) (fun q => go (by rw [if_neg q] at h2; exact h2) hL hN hP hS)
        | le =>
          have hs : pm_step call M.2.2.2.1 M.2.2.2.2.2.1 (i, pl, st, hp) = pm_i1 i pl st hp a (fun x t f => if 0 < x then f else t) := pm_step_some hop
          rw [hs] at h
          obtain ⟨x, st2, rfl, h2⟩ := pm_i1_inv h
          try dsimp only at h2
          exact lv_if_le hx hb hdec hk (fun q => ih a pl st2 hp ls H locs (by rw [if_neg (Int32.not_lt.mpr q)] at h2; exact h2) hL hN hP hS) (fun q => go (by rw [if_pos (Int32.not_le.mp q)] at h2; exact h2) hL hN hP hS)
      | if_icmp cd off =>
        have hk : (pc : Int) + off = (pm_pc M.2.2.2.2.2.1 a : Int) := of_decide_eq_true (show decide ((pc : Int) + off = (pm_pc M.2.2.2.2.2.1 a : Int)) = true from hck)
        have hln := hlen
        obtain rfl : len = 3 := hln.elim (fun q => absurd (show (3 : Nat) = 0 from q) (by decide)) (fun q => q)
        cases cd with
        | eq =>
          have hs : pm_step call M.2.2.2.1 M.2.2.2.2.2.1 (i, pl, st, hp) = pm_i2 i pl st hp a (fun x y t f => if x = y then t else f) := pm_step_some hop
          rw [hs] at h
          obtain ⟨x, y, st2, rfl, h2⟩ := pm_i2_inv h
          try dsimp only at h2
          exact lv_icmp_eq hx hb hdec hk (fun q => ih a pl st2 hp ls H locs (by rw [if_pos q] at h2; exact h2) hL hN hP hS) (fun q => go (by rw [if_neg q] at h2; exact h2) hL hN hP hS)
        | ne =>
          have hs : pm_step call M.2.2.2.1 M.2.2.2.2.2.1 (i, pl, st, hp) = pm_i2 i pl st hp a (fun x y t f => if x = y then f else t) := pm_step_some hop
          rw [hs] at h
          obtain ⟨x, y, st2, rfl, h2⟩ := pm_i2_inv h
          try dsimp only at h2
          exact lv_icmp_ne hx hb hdec hk (fun q => ih a pl st2 hp ls H locs (by rw [if_neg q] at h2; exact h2) hL hN hP hS) (fun q => go (by rw [if_pos q] at h2; exact h2) hL hN hP hS)
        | lt =>
          have hs : pm_step call M.2.2.2.1 M.2.2.2.2.2.1 (i, pl, st, hp) = pm_i2 i pl st hp a (fun x y t f => if x < y then t else f) := pm_step_some hop
          rw [hs] at h
          obtain ⟨x, y, st2, rfl, h2⟩ := pm_i2_inv h
          try dsimp only at h2
          exact lv_icmp_lt hx hb hdec hk (fun q => ih a pl st2 hp ls H locs (by rw [if_pos q] at h2; exact h2) hL hN hP hS) (fun q => go (by rw [if_neg q] at h2; exact h2) hL hN hP hS)
        | ge =>
          have hs : pm_step call M.2.2.2.1 M.2.2.2.2.2.1 (i, pl, st, hp) = pm_i2 i pl st hp a (fun x y t f => if x < y then f else t) := pm_step_some hop
          rw [hs] at h
          obtain ⟨x, y, st2, rfl, h2⟩ := pm_i2_inv h
          try dsimp only at h2
          exact lv_icmp_ge hx hb hdec hk (fun q => ih a pl st2 hp ls H locs (by rw [if_neg (Int32.not_lt.mpr q)] at h2; exact h2) hL hN hP hS) (fun q => go (by rw [if_pos (Int32.not_le.mp q)] at h2; exact h2) hL hN hP hS)
        | gt =>
          have hs : pm_step call M.2.2.2.1 M.2.2.2.2.2.1 (i, pl, st, hp) = pm_i2 i pl st hp a (fun x y t f => if y < x then t else f) := pm_step_some hop
          rw [hs] at h
          obtain ⟨x, y, st2, rfl, h2⟩ := pm_i2_inv h
          try dsimp only at h2
          exact lv_icmp_gt hx hb hdec hk (fun q => ih a pl st2 hp ls H locs (by rw [if_pos q] at h2; exact h2) hL hN hP hS) (fun q => go (by rw [if_neg q] at h2; exact h2) hL hN hP hS)
        | le =>
          have hs : pm_step call M.2.2.2.1 M.2.2.2.2.2.1 (i, pl, st, hp) = pm_i2 i pl st hp a (fun x y t f => if y < x then f else t) := pm_step_some hop
          rw [hs] at h
          obtain ⟨x, y, st2, rfl, h2⟩ := pm_i2_inv h
          try dsimp only at h2
          exact lv_icmp_le hx hb hdec hk (fun q => ih a pl st2 hp ls H locs (by rw [if_neg (Int32.not_lt.mpr q)] at h2; exact h2) hL hN hP hS) (fun q => go (by rw [if_pos (Int32.not_le.mp q)] at h2; exact h2) hL hN hP hS)
      | iinc k z =>
        have hs : pm_step call M.2.2.2.1 M.2.2.2.2.2.1 (i, pl, st, hp) = pm_ii i pl st hp k v := pm_step_some hop
        rw [hs] at h
        unfold pm_ii at h
        have hln := hlen
        obtain rfl : len = 3 := hln.elim (fun q => absurd (show (3 : Nat) = 0 from q) (by decide)) (fun q => q)
        have hk0 : (pm_oks M.2.2.1 M.2.2.2.2.1 k && decide (v = .int (Int32.ofInt z))) = true := hck
        simp only [Bool.and_eq_true, decide_eq_true_eq] at hk0
        obtain ⟨hk, rfl⟩ := hk0
        have hk1 : k < M.2.2.1 := by have := hk; unfold pm_oks at this; simp only [Bool.and_eq_true, decide_eq_true_eq] at this; exact this.1
        split at h
        · rename_i x hx1
          have hx2 : pl[k]? = some (some (.int x)) := by
            unfold pm_ld at hx1
            split at hx1
            · rename_i u hu; cases hx1; exact hu
            · cases hx1
          obtain ⟨j, hj⟩ := List.getElem?_of_mem (pm_lv_mem (ad := ad) hx2)
          exact lv_iinc hx hb hdec hL.has hj rfl hk1 rfl (fun ls2 hl2 => go (pl2 := pl.set k (some (.int (x + Int32.ofInt z)))) (st2 := st) h (hL.st1 (v := .int (x + Int32.ofInt z)) hk rfl hl2) hN hP hS)
        · cases h
      | tableswitch df lo hi offs =>
        have hs : pm_step call M.2.2.2.1 M.2.2.2.2.2.1 (i, pl, st, hp) = pm_ts pl st hp a sw := pm_step_some hop
        rw [hs] at h
        unfold pm_ts at h
        have hk0 : (decide ((pc : Int) + df = (pm_pc M.2.2.2.2.2.1 a : Int)) && (decide (hi + 1 = lo + offs.toList.length) && pm_swT M.2.2.2.2.2.1 pc lo sw offs.toList)) = true := hck
        simp only [Bool.and_eq_true, decide_eq_true_eq] at hk0
        split at h
        · rename_i x st2
          rcases pm_swT_to (k := fun t => .inl (t, pl, st2, hp)) (x := x) (d := a) sw offs.toList lo hk0.2.2 with ⟨t, off, h1, h2, h3, h4, h5⟩ | ⟨h1, h2⟩
          · rw [h1] at h
            exact lv_tableIn hx hb hdec h2 (by omega) (by rw [← Array.getElem?_toList]; exact h4) h5 (ih t pl st2 hp ls H locs h hL hN hP hS)
          · rw [h1] at h
            exact lv_tableOut hx hb hdec (by omega) hk0.1 (ih a pl st2 hp ls H locs h hL hN hP hS)
        · cases h
      | lookupswitch df ps =>
        have hs : pm_step call M.2.2.2.1 M.2.2.2.2.2.1 (i, pl, st, hp) = pm_ts pl st hp a sw := pm_step_some hop
        rw [hs] at h
        unfold pm_ts at h
        have hk0 : (decide ((pc : Int) + df = (pm_pc M.2.2.2.2.2.1 a : Int)) && ((ps.toList.zip (ps.toList.drop 1)).all (fun (a, next) => a.1 < next.1) && pm_swL M.2.2.2.2.2.1 pc sw ps.toList)) = true := hck
        rw [Bool.and_eq_true, Bool.and_eq_true, decide_eq_true_eq] at hk0
        split at h
        · rename_i x st2
          obtain ⟨t, h1, h2⟩ := pm_swL_to hk0.1 (k := fun t => .inl (t, pl, st2, hp)) (x := x) sw ps.toList hk0.2.2
          rw [h1] at h
          exact lv_lookup hx hb hdec hk0.2.1 rfl h2 (ih t pl st2 hp ls H locs h hL hN hP hS)
        · cases h
      | dup =>
        have hs : pm_step call M.2.2.2.1 M.2.2.2.2.2.1 (i, pl, st, hp) = pm_du i pl st hp := pm_step_some hop
        rw [hs] at h
        have hln := hlen
        obtain rfl : len = 1 := hln.elim (fun q => absurd (show (1 : Nat) = 0 from q) (by decide)) (fun q => q)
        unfold pm_du at h
        split at h
        · rename_i x st2
          exact lv_dup (va := .int x) hx hb hdec rfl (go (st2 := .int x :: .int x :: st2) h hL hN hP hS)
        · rename_i x st2
          exact lv_dup (va := .ref (ad x)) hx hb hdec rfl (go (st2 := .ref x :: .ref x :: st2) h hL hN hP hS)
        · cases h
      | dup2 =>
        have hs : pm_step call M.2.2.2.1 M.2.2.2.2.2.1 (i, pl, st, hp) = pm_dd i pl st hp := pm_step_some hop
        rw [hs] at h
        have hln := hlen
        obtain rfl : len = 1 := hln.elim (fun q => absurd (show (1 : Nat) = 0 from q) (by decide)) (fun q => q)
        unfold pm_dd at h
        split at h
        · rename_i x y st2
          exact lv_dup2_11 (va := .int x) (vb := .ref (ad y)) hx hb hdec rfl rfl (go (st2 := .int x :: .ref y :: .int x :: .ref y :: st2) h hL hN hP hS)
        · rename_i x st2
          exact lv_dup2_2 (va := .long x) hx hb hdec rfl (go (st2 := .long x :: .long x :: st2) h hL hN hP hS)
        · cases h
      | pop =>
        have hs : pm_step call M.2.2.2.1 M.2.2.2.2.2.1 (i, pl, st, hp) = pm_po i pl st hp := pm_step_some hop
        rw [hs] at h
        have hln := hlen
        obtain rfl : len = 1 := hln.elim (fun q => absurd (show (1 : Nat) = 0 from q) (by decide)) (fun q => q)
        unfold pm_po at h
        split at h
        · rename_i x st2
          exact lv_pop (va := .int x) hx hb hdec rfl (go (st2 := st2) h hL hN hP hS)
        · cases h
      | getfield k =>
        have hs : pm_step call M.2.2.2.1 M.2.2.2.2.2.1 (i, pl, st, hp) = pm_gf i pl st hp a aux := pm_step_some hop
        rw [hs] at h
        have hln := hlen
        obtain rfl : len = 3 := hln.elim (fun q => absurd (show (3 : Nat) = 0 from q) (by decide)) (fun q => q)
        obtain ⟨x, st2, fs, u, rfl, h1, h2, h3⟩ := pm_gf_inv h
        cases hq : P.2.1[aux.getD 0 0]? with
        | none => unfold pm_chk at hck; dsimp only at hck; rw [hq] at hck; cases hck
        | some q =>
          have hk : (decide (a < q.2.2) && decide (P.2.2.1[aux.getD 1 0]? = some (.fieldLink M.1.cls k (q.2.1 a).1 (q.2.1 a).2.1 (q.2.1 a).2.2.1))) = true := by unfold pm_chk at hck; dsimp only at hck; rw [hq] at hck; exact hck
          simp only [Bool.and_eq_true, decide_eq_true_eq] at hk
          obtain ⟨q1, q2, q3⟩ := q
          exact va_get (D := D) (ci := aux.getD 0 0) (v := pm_vm ad u) (C := q1) (T := q2) (N := q3) hx hb hts ((hok2 _ (List.mem_of_getElem? hq)).1) hown hK hP x (pm_ws_at h1) hq a hk.1 (hts _ (List.mem_of_getElem? hk.2)) (fun _ h9 => h9) (by rw [List.getElem?_map, h2]; rfl) hdec (go h3 hL hN hP hS)
      | putfield k =>
        have hs : pm_step call M.2.2.2.1 M.2.2.2.2.2.1 (i, pl, st, hp) = pm_pf i pl st hp a v aux := pm_step_some hop
        rw [hs] at h
        have hln := hlen
        obtain rfl : len = 3 := hln.elim (fun q => absurd (show (3 : Nat) = 0 from q) (by decide)) (fun q => q)
        obtain ⟨u, x, st2, fs, rfl, hw, h1, h2, h3⟩ := pm_pf_inv h
        cases hq : P.2.1[aux.getD 0 0]? with
        | none => unfold pm_chk at hck; dsimp only at hck; rw [hq] at hck; cases hck
        | some q =>
          have hk : (decide (a < q.2.2) && (decide (P.2.2.1[aux.getD 1 0]? = some (.fieldLink M.1.cls k (q.2.1 a).1 (q.2.1 a).2.1 (q.2.1 a).2.2.1)) && (decide ((q.2.1 a).2.2.2 = false) && pm_fty v (parseFieldDescriptor (q.2.1 a).2.2.1)))) = true := by unfold pm_chk at hck; dsimp only at hck; rw [hq] at hck; exact hck
          rw [Bool.and_eq_true, Bool.and_eq_true, Bool.and_eq_true, decide_eq_true_eq, decide_eq_true_eq, decide_eq_true_eq] at hk
          obtain ⟨q1, q2, q3⟩ := q
          have hc := hok2 _ (List.mem_of_getElem? hq)
          have hset : ∀ w : Value, (pm_ws ad cA hp).set x (ad x, .inr (aux.getD 0 0, (fs.map (pm_vm ad)).set a (pm_vm ad w))) = pm_ws ad cA (hp.set x (.inr (aux.getD 0 0, fs.set a w))) := by
            intro w
            rw [← List.map_set]
            exact pm_ws_set (x := .inr (aux.getD 0 0, fs.set a w))
          have hlN : (hp.set x (.inr (aux.getD 0 0, fs.set a u))).length = N := by rw [List.length_set]; exact hN
          have hty : ∀ k1, k1 < q3 → parseFieldDescriptor (q2 k1).2.2.1 = some ((parseFieldDescriptor (q2 k1).2.2.1).getD .int) := by
            intro k1 hk1
            have := hc.2.1 k1 hk1
            dsimp only at this
            cases hz : parseFieldDescriptor (q2 k1).2.2.1 with
            | none => rw [hz] at this; cases this
            | some z => rfl
          rcases hw with ⟨y, z, rfl, rfl⟩ | ⟨y, z, rfl, rfl⟩
          · refine va_put (D := D) (ci := aux.getD 0 0) (v := .int y) (ty := .int) (C := q1) (T := q2) (N := q3) hx hb hts hc.1 (fun k1 => (parseFieldDescriptor (q2 k1).2.2.1).getD .int) hty hc.2.2 hown hK hP hD hS x (pm_ws_at h1) hq a hk.1 (hts _ (List.mem_of_getElem? hk.2.1)) (fun _ h9 => h9) hk.2.2.1 (of_decide_eq_true hk.2.2.2) rfl rfl (by rw [List.length_map]; exact h2) hdec (fun H1 locs1 hP1 _ hS1 => ?_)
            rw [show (Value.int y) = pm_vm ad (.int y) from rfl, hset] at hP1
            exact go h3 hL hlN hP1 hS1
          · refine va_put (D := D) (ci := aux.getD 0 0) (v := .long y) (ty := .long) (C := q1) (T := q2) (N := q3) hx hb hts hc.1 (fun k1 => (parseFieldDescriptor (q2 k1).2.2.1).getD .int) hty hc.2.2 hown hK hP hD hS x (pm_ws_at h1) hq a hk.1 (hts _ (List.mem_of_getElem? hk.2.1)) (fun _ h9 => h9) hk.2.2.1 (of_decide_eq_true hk.2.2.2) rfl rfl (by rw [List.length_map]; exact h2) hdec (fun H1 locs1 hP1 _ hS1 => ?_)
            rw [show (Value.long y) = pm_vm ad (.long y) from rfl, hset] at hP1
            exact go h3 hL hlN hP1 hS1
      | iaload =>
        have hs : pm_step call M.2.2.2.1 M.2.2.2.2.2.1 (i, pl, st, hp) = pm_al i pl st hp 0 := pm_step_some hop
        rw [hs] at h
        have hln := hlen
        obtain rfl : len = 1 := hln.elim (fun q => absurd (show (1 : Nat) = 0 from q) (by decide)) (fun q => q)
        obtain ⟨j, x, st2, n1, f, rfl, h1, h2, h3⟩ := pm_al_inv h
        exact va_iald (D := D) hx hb hK hP x 0 (pm_ws_at h1) rfl h2 hdec (go h3 hL hN hP hS)
      | baload =>
        have hs : pm_step call M.2.2.2.1 M.2.2.2.2.2.1 (i, pl, st, hp) = pm_al i pl st hp 1 := pm_step_some hop
        rw [hs] at h
        have hln := hlen
        obtain rfl : len = 1 := hln.elim (fun q => absurd (show (1 : Nat) = 0 from q) (by decide)) (fun q => q)
        obtain ⟨j, x, st2, n1, f, rfl, h1, h2, h3⟩ := pm_al_inv h
        exact va_zald (D := D) hx hb hK hP x 1 (pm_ws_at h1) rfl h2 hdec (go h3 hL hN hP hS)
      | iastore =>
        have hs : pm_step call M.2.2.2.1 M.2.2.2.2.2.1 (i, pl, st, hp) = pm_as i pl st hp 0 (fun x => x) := pm_step_some hop
        rw [hs] at h
        have hln := hlen
        obtain rfl : len = 1 := hln.elim (fun q => absurd (show (1 : Nat) = 0 from q) (by decide)) (fun q => q)
        obtain ⟨y, j, x, st2, n1, f, rfl, h1, h2, h3⟩ := pm_as_inv h
        refine va_iast (D := D) hx hb hK hP hD hS x 0 (pm_ws_at h1) rfl h2 hdec (fun H1 locs1 hP1 _ hS1 => ?_)
        refine go h3 hL (by rw [List.length_set]; exact hN) ?_ hS1
        rw [← pm_ws_set]
        exact hP1
      | bastore =>
        have hs : pm_step call M.2.2.2.1 M.2.2.2.2.2.1 (i, pl, st, hp) = pm_as i pl st hp 1 (fun x => vp_nar .boolean x) := pm_step_some hop
        rw [hs] at h
        have hln := hlen
        obtain rfl : len = 1 := hln.elim (fun q => absurd (show (1 : Nat) = 0 from q) (by decide)) (fun q => q)
        obtain ⟨y, j, x, st2, n1, f, rfl, h1, h2, h3⟩ := pm_as_inv h
        refine va_zast (D := D) hx hb hK hP hD hS x 1 (pm_ws_at h1) rfl h2 hdec (fun H1 locs1 hP1 _ hS1 => ?_)
        refine go h3 hL (by rw [List.length_set]; exact hN) ?_ hS1
        rw [← pm_ws_set]
        exact hP1
      | arraylength =>
        have hs : pm_step call M.2.2.2.1 M.2.2.2.2.2.1 (i, pl, st, hp) = pm_len i pl st hp := pm_step_some hop
        rw [hs] at h
        have hln := hlen
        obtain rfl : len = 1 := hln.elim (fun q => absurd (show (1 : Nat) = 0 from q) (by decide)) (fun q => q)
        obtain ⟨x, st2, t, n1, f, rfl, h1, h2, h3⟩ := pm_len_inv h
        have ht : ∃ ty, (pm_tys cA)[t]? = some (cA t, ty) := by
          rcases (show t = 0 ∨ t = 1 by omega) with rfl | rfl
          · exact ⟨_, rfl⟩
          · exact ⟨_, rfl⟩
        obtain ⟨ty, ht⟩ := ht
        exact va_alen (D := D) hx hb hK hP x t (pm_ws_at h1) ht rfl hdec (go h3 hL hN hP hS)
      | invokevirtual k =>
        have hs : pm_step call M.2.2.2.1 M.2.2.2.2.2.1 (i, pl, st, hp) = pm_iv call i pl st hp a aux := pm_step_some hop
        rw [hs] at h
        have hln := hlen
        obtain rfl : len = 3 := hln.elim (fun q => absurd (show (3 : Nat) = 0 from q) (by decide)) (fun q => q)
        have hA : ∀ q, pm_A ad N H.size q → pm_A ad N s.heap.size q := fun q hq => hq.elim Or.inl (fun z => Or.inr (Nat.le_trans hS.1 z))
        obtain ⟨x, rest, fs, r1, hp2, h1, h2, h3, h4, h5⟩ := pm_iv_inv h
        cases hk0 : P.1[a]? with
        | none => unfold pm_chk at hck; dsimp only at hck; rw [hk0] at hck; cases hck
        | some K =>
          cases hq : P.2.1[aux.getD 1 0]? with
          | none => unfold pm_chk at hck; dsimp only at hck; rw [hk0] at hck; dsimp only at hck; rw [hq] at hck; cases hck
          | some q =>
            have hk : (decide (q.1 = K.1.cls) && (decide (P.2.2.1[aux.getD 2 0]? = some (.methodLink M.1.cls k K.1)) && (decide ((parseMethodDescriptor K.1.desc).map (fun d => d.parameters.length) = some (aux.getD 0 0)) &&
                  (decide (P.2.2.1[K.2.2.2.2.2.2.getD 2 0]? = some (.instanceMethod K.1)) && decide (P.2.2.1[K.2.2.2.2.2.2.getD 3 0]? = some (.selects K.1.cls K.1 K.1)))))) = true := by unfold pm_chk at hck; dsimp only at hck; rw [hk0] at hck; dsimp only at hck; rw [hq] at hck; exact hck
            simp only [Bool.and_eq_true, decide_eq_true_eq] at hk
            obtain ⟨g1, g2, g3, g4, g5⟩ := hk
            have hKM := hok3 K (List.mem_of_getElem? hk0)
            obtain ⟨j1, j2, j3, j4, j5, j6, -, -⟩ := pm_okM_to hKM
            obtain ⟨hN2, hMet⟩ := hcall a K _ hp hp2 r1 hk0 h4 hN
            have hlt : (st.take (aux.getD 0 0)).length = aux.getD 0 0 := by
              have : (st.drop (aux.getD 0 0)).length = rest.length + 1 := by rw [h1]; rfl
              rw [List.length_drop] at this
              rw [List.length_take]
              omega
            have hcb : CallB (pm_rm (d + 1)) s args M.1.cls k K.1 K.2.1 K.2.2.1 K.2.2.2.1 (.code K.1 K.2.1 K.2.2.1 K.2.2.2.1 :: P.2.2.1) (pm_rm d) 0 0 (aux.getD 0 0) := callB_of (aux.getD 0 0) hts (hws hKM) rfl rfl rfl (hts _ j5) (hts _ (List.mem_of_getElem? g2)) ⟨j2, j3, g3⟩ ⟨Nat.le_refl _, by show 8 + (K.2.2.1 + 11) + 64 * d ≤ 64 * (d + 1); omega⟩
            have hrun := va_runV (e := e) (below := below) (meth := meth) (H := H) (locs := locs) (cells := 0) (slots := 0) (g := F0 m pc ls (st.map (pm_vm ad))) (b := ad x) (C := K.1.cls) (As := ((st.take (aux.getD 0 0)).reverse).map (pm_vm ad)) (rest := rest.map (pm_vm ad)) ⟨hx, hb, hml, hown, hts⟩ (hMet H.size) ⟨hcb, hts _ (List.mem_of_getElem? g4), hts _ (List.mem_of_getElem? g5)⟩
              ⟨pm_blind D P.2.1 P.2.2.2 ad cA hp H.size _, by rw [← g1]; exact va_recv hK hP hq (pm_ws_at h2), fun U hU hW => ⟨rfl, by rw [hU], by rw [hU]; exact hP, va_K.moved hW.alike hK, hNW.warm hW⟩⟩
              rfl (by rw [List.length_map, List.length_reverse, hlt]) hsl (by
                show st.map (pm_vm ad) = _
                rw [List.map_reverse, List.reverse_reverse]
                conv => lhs; rw [← List.take_append_drop (aux.getD 0 0) st, h1]
                rw [List.map_append]
                rfl) (by
                refine lv_room (Nat.le_trans (?_ : _ ≤ 2 * rest.length) (by omega))
                clear h1 h2 h3 h4 h5 hcb hlt
                induction rest with
                | nil => exact Nat.le_refl _
                | cons y ys ihy =>
                  rw [List.map_cons, List.map_cons, List.sum_cons, List.length_cons]
                  have := lv_cat (pm_vm ad y)
                  omega) hdec ⟨Nat.le_refl _, Nat.le_refl _⟩
            refine pm_call hrun hS hA hA (fun H1 locs1 hP1 hS1 => ?_)
            have h6 := go (st2 := r1.toList ++ rest) h5 hL hN2 hP1 hS1
            have e1 : (r1.map (pm_vm ad)).toList ++ rest.map (pm_vm ad) = (r1.toList ++ rest).map (pm_vm ad) := by cases r1 <;> rfl
            rw [e1]
            exact h6
      | invokestatic k =>
        have hln := hlen
        obtain rfl : len = 3 := hln.elim (fun q => absurd (show (3 : Nat) = 0 from q) (by decide)) (fun q => q)
        have hA : ∀ q, pm_A ad N H.size q → pm_A ad N s.heap.size q := fun q hq => hq.elim Or.inl (fun z => Or.inr (Nat.le_trans hS.1 z))
        cases v with
        | null =>
          have hs : pm_step call M.2.2.2.1 M.2.2.2.2.2.1 (i, pl, st, hp) = pm_cp i pl st hp := pm_step_some hop
          rw [hs] at h
          obtain ⟨n1, dp, dd, sp, x, st2, n0, f, n2, g, rfl, h1, h2, h3, h4⟩ := pm_cp_inv h
          have hk : (decide (P.2.2.1[aux.getD 0 0]? = some (.methodLink M.1.cls k arraycopyName)) && (decide (P.2.2.1[aux.getD 1 0]? = some (.native arraycopyName)) && (decide (P.2.2.1[aux.getD 2 0]? = some (.static arraycopyName)) && decide (P.2.2.1[aux.getD 3 0]? = some (.initialized "java/lang/System"))))) = true := hck
          simp only [Bool.and_eq_true, decide_eq_true_eq] at hk
          obtain ⟨k1, k2, k3, k4, k5, k6⟩ := h3
          have hroom : ∀ rest : List Value, rest.length ≤ 4 → ((rest.map (pm_vm ad)).map fun v => v.category).sum ≤ 8 := by
            intro rest h9
            refine Nat.le_trans (?_ : _ ≤ 2 * rest.length) (by omega)
            clear h9
            induction rest with
            | nil => exact Nat.le_refl _
            | cons y ys ihy =>
              rw [List.map_cons, List.map_cons, List.sum_cons, List.length_cons]
              have := lv_cat (pm_vm ad y)
              omega
          refine va_copyi (D := D) (A := pm_A ad N s.heap.size) hx hb (by rw [hml, hsl]) hown (hts _ (List.mem_of_getElem? hk.1)) (hts _ (List.mem_of_getElem? hk.2.1)) (hts _ (List.mem_of_getElem? hk.2.2.1)) (hts _ (List.mem_of_getElem? hk.2.2.2)) hK hP hD hS x dd 0 0 (pm_ws_at h1) (pm_ws_at h2) rfl rfl rfl k1 k2 k3 k4 k5 (fun _ _ => rfl) (Nat.succ_le_succ (Nat.zero_le d)) ?_ hdec (fun H1 locs1 hP1 _ hS1 => ?_)
          · have := hroom st2 k6
            have e9 : nativeFrameWords "java/lang/System" "arraycopy" 5 = 7 := by decide +kernel
            rw [e9]
            show _ ≤ 64 * (d + 1)
            omega
          · refine go (st2 := st2) h4 hL (by rw [List.length_set]; exact hN) ?_ hS1
            rw [← pm_ws_set]
            exact hP1
        | ref z =>
          have hs : pm_step call M.2.2.2.1 M.2.2.2.2.2.1 (i, pl, st, hp) = pm_mx i pl st hp z := pm_step_some hop
          rw [hs] at h
          obtain ⟨x, y, st2, rfl, h1, h2⟩ := pm_mx_inv h
          unfold pm_chk at hck
          dsimp only at hck
          simp only [Bool.or_eq_true, Bool.and_eq_true, decide_eq_true_eq] at hck
          have hroom : ∀ rest : List Value, rest.length ≤ 4 → ((rest.map (pm_vm ad)).map fun v => v.category).sum ≤ 8 := by
            intro rest h9
            refine Nat.le_trans (?_ : _ ≤ 2 * rest.length) (by omega)
            clear h9
            induction rest with
            | nil => exact Nat.le_refl _
            | cons y ys ihy =>
              rw [List.map_cons, List.map_cons, List.sum_cons, List.length_cons]
              have := lv_cat (pm_vm ad y)
              omega
          have hro : ∀ rest : List Value, rest.length ≤ 4 → ((rest.map (pm_vm ad)).map fun v => v.category).sum + 13 ≤ (pm_rm (d + 1)).locals := by
            intro rest h9
            have := hroom rest h9
            show _ ≤ 64 * (d + 1)
            omega
          rcases h2 with ⟨rfl, h2⟩ | ⟨rfl, h2⟩
          · rcases hck with ⟨-, g1, g2, g3, g4⟩ | ⟨g0, -⟩
            · exact va_mmax hx hb (by rw [hml, hsl]) hown (hts _ (List.mem_of_getElem? g1)) (hts _ (List.mem_of_getElem? g2)) (hts _ (List.mem_of_getElem? g3)) (hts _ (List.mem_of_getElem? g4)) (Nat.succ_le_succ (Nat.zero_le d)) (hro st2 h1) (Nat.zero_le _) (Nat.zero_le _) hdec (go (st2 := .int (if x < y then y else x) :: st2) h2 hL hN hP hS)
            · cases g0
          · rcases hck with ⟨g0, -⟩ | ⟨-, g1, g2, g3, g4⟩
            · cases g0
            · exact va_mmin hx hb (by rw [hml, hsl]) hown (hts _ (List.mem_of_getElem? g1)) (hts _ (List.mem_of_getElem? g2)) (hts _ (List.mem_of_getElem? g3)) (hts _ (List.mem_of_getElem? g4)) (Nat.succ_le_succ (Nat.zero_le d)) (hro st2 h1) (Nat.zero_le _) (Nat.zero_le _) hdec (go (st2 := .int (if y < x then y else x) :: st2) h2 hL hN hP hS)
        | float z =>
          have hs : pm_step call M.2.2.2.1 M.2.2.2.2.2.1 (i, pl, st, hp) = pm_ab i pl st hp := pm_step_some hop
          rw [hs] at h
          obtain ⟨x, st2, rfl, h1, h2⟩ := pm_ab_inv h
          unfold pm_chk at hck
          dsimp only at hck
          simp only [Bool.and_eq_true, decide_eq_true_eq] at hck
          obtain ⟨g1, g2, g3, g4⟩ := hck
          have hroom : ∀ rest : List Value, rest.length ≤ 4 → ((rest.map (pm_vm ad)).map fun v => v.category).sum ≤ 8 := by
            intro rest h9
            refine Nat.le_trans (?_ : _ ≤ 2 * rest.length) (by omega)
            clear h9
            induction rest with
            | nil => exact Nat.le_refl _
            | cons y ys ihy =>
              rw [List.map_cons, List.map_cons, List.sum_cons, List.length_cons]
              have := lv_cat (pm_vm ad y)
              omega
          have hro : ∀ rest : List Value, rest.length ≤ 4 → ((rest.map (pm_vm ad)).map fun v => v.category).sum + 13 ≤ (pm_rm (d + 1)).locals := by
            intro rest h9
            have := hroom rest h9
            show _ ≤ 64 * (d + 1)
            omega
          exact va_mabs hx hb (by rw [hml, hsl]) hown (hts _ (List.mem_of_getElem? g1)) (hts _ (List.mem_of_getElem? g2)) (hts _ (List.mem_of_getElem? g3)) (hts _ (List.mem_of_getElem? g4)) (Nat.succ_le_succ (Nat.zero_le d)) (hro st2 h1) (Nat.zero_le _) (Nat.zero_le _) hdec (go (st2 := .int (if 0 ≤ x then x else 0 - x) :: st2) h2 hL hN hP hS)
        | int z =>
          have hs : pm_step call M.2.2.2.1 M.2.2.2.2.2.1 (i, pl, st, hp) = pm_is call i pl st hp a aux := pm_step_some hop
          rw [hs] at h
          obtain ⟨r1, hp2, h1, h2, h4, h5⟩ := pm_is_inv h
          cases hk0 : P.1[a]? with
          | none => unfold pm_chk at hck; dsimp only at hck; rw [hk0] at hck; cases hck
          | some K =>
            have hKM := hok3 K (List.mem_of_getElem? hk0)
            have hk : (decide ((parseMethodDescriptor K.1.desc).map (fun d => d.parameters.length) = some (aux.getD 0 0)) && (decide (P.2.2.1[K.2.2.2.2.2.2.getD 2 0]? = some (.static K.1)) && decide (P.2.2.1[aux.getD 1 0]? = some (.methodLink M.1.cls k K.1)))) = true := by unfold pm_chk at hck; dsimp only at hck; rw [hk0] at hck; exact hck
            simp only [Bool.and_eq_true, decide_eq_true_eq] at hk
            obtain ⟨g1, g2, g3⟩ := hk
            obtain ⟨j1, j2, j3, j4, j5, j6, -, -⟩ := pm_okM_to hKM
            obtain ⟨hN2, hMet⟩ := hcall a K _ hp hp2 r1 hk0 h4 hN
            have hlt : (st.take (aux.getD 0 0)).length = aux.getD 0 0 := by rw [List.length_take]; omega
            have hstk : st.map (pm_vm ad) = (((st.take (aux.getD 0 0)).reverse).map (pm_vm ad)).reverse ++ (st.drop (aux.getD 0 0)).map (pm_vm ad) := by
              rw [List.map_reverse, List.reverse_reverse, ← List.map_append, List.take_append_drop]
            have hroom : ∀ rest : List Value, rest.length ≤ 4 → ((rest.map (pm_vm ad)).map fun v => v.category).sum ≤ 8 := by
              intro rest h9
              refine Nat.le_trans (?_ : _ ≤ 2 * rest.length) (by omega)
              clear h9
              induction rest with
              | nil => exact Nat.le_refl _
              | cons y ys ihy =>
                rw [List.map_cons, List.map_cons, List.sum_cons, List.length_cons]
                have := lv_cat (pm_vm ad y)
                omega
            have hcb : CallB (pm_rm (d + 1)) s args M.1.cls k K.1 K.2.1 K.2.2.1 K.2.2.2.1 (.code K.1 K.2.1 K.2.2.1 K.2.2.2.1 :: P.2.2.1) (pm_rm d) 0 0 (aux.getD 0 0) := callB_of (aux.getD 0 0) hts (hws hKM) rfl rfl rfl (hts _ j5) (hts _ (List.mem_of_getElem? g3)) ⟨j2, j3, g1⟩ ⟨Nat.le_refl _, by show 8 + (K.2.2.1 + 11) + 64 * d ≤ 64 * (d + 1); omega⟩
            have hrun := va_runS (e := e) (below := below) (meth := meth) (H := H) (locs := locs) (cells := 0) (slots := 0) (g := F0 m pc ls (st.map (pm_vm ad))) (As := ((st.take (aux.getD 0 0)).reverse).map (pm_vm ad)) (rest := (st.drop (aux.getD 0 0)).map (pm_vm ad)) ⟨hx, hb, hml, hown, hts⟩ (hMet H.size) ⟨hcb, hts _ (List.mem_of_getElem? g2)⟩
              ⟨pm_blind D P.2.1 P.2.2.2 ad cA hp H.size _, fun U hU hW => ⟨rfl, by rw [hU], by rw [hU]; exact hP, va_K.moved hW.alike hK, hNW.warm hW⟩⟩
              rfl (by rw [List.length_map, List.length_reverse, hlt]) hsl hstk (lv_room (hroom _ h2)) hdec ⟨Nat.le_refl _, Nat.le_refl _⟩
            refine pm_call hrun hS hA hA (fun H1 locs1 hP1 hS1 => ?_)
            have h6 := go (st2 := r1.toList ++ st.drop (aux.getD 0 0)) h5 hL hN2 hP1 hS1
            have e1 : (r1.map (pm_vm ad)).toList ++ (st.drop (aux.getD 0 0)).map (pm_vm ad) = (r1.toList ++ st.drop (aux.getD 0 0)).map (pm_vm ad) := by cases r1 <;> rfl
            rw [e1]
            exact h6
        | long z =>
          have hs : pm_step call M.2.2.2.1 M.2.2.2.2.2.1 (i, pl, st, hp) = pm_is call i pl st hp a aux := pm_step_some hop
          rw [hs] at h
          obtain ⟨r1, hp2, h1, h2, h4, h5⟩ := pm_is_inv h
          cases hk0 : P.1[a]? with
          | none => unfold pm_chk at hck; dsimp only at hck; rw [hk0] at hck; cases hck
          | some K =>
            have hKM := hok3 K (List.mem_of_getElem? hk0)
            cases hq : P.2.2.2[aux.getD 1 0]? with
            | none => unfold pm_chk at hck; dsimp only at hck; rw [hk0] at hck; dsimp only at hck; rw [hq] at hck; simp at hck
            | some q =>
              have hk : (decide ((parseMethodDescriptor K.1.desc).map (fun d => d.parameters.length) = some (aux.getD 0 0)) && (decide (P.2.2.1[K.2.2.2.2.2.2.getD 2 0]? = some (.static K.1)) && (decide (q.1 = M.1.cls) && (decide (q.2.1 = k) && decide (q.2.2.1 = K.1))))) = true := by unfold pm_chk at hck; dsimp only at hck; rw [hk0] at hck; dsimp only at hck; rw [hq] at hck; exact hck
              simp only [Bool.and_eq_true, decide_eq_true_eq] at hk
              obtain ⟨g1, g2, g3, g4, g5⟩ := hk
              obtain ⟨j1, j2, j3, j4, j5, j6, -, -⟩ := pm_okM_to hKM
              obtain ⟨hN2, hMet⟩ := hcall a K _ hp hp2 r1 hk0 h4 hN
              have hlt : (st.take (aux.getD 0 0)).length = aux.getD 0 0 := by rw [List.length_take]; omega
              have hstk : st.map (pm_vm ad) = (((st.take (aux.getD 0 0)).reverse).map (pm_vm ad)).reverse ++ (st.drop (aux.getD 0 0)).map (pm_vm ad) := by
                rw [List.map_reverse, List.reverse_reverse, ← List.map_append, List.take_append_drop]
              have hroom : ∀ rest : List Value, rest.length ≤ 4 → ((rest.map (pm_vm ad)).map fun v => v.category).sum ≤ 8 := by
                intro rest h9
                refine Nat.le_trans (?_ : _ ≤ 2 * rest.length) (by omega)
                clear h9
                induction rest with
                | nil => exact Nat.le_refl _
                | cons y ys ihy =>
                  rw [List.map_cons, List.map_cons, List.sum_cons, List.length_cons]
                  have := lv_cat (pm_vm ad y)
                  omega
              have hcb : va_CN (pm_rm (d + 1)) s args M.1.cls k K.1 q.2.2.2 K.2.1 K.2.2.1 K.2.2.2.1 (.code K.1 K.2.1 K.2.2.1 K.2.2.2.1 :: P.2.2.1) (pm_rm d) 0 0 (aux.getD 0 0) := va_cnB (aux.getD 0 0) hts (hws hKM) rfl rfl rfl (by have := hNW q (List.mem_of_getElem? hq); rw [g3, g4, g5] at this; exact this) (hts _ j5) ⟨j2, j3, g1⟩ ⟨Nat.le_refl _, by show 8 + (K.2.2.1 + 11) + 64 * d ≤ 64 * (d + 1); omega⟩
              have hrun := va_runSN (e := e) (below := below) (meth := meth) (H := H) (locs := locs) (cells := 0) (slots := 0) (g := F0 m pc ls (st.map (pm_vm ad))) (As := ((st.take (aux.getD 0 0)).reverse).map (pm_vm ad)) (rest := (st.drop (aux.getD 0 0)).map (pm_vm ad)) ⟨hx, hb, hml, hown, hts⟩ (hMet H.size) ⟨hcb, hts _ (List.mem_of_getElem? g2), trivial⟩
                ⟨pm_blind D P.2.1 P.2.2.2 ad cA hp H.size _, fun U hU hW => ⟨rfl, by rw [hU], by rw [hU]; exact hP, va_K.moved hW.alike hK, hNW.warm hW⟩⟩
                rfl (by rw [List.length_map, List.length_reverse, hlt]) hsl hstk (lv_room (hroom _ h2)) hdec ⟨Nat.le_refl _, Nat.le_refl _⟩
              refine pm_call hrun hS hA hA (fun H1 locs1 hP1 hS1 => ?_)
              have h6 := go (st2 := r1.toList ++ st.drop (aux.getD 0 0)) h5 hL hN2 hP1 hS1
              have e1 : (r1.map (pm_vm ad)).toList ++ (st.drop (aux.getD 0 0)).map (pm_vm ad) = (r1.toList ++ st.drop (aux.getD 0 0)).map (pm_vm ad) := by cases r1 <;> rfl
              rw [e1]
              exact h6
        | _ => unfold pm_chk at hck; cases hck
      | ireturn =>
        have hs : pm_step call M.2.2.2.1 M.2.2.2.2.2.1 (i, pl, st, hp) = pm_ri M.2.2.2.1 st hp := pm_step_some hop
        rw [hs] at h
        unfold pm_ri at h
        have hln := hlen
        obtain rfl : len = 1 := hln.elim (fun q => absurd (show (1 : Nat) = 0 from q) (by decide)) (fun q => q)
        split at h
        · rename_i x
          by_cases hz : pm_rz M.2.2.2.1 x = true
          · rw [if_pos hz] at h
            cases h
            unfold pm_rz at hz
            split at hz
            · rename_i hret
              exact W.iret (v := x) hx hb (by rw [hr, hret]) (fun t ht hW => ⟨rfl, by rw [ht]; exact hP, hS.F ht⟩) hS.2.2 hdec hlocks
            · rename_i hret
              exact W.zret (v := x) (ty := .boolean) hx hb (by rw [hr, hret]) (of_decide_eq_true hz) (fun t ht hW => ⟨rfl, by rw [ht]; exact hP, hS.F ht⟩) hS.2.2 hdec hlocks
            · cases hz
          · rw [if_neg hz] at h; cases h
        · cases h
      | lreturn =>
        have hs : pm_step call M.2.2.2.1 M.2.2.2.2.2.1 (i, pl, st, hp) = pm_rl M.2.2.2.1 st hp := pm_step_some hop
        rw [hs] at h
        unfold pm_rl at h
        have hln := hlen
        obtain rfl : len = 1 := hln.elim (fun q => absurd (show (1 : Nat) = 0 from q) (by decide)) (fun q => q)
        split at h
        · rename_i x
          by_cases hz : M.2.2.2.1 = some .long
          · rw [if_pos hz] at h
            cases h
            exact W.lret (v := x) hx hb (by rw [hr, hz]) (fun t ht hW => ⟨rfl, by rw [ht]; exact hP, hS.F ht⟩) hS.2.2 hdec hlocks
          · rw [if_neg hz] at h; cases h
        · cases h
      | return_ =>
        have hs : pm_step call M.2.2.2.1 M.2.2.2.2.2.1 (i, pl, st, hp) = pm_rv M.2.2.2.1 st hp := pm_step_some hop
        rw [hs] at h
        unfold pm_rv at h
        have hln := hlen
        obtain rfl : len = 1 := hln.elim (fun q => absurd (show (1 : Nat) = 0 from q) (by decide)) (fun q => q)
        split at h
        · by_cases hz : M.2.2.2.1 = none
          · rw [if_pos hz] at h
            cases h
            exact W.vret hx hb (by rw [hr, hz]) (fun t ht hW => ⟨rfl, by rw [ht]; exact hP, hS.F ht⟩) hS.2.2 hdec hlocks
          · rw [if_neg hz] at h; cases h
        · cases h
      | _ =>
        have hs : pm_step call M.2.2.2.1 M.2.2.2.2.2.1 (i, pl, st, hp) = .inr none := pm_step_some hop
        rw [hs] at h
        cases h
end
section
/-! the number of cells stays; the soundness of runs -/
theorem pm_evlen {call : pm_K} {ret : Option FieldType} {ops : List pm_OP} {r : Option Value} {hp9 : pm_HP} (hc : ∀ (k : Nat) (as : List Value) (h : pm_HP) (r : Option Value) (h2 : pm_HP), call k as h = some (r, h2) → h2.length = h.length) :
    ∀ (n i : Nat) (pl : pm_LS) (st : List Value) (hp : pm_HP), pm_ev call ret ops n (i, pl, st, hp) = some (r, hp9) → hp9.length = hp.length := by
  intro n
  induction n with
  | zero => intro i pl st hp h; cases h
  | succ n ih =>
    intro i pl st hp h
    rw [pm_ev_fin] at h
    rcases hop : ops[i]? with _ | ⟨pc, ins, len, a, v, aux, sw⟩
    · rw [pm_step_none hop] at h; cases h
    · rw [pm_step_some hop] at h
      cases ins with
      | iload k =>
        replace h : pm_fin (pm_ev call ret ops n) (pm_ldI i pl st hp k) = some (r, hp9) := h
        obtain ⟨x, h1, h2⟩ := pm_ldI_inv h
        exact ih _ _ _ _ h2
      | iload_n k =>
        replace h : pm_fin (pm_ev call ret ops n) (pm_ldI i pl st hp k) = some (r, hp9) := h
        obtain ⟨x, h1, h2⟩ := pm_ldI_inv h
        exact ih _ _ _ _ h2
      | aload k =>
        replace h : pm_fin (pm_ev call ret ops n) (pm_ldA i pl st hp k) = some (r, hp9) := h
        obtain ⟨x, h1, h2⟩ := pm_ldA_inv h
        exact ih _ _ _ _ h2
      | aload_n k =>
        replace h : pm_fin (pm_ev call ret ops n) (pm_ldA i pl st hp k) = some (r, hp9) := h
        obtain ⟨x, h1, h2⟩ := pm_ldA_inv h
        exact ih _ _ _ _ h2
      | lload k =>
        replace h : pm_fin (pm_ev call ret ops n) (pm_ldL i pl st hp k) = some (r, hp9) := h
        obtain ⟨x, h1, h2⟩ := pm_ldL_inv h
        exact ih _ _ _ _ h2
      | lload_n k =>
        replace h : pm_fin (pm_ev call ret ops n) (pm_ldL i pl st hp k) = some (r, hp9) := h
        obtain ⟨x, h1, h2⟩ := pm_ldL_inv h
        exact ih _ _ _ _ h2
      | istore k =>
        replace h : pm_fin (pm_ev call ret ops n) (pm_stI i pl st hp k) = some (r, hp9) := h
        obtain ⟨x, st2, rfl, h2⟩ := pm_stI_inv h
        exact ih _ _ _ _ h2
      | istore_n k =>
        replace h : pm_fin (pm_ev call ret ops n) (pm_stI i pl st hp k) = some (r, hp9) := h
        obtain ⟨x, st2, rfl, h2⟩ := pm_stI_inv h
        exact ih _ _ _ _ h2
      | lstore k =>
        replace h : pm_fin (pm_ev call ret ops n) (pm_stL i pl st hp k) = some (r, hp9) := h
        obtain ⟨x, st2, rfl, h2⟩ := pm_stL_inv h
        exact ih _ _ _ _ h2
      | lstore_n k =>
        replace h : pm_fin (pm_ev call ret ops n) (pm_stL i pl st hp k) = some (r, hp9) := h
        obtain ⟨x, st2, rfl, h2⟩ := pm_stL_inv h
        exact ih _ _ _ _ h2
      | iconst k =>
        replace h : pm_fin (pm_ev call ret ops n) (pm_cI i pl st hp v) = some (r, hp9) := h
        obtain ⟨x, rfl, h2⟩ := pm_cI_inv h
        exact ih _ _ _ _ h2
      | bipush k =>
        replace h : pm_fin (pm_ev call ret ops n) (pm_cI i pl st hp v) = some (r, hp9) := h
        obtain ⟨x, rfl, h2⟩ := pm_cI_inv h
        exact ih _ _ _ _ h2
      | sipush k =>
        replace h : pm_fin (pm_ev call ret ops n) (pm_cI i pl st hp v) = some (r, hp9) := h
        obtain ⟨x, rfl, h2⟩ := pm_cI_inv h
        exact ih _ _ _ _ h2
      | ldc_w k =>
        replace h : pm_fin (pm_ev call ret ops n) (pm_cI i pl st hp v) = some (r, hp9) := h
        obtain ⟨x, rfl, h2⟩ := pm_cI_inv h
        exact ih _ _ _ _ h2
      | lconst k =>
        replace h : pm_fin (pm_ev call ret ops n) (pm_cL i pl st hp v) = some (r, hp9) := h
        obtain ⟨x, rfl, h2⟩ := pm_cL_inv h
        exact ih _ _ _ _ h2
      | ldc2_w k =>
        replace h : pm_fin (pm_ev call ret ops n) (pm_cL i pl st hp v) = some (r, hp9) := h
        obtain ⟨x, rfl, h2⟩ := pm_cL_inv h
        exact ih _ _ _ _ h2
      | iadd =>
        replace h : pm_fin (pm_ev call ret ops n) (pm_b2 i pl st hp (fun x y => x + y)) = some (r, hp9) := h
        obtain ⟨x, y, st2, rfl, h2⟩ := pm_b2_inv h
        exact ih _ _ _ _ h2
      | isub =>
        replace h : pm_fin (pm_ev call ret ops n) (pm_b2 i pl st hp (fun x y => x - y)) = some (r, hp9) := h
        obtain ⟨x, y, st2, rfl, h2⟩ := pm_b2_inv h
        exact ih _ _ _ _ h2
      | imul =>
        replace h : pm_fin (pm_ev call ret ops n) (pm_b2 i pl st hp (fun x y => x * y)) = some (r, hp9) := h
        obtain ⟨x, y, st2, rfl, h2⟩ := pm_b2_inv h
        exact ih _ _ _ _ h2
      | iand =>
        replace h : pm_fin (pm_ev call ret ops n) (pm_b2 i pl st hp (fun x y => x &&& y)) = some (r, hp9) := h
        obtain ⟨x, y, st2, rfl, h2⟩ := pm_b2_inv h
        exact ih _ _ _ _ h2
      | ior =>
        replace h : pm_fin (pm_ev call ret ops n) (pm_b2 i pl st hp (fun x y => x ||| y)) = some (r, hp9) := h
        obtain ⟨x, y, st2, rfl, h2⟩ := pm_b2_inv h
        exact ih _ _ _ _ h2
      | ishl =>
        replace h : pm_fin (pm_ev call ret ops n) (pm_b2 i pl st hp (fun x y => x <<< (y &&& 31))) = some (r, hp9) := h
        obtain ⟨x, y, st2, rfl, h2⟩ := pm_b2_inv h
        exact ih _ _ _ _ h2
      | ishr =>
        replace h : pm_fin (pm_ev call ret ops n) (pm_b2 i pl st hp (fun x y => x >>> (y &&& 31))) = some (r, hp9) := h
        obtain ⟨x, y, st2, rfl, h2⟩ := pm_b2_inv h
        exact ih _ _ _ _ h2
      | iushr =>
        replace h : pm_fin (pm_ev call ret ops n) (pm_b2 i pl st hp (fun x y => (x.toUInt32 >>> (y.toUInt32 &&& Int32.toUInt32 31)).toInt32)) = some (r, hp9) := h
        obtain ⟨x, y, st2, rfl, h2⟩ := pm_b2_inv h
        exact ih _ _ _ _ h2
      | idiv =>
        replace h : pm_fin (pm_ev call ret ops n) (pm_d2 i pl st hp (fun x y => x / y)) = some (r, hp9) := h
        obtain ⟨x, y, st2, rfl, hy, h2⟩ := pm_d2_inv h
        exact ih _ _ _ _ h2
      | irem =>
        replace h : pm_fin (pm_ev call ret ops n) (pm_d2 i pl st hp (fun x y => x - x / y * y)) = some (r, hp9) := h
        obtain ⟨x, y, st2, rfl, hy, h2⟩ := pm_d2_inv h
        exact ih _ _ _ _ h2
      | ladd =>
        replace h : pm_fin (pm_ev call ret ops n) (pm_l2 i pl st hp (fun x y => x + y)) = some (r, hp9) := h
        obtain ⟨x, y, st2, rfl, h2⟩ := pm_l2_inv h
        exact ih _ _ _ _ h2
      | lsub =>
        replace h : pm_fin (pm_ev call ret ops n) (pm_l2 i pl st hp (fun x y => x - y)) = some (r, hp9) := h
        obtain ⟨x, y, st2, rfl, h2⟩ := pm_l2_inv h
        exact ih _ _ _ _ h2
      | lmul =>
        replace h : pm_fin (pm_ev call ret ops n) (pm_l2 i pl st hp (fun x y => x * y)) = some (r, hp9) := h
        obtain ⟨x, y, st2, rfl, h2⟩ := pm_l2_inv h
        exact ih _ _ _ _ h2
      | ldiv =>
        replace h : pm_fin (pm_ev call ret ops n) (pm_e2 i pl st hp (fun x y => x / y)) = some (r, hp9) := h
        obtain ⟨x, y, st2, rfl, hy, h2⟩ := pm_e2_inv h
        exact ih _ _ _ _ h2
      | lrem =>
        replace h : pm_fin (pm_ev call ret ops n) (pm_e2 i pl st hp (fun x y => x - x / y * y)) = some (r, hp9) := h
        obtain ⟨x, y, st2, rfl, hy, h2⟩ := pm_e2_inv h
        exact ih _ _ _ _ h2
      | ineg =>
        replace h : pm_fin (pm_ev call ret ops n) (pm_ng i pl st hp) = some (r, hp9) := h
        unfold pm_ng at h
        split at h
        · exact ih _ _ _ _ h
        · cases h
      | lushr =>
        replace h : pm_fin (pm_ev call ret ops n) (pm_lu i pl st hp) = some (r, hp9) := h
        unfold pm_lu at h
        split at h
        · exact ih _ _ _ _ h
        · cases h
      | i2l =>
        replace h : pm_fin (pm_ev call ret ops n) (pm_il i pl st hp) = some (r, hp9) := h
        unfold pm_il at h
        split at h
        · exact ih _ _ _ _ h
        · cases h
      | l2i =>
        replace h : pm_fin (pm_ev call ret ops n) (pm_li i pl st hp) = some (r, hp9) := h
        unfold pm_li at h
        split at h
        · exact ih _ _ _ _ h
        · cases h
      | lcmp =>
        replace h : pm_fin (pm_ev call ret ops n) (pm_lc i pl st hp) = some (r, hp9) := h
        unfold pm_lc at h
        split at h
        · exact ih _ _ _ _ h
        · cases h
      | dup =>
        replace h : pm_fin (pm_ev call ret ops n) (pm_du i pl st hp) = some (r, hp9) := h
        unfold pm_du at h
        split at h
        · exact ih _ _ _ _ h
        · exact ih _ _ _ _ h
        · cases h
      | dup2 =>
        replace h : pm_fin (pm_ev call ret ops n) (pm_dd i pl st hp) = some (r, hp9) := h
        unfold pm_dd at h
        split at h
        · exact ih _ _ _ _ h
        · exact ih _ _ _ _ h
        · cases h
      | pop =>
        replace h : pm_fin (pm_ev call ret ops n) (pm_po i pl st hp) = some (r, hp9) := h
        unfold pm_po at h
        split at h
        · exact ih _ _ _ _ h
        · cases h
      | goto off =>
        replace h : pm_fin (pm_ev call ret ops n) (.inl (a, pl, st, hp)) = some (r, hp9) := h
        exact ih _ _ _ _ h
      | ifCond cd off =>
        cases cd with
        | eq =>
          replace h : pm_fin (pm_ev call ret ops n) (pm_i1 i pl st hp a (fun x t f => if x = 0 then t else f)) = some (r, hp9) := h
          obtain ⟨x, st2, rfl, h2⟩ := pm_i1_inv h
          try dsimp only at h2
          split at h2
          · exact ih _ _ _ _ h2
          · exact ih _ _ _ _ h2
        | ne =>
          replace h : pm_fin (pm_ev call ret ops n) (pm_i1 i pl st hp a (fun x t f => if x = 0 then f else t)) = some (r, hp9) := h
          obtain ⟨x, st2, rfl, h2⟩ := pm_i1_inv h
          try dsimp only at h2
          split at h2
          · exact ih _ _ _ _ h2
          · exact ih _ _ _ _ h2
        | lt =>
          replace h : pm_fin (pm_ev call ret ops n) (pm_i1 i pl st hp a (fun x t f => if x < 0 then t else f)) = some (r, hp9) := h
          obtain ⟨x, st2, rfl, h2⟩ := pm_i1_inv h
          try dsimp only at h2
          split at h2
          · exact ih _ _ _ _ h2
          · exact ih _ _ _ _ h2
        | ge =>
          replace h : pm_fin (pm_ev call ret ops n) (pm_i1 i pl st hp a (fun x t f => if x < 0 then f else t)) = some (r, hp9) := h
          obtain ⟨x, st2, rfl, h2⟩ := pm_i1_inv h
          try dsimp only at h2
          split at h2
          · exact ih _ _ _ _ h2
          · exact ih _ _ _ _ h2
        | gt =>
          replace h : pm_fin (pm_ev call ret ops n) (pm_i1 i pl st hp a (fun x t f => if 0 < x then t else f)) = some (r, hp9) := h
          obtain ⟨x, st2, rfl, h2⟩ := pm_i1_inv h
          try dsimp only at h2
          split at h2
          · exact ih _ _ _ _ h2
          · exact ih _ _ _ _ h2
        | le =>
          replace h : pm_fin (pm_ev call ret ops n) (pm_i1 i pl st hp a (fun x t f => if 0 < x then f else t)) = some (r, hp9) := h
          obtain ⟨x, st2, rfl, h2⟩ := pm_i1_inv h
          try dsimp only at h2
          split at h2
          · exact ih _ _ _ _ h2
          · exact ih _ _ _ _ h2
      | if_icmp cd off =>
        cases cd with
        | eq =>
          replace h : pm_fin (pm_ev call ret ops n) (pm_i2 i pl st hp a (fun x y t f => if x = y then t else f)) = some (r, hp9) := h
          obtain ⟨x, y, st2, rfl, h2⟩ := pm_i2_inv h
          try dsimp only at h2
          split at h2
          · exact ih _ _ _ _ h2
          · exact ih _ _ _ _ h2
        | ne =>
          replace h : pm_fin (pm_ev call ret ops n) (pm_i2 i pl st hp a (fun x y t f => if x = y then f else t)) = some (r, hp9) := h
          obtain ⟨x, y, st2, rfl, h2⟩ := pm_i2_inv h
          try dsimp only at h2
          split at h2
          · exact ih _ _ _ _ h2
          · exact ih _ _ _ _ h2
        | lt =>
          replace h : pm_fin (pm_ev call ret ops n) (pm_i2 i pl st hp a (fun x y t f => if x < y then t else f)) = some (r, hp9) := h
          obtain ⟨x, y, st2, rfl, h2⟩ := pm_i2_inv h
          try dsimp only at h2
          split at h2
          · exact ih _ _ _ _ h2
          · exact ih _ _ _ _ h2
        | ge =>
          replace h : pm_fin (pm_ev call ret ops n) (pm_i2 i pl st hp a (fun x y t f => if x < y then f else t)) = some (r, hp9) := h
          obtain ⟨x, y, st2, rfl, h2⟩ := pm_i2_inv h
          try dsimp only at h2
          split at h2
          · exact ih _ _ _ _ h2
          · exact ih _ _ _ _ h2
        | gt =>
          replace h : pm_fin (pm_ev call ret ops n) (pm_i2 i pl st hp a (fun x y t f => if y < x then t else f)) = some (r, hp9) := h
          obtain ⟨x, y, st2, rfl, h2⟩ := pm_i2_inv h
          try dsimp only at h2
          split at h2
          · exact ih _ _ _ _ h2
          · exact ih _ _ _ _ h2
        | le =>
          replace h : pm_fin (pm_ev call ret ops n) (pm_i2 i pl st hp a (fun x y t f => if y < x then f else t)) = some (r, hp9) := h
          obtain ⟨x, y, st2, rfl, h2⟩ := pm_i2_inv h
          try dsimp only at h2
          split at h2
          · exact ih _ _ _ _ h2
          · exact ih _ _ _ _ h2
      | iinc k z =>
        replace h : pm_fin (pm_ev call ret ops n) (pm_ii i pl st hp k v) = some (r, hp9) := h
        unfold pm_ii at h
        split at h
        · split at h
          · exact ih _ _ _ _ h
          · cases h
        · cases h
      | tableswitch df lo hi offs =>
        replace h : pm_fin (pm_ev call ret ops n) (pm_ts pl st hp a sw) = some (r, hp9) := h
        unfold pm_ts at h
        split at h
        · rename_i x st2
          have key : ∀ sw : List (Int32 × Nat), pm_fin (pm_ev call ret ops n) (pm_sw (fun t => .inl (t, pl, st2, hp)) x a sw) = some (r, hp9) → hp9.length = hp.length := by
            intro sw
            induction sw with
            | nil => intro h1; exact ih _ _ _ _ h1
            | cons q qs ihq =>
              intro h1
              rw [pm_sw] at h1
              split at h1
              · exact ih _ _ _ _ h1
              · exact ihq h1
          exact key sw h
        · cases h
      | lookupswitch df ps =>
        replace h : pm_fin (pm_ev call ret ops n) (pm_ts pl st hp a sw) = some (r, hp9) := h
        unfold pm_ts at h
        split at h
        · rename_i x st2
          have key : ∀ sw : List (Int32 × Nat), pm_fin (pm_ev call ret ops n) (pm_sw (fun t => .inl (t, pl, st2, hp)) x a sw) = some (r, hp9) → hp9.length = hp.length := by
            intro sw
            induction sw with
            | nil => intro h1; exact ih _ _ _ _ h1
            | cons q qs ihq =>
              intro h1
              rw [pm_sw] at h1
              split at h1
              · exact ih _ _ _ _ h1
              · exact ihq h1
          exact key sw h
        · cases h
      | getfield k =>
        replace h : pm_fin (pm_ev call ret ops n) (pm_gf i pl st hp a aux) = some (r, hp9) := h
        obtain ⟨x, st2, fs, u, rfl, h1, h2, h3⟩ := pm_gf_inv h
        exact ih _ _ _ _ h3
      | putfield k =>
        replace h : pm_fin (pm_ev call ret ops n) (pm_pf i pl st hp a v aux) = some (r, hp9) := h
        obtain ⟨u, x, st2, fs, rfl, hw, h1, h2, h3⟩ := pm_pf_inv h
        have := ih _ _ _ _ h3
        rw [List.length_set] at this
        exact this
      | iaload =>
        replace h : pm_fin (pm_ev call ret ops n) (pm_al i pl st hp 0) = some (r, hp9) := h
        obtain ⟨j, x, st2, n1, f, rfl, h1, h2, h3⟩ := pm_al_inv h
        exact ih _ _ _ _ h3
      | baload =>
        replace h : pm_fin (pm_ev call ret ops n) (pm_al i pl st hp 1) = some (r, hp9) := h
        obtain ⟨j, x, st2, n1, f, rfl, h1, h2, h3⟩ := pm_al_inv h
        exact ih _ _ _ _ h3
      | iastore =>
        replace h : pm_fin (pm_ev call ret ops n) (pm_as i pl st hp 0 (fun x => x)) = some (r, hp9) := h
        obtain ⟨y, j, x, st2, n1, f, rfl, h1, h2, h3⟩ := pm_as_inv h
        have := ih _ _ _ _ h3
        rw [List.length_set] at this
        exact this
      | bastore =>
        replace h : pm_fin (pm_ev call ret ops n) (pm_as i pl st hp 1 (fun x => vp_nar .boolean x)) = some (r, hp9) := h
        obtain ⟨y, j, x, st2, n1, f, rfl, h1, h2, h3⟩ := pm_as_inv h
        have := ih _ _ _ _ h3
        rw [List.length_set] at this
        exact this
      | arraylength =>
        replace h : pm_fin (pm_ev call ret ops n) (pm_len i pl st hp) = some (r, hp9) := h
        obtain ⟨x, st2, t, n1, f, rfl, h1, h2, h3⟩ := pm_len_inv h
        exact ih _ _ _ _ h3
      | invokevirtual k =>
        replace h : pm_fin (pm_ev call ret ops n) (pm_iv call i pl st hp a aux) = some (r, hp9) := h
        obtain ⟨x, rest, fs, r1, hp2, h1, h2, h3, h4, h5⟩ := pm_iv_inv h
        exact (ih _ _ _ _ h5).trans (hc _ _ _ _ _ h4)
      | invokestatic k =>
        have key : pm_fin (pm_ev call ret ops n) (pm_is call i pl st hp a aux) = some (r, hp9) → hp9.length = hp.length := by
          intro h
          obtain ⟨r1, hp2, h1, h2, h4, h5⟩ := pm_is_inv h
          exact (ih _ _ _ _ h5).trans (hc _ _ _ _ _ h4)
        cases v with
        | null =>
          replace h : pm_fin (pm_ev call ret ops n) (pm_cp i pl st hp) = some (r, hp9) := h
          obtain ⟨n1, dp, dd, sp, x, st2, n0, f, n2, g, rfl, h1, h2, h3, h4⟩ := pm_cp_inv h
          have := ih _ _ _ _ h4
          rw [List.length_set] at this
          exact this
        | ref z =>
          replace h : pm_fin (pm_ev call ret ops n) (pm_mx i pl st hp z) = some (r, hp9) := h
          obtain ⟨x, y, st2, rfl, h1, h2⟩ := pm_mx_inv h
          rcases h2 with ⟨-, h2⟩ | ⟨-, h2⟩
          · exact ih _ _ _ _ h2
          · exact ih _ _ _ _ h2
        | float z =>
          replace h : pm_fin (pm_ev call ret ops n) (pm_ab i pl st hp) = some (r, hp9) := h
          obtain ⟨x, st2, rfl, h1, h2⟩ := pm_ab_inv h
          exact ih _ _ _ _ h2
        | _ => exact key h
      | ireturn =>
        replace h : pm_fin (pm_ev call ret ops n) (pm_ri ret st hp) = some (r, hp9) := h
        unfold pm_ri at h
        split at h
        · split at h
          · cases h; rfl
          · cases h
        · cases h
      | lreturn =>
        replace h : pm_fin (pm_ev call ret ops n) (pm_rl ret st hp) = some (r, hp9) := h
        unfold pm_rl at h
        split at h
        · split at h
          · cases h; rfl
          · cases h
        · cases h
      | return_ =>
        replace h : pm_fin (pm_ev call ret ops n) (pm_rv ret st hp) = some (r, hp9) := h
        unfold pm_rv at h
        split at h
        · split at h
          · cases h; rfl
          · cases h
        · cases h
      | _ => cases h
theorem pm_runlen (mt : List pm_M) : ∀ (d k : Nat) (as : List Value) (hp : pm_HP) (r : Option Value) (hp2 : pm_HP), pm_run mt d k as hp = some (r, hp2) → hp2.length = hp.length
  | 0, _, _, _, _, _, h => by cases h
  | d + 1, k, as, hp, r, hp2, h => by
    unfold pm_run at h
    try dsimp only at h
    split at h
    · cases h
    · rename_i M hM
      split at h
      · obtain ⟨n, hn⟩ := pm_EV_to h
        exact pm_evlen (pm_runlen mt d) n _ _ _ _ hn
      · cases h
set_option maxHeartbeats 4000000 in
/-- what a pure run answers, the method answers: for every method of the tables, at every depth -/
theorem pm_sound {P : pm_P} (hP0 : pm_okP P) (l : Launch) (D : va_G) (cA : Nat → ClassId) (ad : Nat → Nat) (N : Nat) (hinj : ∀ i j, i < N → j < N → ad i = ad j → i = j) :
    ∀ (d k : Nat) (K : pm_M) (as : List Value) (hp hp2 : pm_HP) (r : Option Value), P.1[k]? = some K → pm_run P.1 d k as hp = some (r, hp2) → hp.length = N →
      hp2.length = N ∧ ∀ sz, Met l K.1 (.code K.1 K.2.1 K.2.2.1 K.2.2.2.1 :: P.2.2.1) (pm_rm d) (va_Pc (as.map (pm_vm ad)) (pm_Pre D P.2.1 P.2.2.2 ad cA hp sz)) (pm_Post D P.2.1 ad cA r hp2 (pm_A ad N sz)) 0 0 (pm_A ad N sz) := by
  intro d
  induction d with
  | zero => intro k K as hp hp2 r _ h; cases h
  | succ d ih =>
    intro k K as hp hp2 r hk h hN
    refine ⟨(pm_runlen P.1 _ k as hp r hp2 h).trans hN, fun sz => ?_⟩
    unfold pm_run at h
    try dsimp only at h
    rw [hk] at h
    try dsimp only at h
    split at h
    · rename_i hent
      obtain ⟨n, hn⟩ := pm_EV_to h
      have hKM := hP0.2.2 K (List.mem_of_getElem? hk)
      obtain ⟨j1, j2, j3, j4, j5, j6, j7, -⟩ := pm_okM_to hKM
      refine Met.ofW (cc := K.2.1) (maxL := K.2.2.1) (ret := K.2.2.2.1) j1 rfl ?_
      intro p e s m args below meth c s₁ B hml hv
      obtain ⟨rfl, hsz, hP, hK, hNW⟩ := hv
      have hts := atoms_spec (ws := .code K.1 K.2.1 K.2.2.1 K.2.2.2.1 :: P.2.2.1) B.pre
      have hown : s.vm.findClass K.1.cls = some m.cls := findClass_of_methodNamed B.named
      subst hsz
      rw [lg_entry_eq]
      have hW := pm_inner (p := p) (l := l) (e := e) (below := below) (meth := meth) (d := d) (N := N) (D := D) (ad := ad) (cA := cA) (r := r) (hp9 := hp2) hP0 hKM B.exec B.bytes hml B.returns B.notSynchronized hown (fun w hw => hts w (List.mem_cons_of_mem _ hw)) hK hNW hinj (fun k2 K2 as2 h1 h2 r1 hk2 hc hn2 => ih k2 K2 as2 h1 h2 r1 hk2 hc hn2) n 0 _ [] hp _ s.heap [] hn (pm_LR_entry (ad := ad) hent.1 hent.2) hN hP va_S.rf
      rw [j7] at hW
      exact hW
    · cases h
end
section
/-! classes and words, by program out of the claim's own tables -/
def RX0 : String := "AntLease$House"
def TX0 : u_T := fun k => match k with
  | _ => ("AntLease$House", "cells", "[I", true)
def RX1 : String := "AntLease$Least"
def TX1 : u_T := fun k => match k with
  | 0 => ("AntLease$Least", "grains", "I", false)
  | _ => ("AntLease$Least", "figures", "I", false)
def RX2 : String := "AntLease$Past"
def TX2 : u_T := fun k => match k with
  | 0 => ("AntLease$Past", "rows", "[I", true)
  | 1 => ("AntLease$Past", "first", "I", false)
  | _ => ("AntLease$Past", "size", "I", false)
def RX3 : String := "AntLease$Rests"
def TX3 : u_T := fun k => match k with
  | _ => ("", "", "", false)
def RX4 : String := "AntLease$Said"
def TX4 : u_T := fun k => match k with
  | 0 => ("AntLease$Said", "size", "I", false)
  | 1 => ("AntLease$Said", "knew", "I", false)
  | _ => ("AntLease$Said", "knewNot", "I", false)
def RX5 : String := "AntLease$Slots"
def TX5 : u_T := fun k => match k with
  | 0 => ("AntLease$Slots", "rows", "[I", true)
  | _ => ("AntLease$Slots", "taken", "I", false)
def RX6 : String := "AntLease$Text"
def TX6 : u_T := fun k => match k with
  | 0 => ("AntLease$Text", "bytes", "[I", true)
  | _ => ("AntLease$Text", "length", "I", false)
def RX7 : String := "AntLease"
def TX7 : u_T := fun k => match k with
  | 0 => ("AntLease", "text", "LAntLease$Text;", true)
  | 1 => ("AntLease", "now", "LAntLease$House;", true)
  | 2 => ("AntLease", "trial", "LAntLease$House;", true)
  | 3 => ("AntLease", "past", "LAntLease$Past;", true)
  | 4 => ("AntLease", "slots", "LAntLease$Slots;", true)
  | 5 => ("AntLease", "said", "LAntLease$Said;", true)
  | 6 => ("AntLease", "fewest", "LAntLease$Least;", true)
  | 7 => ("AntLease", "doings", "[I", true)
  | 8 => ("AntLease", "chances", "[I", true)
  | _ => ("AntLease", "theSeed", "J", false)
def RX8 : String := "AntLeaseModel"
def TX8 : u_T := fun k => match k with
  | 0 => ("AntLeaseModel", "thrown", "I", false)
  | 1 => ("AntLeaseModel", "text", "[I", true)
  | 2 => ("AntLeaseModel", "textSize", "I", false)
  | 3 => ("AntLeaseModel", "place", "I", false)
  | 4 => ("AntLeaseModel", "skirting", "I", false)
  | 5 => ("AntLeaseModel", "foods", "I", false)
  | 6 => ("AntLeaseModel", "kind", "[I", true)
  | 7 => ("AntLeaseModel", "things", "I", false)
  | 8 => ("AntLeaseModel", "readSkirting", "I", false)
  | 9 => ("AntLeaseModel", "readWill", "I", false)
  | 10 => ("AntLeaseModel", "readFoods", "I", false)
  | 11 => ("AntLeaseModel", "readFood", "[I", true)
  | 12 => ("AntLeaseModel", "readThings", "I", false)
  | 13 => ("AntLeaseModel", "readAt", "[I", true)
  | 14 => ("AntLeaseModel", "page", "[I", true)
  | 15 => ("AntLeaseModel", "trial", "[I", true)
  | 16 => ("AntLeaseModel", "book", "[I", true)
  | 17 => ("AntLeaseModel", "acts", "I", false)
  | 18 => ("AntLeaseModel", "kept", "[I", true)
  | 19 => ("AntLeaseModel", "isKept", "[Z", true)
  | 20 => ("AntLeaseModel", "said", "I", false)
  | 21 => ("AntLeaseModel", "saidAt", "[I", true)
  | 22 => ("AntLeaseModel", "saidIs", "[I", true)
  | 23 => ("AntLeaseModel", "seed", "J", false)
  | 24 => ("AntLeaseModel", "leastMany", "I", false)
  | 25 => ("AntLeaseModel", "leastWay", "I", false)
  | 26 => ("AntLeaseModel", "lineMany", "I", false)
  | 27 => ("AntLeaseModel", "lineFirst", "I", false)
  | 28 => ("AntLeaseModel", "restMany", "I", false)
  | 29 => ("AntLeaseModel", "restFirst", "I", false)
  | 30 => ("AntLeaseModel", "gains", "[I", true)
  | _ => ("AntLeaseModel", "value", "[I", true)
def cls9 : List vw_C := [(RX0, TX0, 1), (RX1, TX1, 2), (RX2, TX2, 3), (RX3, TX3, 0), (RX4, TX4, 3), (RX5, TX5, 2), (RX6, TX6, 2), (RX7, TX7, 10), (RX8, TX8, 32)]
def tb9_0 : List Cond := [(Jvm.Cond.laysFinal "AntLease$House" "AntLease$House" "cells" "[I"),
  (Jvm.Cond.lays "AntLease$Least" "AntLease$Least" "grains" "I"),
  (Jvm.Cond.lays "AntLease$Least" "AntLease$Least" "figures" "I"),
  (Jvm.Cond.laysFinal "AntLease$Past" "AntLease$Past" "rows" "[I"),
  (Jvm.Cond.lays "AntLease$Past" "AntLease$Past" "first" "I"),
  (Jvm.Cond.lays "AntLease$Past" "AntLease$Past" "size" "I"),
  (Jvm.Cond.lays "AntLease$Said" "AntLease$Said" "size" "I"),
  (Jvm.Cond.lays "AntLease$Said" "AntLease$Said" "knew" "I"),
  (Jvm.Cond.lays "AntLease$Said" "AntLease$Said" "knewNot" "I"),
  (Jvm.Cond.laysFinal "AntLease$Slots" "AntLease$Slots" "rows" "[I"),
  (Jvm.Cond.lays "AntLease$Slots" "AntLease$Slots" "taken" "I"),
  (Jvm.Cond.laysFinal "AntLease$Text" "AntLease$Text" "bytes" "[I"),
  (Jvm.Cond.lays "AntLease$Text" "AntLease$Text" "length" "I"),
  (Jvm.Cond.laysFinal "AntLease" "AntLease" "text" "LAntLease$Text;"),
  (Jvm.Cond.laysFinal "AntLease" "AntLease" "now" "LAntLease$House;"),
  (Jvm.Cond.laysFinal "AntLease" "AntLease" "trial" "LAntLease$House;"),
  (Jvm.Cond.laysFinal "AntLease" "AntLease" "past" "LAntLease$Past;"),
  (Jvm.Cond.laysFinal "AntLease" "AntLease" "slots" "LAntLease$Slots;"),
  (Jvm.Cond.laysFinal "AntLease" "AntLease" "said" "LAntLease$Said;"),
  (Jvm.Cond.laysFinal "AntLease" "AntLease" "fewest" "LAntLease$Least;"),
  (Jvm.Cond.laysFinal "AntLease" "AntLease" "doings" "[I"),
  (Jvm.Cond.laysFinal "AntLease" "AntLease" "chances" "[I"),
  (Jvm.Cond.lays "AntLease" "AntLease" "theSeed" "J"),
  (Jvm.Cond.lays "AntLeaseModel" "AntLeaseModel" "thrown" "I"),
  (Jvm.Cond.laysFinal "AntLeaseModel" "AntLeaseModel" "text" "[I"),
  (Jvm.Cond.lays "AntLeaseModel" "AntLeaseModel" "textSize" "I"),
  (Jvm.Cond.lays "AntLeaseModel" "AntLeaseModel" "place" "I"),
  (Jvm.Cond.lays "AntLeaseModel" "AntLeaseModel" "skirting" "I"),
  (Jvm.Cond.lays "AntLeaseModel" "AntLeaseModel" "foods" "I"),
  (Jvm.Cond.laysFinal "AntLeaseModel" "AntLeaseModel" "kind" "[I"),
  (Jvm.Cond.lays "AntLeaseModel" "AntLeaseModel" "things" "I"),
  (Jvm.Cond.lays "AntLeaseModel" "AntLeaseModel" "readSkirting" "I"),
  (Jvm.Cond.lays "AntLeaseModel" "AntLeaseModel" "readWill" "I"),
  (Jvm.Cond.lays "AntLeaseModel" "AntLeaseModel" "readFoods" "I"),
  (Jvm.Cond.laysFinal "AntLeaseModel" "AntLeaseModel" "readFood" "[I"),
  (Jvm.Cond.lays "AntLeaseModel" "AntLeaseModel" "readThings" "I"),
  (Jvm.Cond.laysFinal "AntLeaseModel" "AntLeaseModel" "readAt" "[I"),
  (Jvm.Cond.laysFinal "AntLeaseModel" "AntLeaseModel" "page" "[I"),
  (Jvm.Cond.laysFinal "AntLeaseModel" "AntLeaseModel" "trial" "[I"),
  (Jvm.Cond.laysFinal "AntLeaseModel" "AntLeaseModel" "book" "[I")]
theorem tb9_in_0 : ∀ w ∈ tb9_0, w ∈ lw_tbl := by
  intro w hw
  have hp : tb9_0 = [73, 129, 131, 85, 87, 89, 114, 116, 118, 100, 102, 60, 62, 144, 146, 148, 150, 152, 154, 156, 158, 160, 162, 667, 669, 671, 673, 675, 677, 679, 681, 683, 685, 687, 689, 691, 693, 695, 697, 699].filterMap (fun i => lw_tbl[i]?) := by decide +kernel
  rw [hp] at hw
  obtain ⟨i, -, hi⟩ := List.mem_filterMap.mp hw
  exact List.mem_of_getElem? hi
theorem tb9_good_0 : ∀ w ∈ tb9_0, goodWord w = true := List.all_eq_true.mp (by decide +kernel)
def tb9_1 : List Cond := [(Jvm.Cond.lays "AntLeaseModel" "AntLeaseModel" "acts" "I"),
  (Jvm.Cond.laysFinal "AntLeaseModel" "AntLeaseModel" "kept" "[I"),
  (Jvm.Cond.laysFinal "AntLeaseModel" "AntLeaseModel" "isKept" "[Z"),
  (Jvm.Cond.lays "AntLeaseModel" "AntLeaseModel" "said" "I"),
  (Jvm.Cond.laysFinal "AntLeaseModel" "AntLeaseModel" "saidAt" "[I"),
  (Jvm.Cond.laysFinal "AntLeaseModel" "AntLeaseModel" "saidIs" "[I"),
  (Jvm.Cond.lays "AntLeaseModel" "AntLeaseModel" "seed" "J"),
  (Jvm.Cond.lays "AntLeaseModel" "AntLeaseModel" "leastMany" "I"),
  (Jvm.Cond.lays "AntLeaseModel" "AntLeaseModel" "leastWay" "I"),
  (Jvm.Cond.lays "AntLeaseModel" "AntLeaseModel" "lineMany" "I"),
  (Jvm.Cond.lays "AntLeaseModel" "AntLeaseModel" "lineFirst" "I"),
  (Jvm.Cond.lays "AntLeaseModel" "AntLeaseModel" "restMany" "I"),
  (Jvm.Cond.lays "AntLeaseModel" "AntLeaseModel" "restFirst" "I"),
  (Jvm.Cond.laysFinal "AntLeaseModel" "AntLeaseModel" "gains" "[I"),
  (Jvm.Cond.laysFinal "AntLeaseModel" "AntLeaseModel" "value" "[I"),
  (Jvm.Cond.fieldLink "AntLease$House" (11 : Nat) "AntLease$House" "cells" "[I"),
  (Jvm.Cond.code ({ cls := "AntLease$House", name := "cell", desc := "(I)I" } : Jvm.MethodName) prog_2_method_2_code (2 : Nat) (Option.some Jvm.ClassFile.FieldType.int)),
  (Jvm.Cond.initialized "AntLease$House"),
  (Jvm.Cond.instanceMethod ({ cls := "AntLease$House", name := "cell", desc := "(I)I" } : Jvm.MethodName)),
  (Jvm.Cond.selects "AntLease$House" ({ cls := "AntLease$House", name := "cell", desc := "(I)I" } : Jvm.MethodName) ({ cls := "AntLease$House", name := "cell", desc := "(I)I" } : Jvm.MethodName)),
  (Jvm.Cond.code ({ cls := "AntLease$House", name := "set", desc := "(II)V" } : Jvm.MethodName) prog_2_method_3_code (3 : Nat) (Option.none : Option Jvm.ClassFile.FieldType)),
  (Jvm.Cond.instanceMethod ({ cls := "AntLease$House", name := "set", desc := "(II)V" } : Jvm.MethodName)),
  (Jvm.Cond.selects "AntLease$House" ({ cls := "AntLease$House", name := "set", desc := "(II)V" } : Jvm.MethodName) ({ cls := "AntLease$House", name := "set", desc := "(II)V" } : Jvm.MethodName)),
  (Jvm.Cond.methodLink "AntLease$House" (15 : Nat) ({ cls := "AntLease$House", name := "cell", desc := "(I)I" } : Jvm.MethodName)),
  (Jvm.Cond.methodLink "AntLease$House" (19 : Nat) ({ cls := "AntLease$House", name := "set", desc := "(II)V" } : Jvm.MethodName)),
  (Jvm.Cond.code ({ cls := "AntLease$House", name := "add", desc := "(II)V" } : Jvm.MethodName) prog_2_method_4_code (3 : Nat) (Option.none : Option Jvm.ClassFile.FieldType)),
  (Jvm.Cond.instanceMethod ({ cls := "AntLease$House", name := "add", desc := "(II)V" } : Jvm.MethodName)),
  (Jvm.Cond.selects "AntLease$House" ({ cls := "AntLease$House", name := "add", desc := "(II)V" } : Jvm.MethodName) ({ cls := "AntLease$House", name := "add", desc := "(II)V" } : Jvm.MethodName)),
  (Jvm.Cond.code ({ cls := "AntLease$House", name := "copyOf", desc := "(LAntLease$House;)V" } : Jvm.MethodName) prog_2_method_5_code (3 : Nat) (Option.none : Option Jvm.ClassFile.FieldType)),
  (Jvm.Cond.instanceMethod ({ cls := "AntLease$House", name := "copyOf", desc := "(LAntLease$House;)V" } : Jvm.MethodName)),
  (Jvm.Cond.selects "AntLease$House" ({ cls := "AntLease$House", name := "copyOf", desc := "(LAntLease$House;)V" } : Jvm.MethodName) ({ cls := "AntLease$House", name := "copyOf", desc := "(LAntLease$House;)V" } : Jvm.MethodName)),
  (Jvm.Cond.methodLink "AntLease$House" (23 : Nat) ({ cls := "java/lang/System", name := "arraycopy", desc := "(Ljava/lang/Object;ILjava/lang/Object;II)V" } : Jvm.MethodName)),
  (Jvm.Cond.native ({ cls := "java/lang/System", name := "arraycopy", desc := "(Ljava/lang/Object;ILjava/lang/Object;II)V" } : Jvm.MethodName)),
  (Jvm.Cond.static ({ cls := "java/lang/System", name := "arraycopy", desc := "(Ljava/lang/Object;ILjava/lang/Object;II)V" } : Jvm.MethodName)),
  (Jvm.Cond.initialized "java/lang/System"),
  (Jvm.Cond.code ({ cls := "AntLease$House", name := "storeIn", desc := "([II)V" } : Jvm.MethodName) prog_2_method_6_code (3 : Nat) (Option.none : Option Jvm.ClassFile.FieldType)),
  (Jvm.Cond.instanceMethod ({ cls := "AntLease$House", name := "storeIn", desc := "([II)V" } : Jvm.MethodName)),
  (Jvm.Cond.selects "AntLease$House" ({ cls := "AntLease$House", name := "storeIn", desc := "([II)V" } : Jvm.MethodName) ({ cls := "AntLease$House", name := "storeIn", desc := "([II)V" } : Jvm.MethodName)),
  (Jvm.Cond.code ({ cls := "AntLease$House", name := "fetchFrom", desc := "([II)V" } : Jvm.MethodName) prog_2_method_7_code (3 : Nat) (Option.none : Option Jvm.ClassFile.FieldType)),
  (Jvm.Cond.instanceMethod ({ cls := "AntLease$House", name := "fetchFrom", desc := "([II)V" } : Jvm.MethodName))]
theorem tb9_in_1 : ∀ w ∈ tb9_1, w ∈ lw_tbl := by
  intro w hw
  have hp : tb9_1 = [701, 703, 705, 707, 709, 711, 713, 715, 717, 719, 721, 723, 725, 727, 729, 72, 231, 34, 230, 2, 214, 213, 0, 228, 211, 227, 226, 1, 478, 476, 477, 380, 382, 381, 41, 379, 377, 378, 470, 468].filterMap (fun i => lw_tbl[i]?) := by decide +kernel
  rw [hp] at hw
  obtain ⟨i, -, hi⟩ := List.mem_filterMap.mp hw
  exact List.mem_of_getElem? hi
theorem tb9_good_1 : ∀ w ∈ tb9_1, goodWord w = true := List.all_eq_true.mp (by decide +kernel)
def tb9_2 : List Cond := [(Jvm.Cond.selects "AntLease$House" ({ cls := "AntLease$House", name := "fetchFrom", desc := "([II)V" } : Jvm.MethodName) ({ cls := "AntLease$House", name := "fetchFrom", desc := "([II)V" } : Jvm.MethodName)),
  (Jvm.Cond.methodLink "AntLease$House" (29 : Nat) ({ cls := "AntLease$Text", name := "figureAt", desc := "(I)I" } : Jvm.MethodName)),
  (Jvm.Cond.methodLink "AntLease$House" (34 : Nat) ({ cls := "AntLease$Text", name := "length", desc := "()I" } : Jvm.MethodName)),
  (Jvm.Cond.methodLink "AntLease$House" (38 : Nat) ({ cls := "AntLease$Text", name := "byteAt", desc := "(I)I" } : Jvm.MethodName)),
  (Jvm.Cond.methodLink "AntLease$House" (41 : Nat) ({ cls := "AntLease$House", name := "foods", desc := "()I" } : Jvm.MethodName)),
  (Jvm.Cond.methodLink "AntLease$House" (44 : Nat) ({ cls := "AntLease$House", name := "add", desc := "(II)V" } : Jvm.MethodName)),
  (Jvm.Cond.methodLink "AntLease$House" (47 : Nat) ({ cls := "AntLease$House", name := "things", desc := "()I" } : Jvm.MethodName)),
  (Jvm.Cond.code ({ cls := "AntLease$House", name := "makeFrom", desc := "(LAntLease$Text;)V" } : Jvm.MethodName) prog_2_method_8_code (3 : Nat) (Option.none : Option Jvm.ClassFile.FieldType)),
  (Jvm.Cond.instanceMethod ({ cls := "AntLease$House", name := "makeFrom", desc := "(LAntLease$Text;)V" } : Jvm.MethodName)),
  (Jvm.Cond.selects "AntLease$House" ({ cls := "AntLease$House", name := "makeFrom", desc := "(LAntLease$Text;)V" } : Jvm.MethodName) ({ cls := "AntLease$House", name := "makeFrom", desc := "(LAntLease$Text;)V" } : Jvm.MethodName)),
  (Jvm.Cond.code ({ cls := "AntLease$House", name := "foods", desc := "()I" } : Jvm.MethodName) prog_2_method_9_code (1 : Nat) (Option.some Jvm.ClassFile.FieldType.int)),
  (Jvm.Cond.instanceMethod ({ cls := "AntLease$House", name := "foods", desc := "()I" } : Jvm.MethodName)),
  (Jvm.Cond.selects "AntLease$House" ({ cls := "AntLease$House", name := "foods", desc := "()I" } : Jvm.MethodName) ({ cls := "AntLease$House", name := "foods", desc := "()I" } : Jvm.MethodName)),
  (Jvm.Cond.code ({ cls := "AntLease$House", name := "things", desc := "()I" } : Jvm.MethodName) prog_2_method_10_code (1 : Nat) (Option.some Jvm.ClassFile.FieldType.int)),
  (Jvm.Cond.instanceMethod ({ cls := "AntLease$House", name := "things", desc := "()I" } : Jvm.MethodName)),
  (Jvm.Cond.selects "AntLease$House" ({ cls := "AntLease$House", name := "things", desc := "()I" } : Jvm.MethodName) ({ cls := "AntLease$House", name := "things", desc := "()I" } : Jvm.MethodName)),
  (Jvm.Cond.code ({ cls := "AntLease$House", name := "skirting", desc := "()I" } : Jvm.MethodName) prog_2_method_11_code (1 : Nat) (Option.some Jvm.ClassFile.FieldType.int)),
  (Jvm.Cond.instanceMethod ({ cls := "AntLease$House", name := "skirting", desc := "()I" } : Jvm.MethodName)),
  (Jvm.Cond.selects "AntLease$House" ({ cls := "AntLease$House", name := "skirting", desc := "()I" } : Jvm.MethodName) ({ cls := "AntLease$House", name := "skirting", desc := "()I" } : Jvm.MethodName)),
  (Jvm.Cond.code ({ cls := "AntLease$House", name := "goodwill", desc := "()I" } : Jvm.MethodName) prog_2_method_12_code (1 : Nat) (Option.some Jvm.ClassFile.FieldType.int)),
  (Jvm.Cond.instanceMethod ({ cls := "AntLease$House", name := "goodwill", desc := "()I" } : Jvm.MethodName)),
  (Jvm.Cond.selects "AntLease$House" ({ cls := "AntLease$House", name := "goodwill", desc := "()I" } : Jvm.MethodName) ({ cls := "AntLease$House", name := "goodwill", desc := "()I" } : Jvm.MethodName)),
  (Jvm.Cond.code ({ cls := "AntLease$House", name := "pins", desc := "()I" } : Jvm.MethodName) prog_2_method_13_code (1 : Nat) (Option.some Jvm.ClassFile.FieldType.int)),
  (Jvm.Cond.instanceMethod ({ cls := "AntLease$House", name := "pins", desc := "()I" } : Jvm.MethodName)),
  (Jvm.Cond.selects "AntLease$House" ({ cls := "AntLease$House", name := "pins", desc := "()I" } : Jvm.MethodName) ({ cls := "AntLease$House", name := "pins", desc := "()I" } : Jvm.MethodName)),
  (Jvm.Cond.code ({ cls := "AntLease$House", name := "powder", desc := "()I" } : Jvm.MethodName) prog_2_method_14_code (1 : Nat) (Option.some Jvm.ClassFile.FieldType.int)),
  (Jvm.Cond.instanceMethod ({ cls := "AntLease$House", name := "powder", desc := "()I" } : Jvm.MethodName)),
  (Jvm.Cond.selects "AntLease$House" ({ cls := "AntLease$House", name := "powder", desc := "()I" } : Jvm.MethodName) ({ cls := "AntLease$House", name := "powder", desc := "()I" } : Jvm.MethodName)),
  (Jvm.Cond.code ({ cls := "AntLease$House", name := "quartersGone", desc := "()I" } : Jvm.MethodName) prog_2_method_15_code (1 : Nat) (Option.some Jvm.ClassFile.FieldType.int)),
  (Jvm.Cond.instanceMethod ({ cls := "AntLease$House", name := "quartersGone", desc := "()I" } : Jvm.MethodName)),
  (Jvm.Cond.selects "AntLease$House" ({ cls := "AntLease$House", name := "quartersGone", desc := "()I" } : Jvm.MethodName) ({ cls := "AntLease$House", name := "quartersGone", desc := "()I" } : Jvm.MethodName)),
  (Jvm.Cond.code ({ cls := "AntLease$House", name := "hasFood", desc := "(I)Z" } : Jvm.MethodName) prog_2_method_16_code (2 : Nat) (Option.some Jvm.ClassFile.FieldType.boolean)),
  (Jvm.Cond.instanceMethod ({ cls := "AntLease$House", name := "hasFood", desc := "(I)Z" } : Jvm.MethodName)),
  (Jvm.Cond.selects "AntLease$House" ({ cls := "AntLease$House", name := "hasFood", desc := "(I)Z" } : Jvm.MethodName) ({ cls := "AntLease$House", name := "hasFood", desc := "(I)Z" } : Jvm.MethodName)),
  (Jvm.Cond.code ({ cls := "AntLease$House", name := "hasThing", desc := "(I)Z" } : Jvm.MethodName) prog_2_method_17_code (2 : Nat) (Option.some Jvm.ClassFile.FieldType.boolean)),
  (Jvm.Cond.instanceMethod ({ cls := "AntLease$House", name := "hasThing", desc := "(I)Z" } : Jvm.MethodName)),
  (Jvm.Cond.selects "AntLease$House" ({ cls := "AntLease$House", name := "hasThing", desc := "(I)Z" } : Jvm.MethodName) ({ cls := "AntLease$House", name := "hasThing", desc := "(I)Z" } : Jvm.MethodName)),
  (Jvm.Cond.code ({ cls := "AntLease$House", name := "kind", desc := "(I)I" } : Jvm.MethodName) prog_2_method_18_code (2 : Nat) (Option.some Jvm.ClassFile.FieldType.int)),
  (Jvm.Cond.instanceMethod ({ cls := "AntLease$House", name := "kind", desc := "(I)I" } : Jvm.MethodName)),
  (Jvm.Cond.selects "AntLease$House" ({ cls := "AntLease$House", name := "kind", desc := "(I)I" } : Jvm.MethodName) ({ cls := "AntLease$House", name := "kind", desc := "(I)I" } : Jvm.MethodName))]
theorem tb9_in_2 : ∀ w ∈ tb9_2, w ∈ lw_tbl := by
  intro w hw
  have hp : tb9_2 = [469, 203, 215, 219, 220, 224, 232, 202, 200, 201, 223, 221, 222, 235, 233, 234, 253, 251, 252, 257, 255, 256, 265, 263, 264, 293, 291, 292, 261, 259, 260, 335, 333, 334, 357, 355, 356, 339, 337, 338].filterMap (fun i => lw_tbl[i]?) := by decide +kernel
  rw [hp] at hw
  obtain ⟨i, -, hi⟩ := List.mem_filterMap.mp hw
  exact List.mem_of_getElem? hi
theorem tb9_good_2 : ∀ w ∈ tb9_2, goodWord w = true := List.all_eq_true.mp (by decide +kernel)
def tb9_3 : List Cond := [(Jvm.Cond.code ({ cls := "AntLease$House", name := "inLarder", desc := "(I)I" } : Jvm.MethodName) prog_2_method_19_code (2 : Nat) (Option.some Jvm.ClassFile.FieldType.int)),
  (Jvm.Cond.instanceMethod ({ cls := "AntLease$House", name := "inLarder", desc := "(I)I" } : Jvm.MethodName)),
  (Jvm.Cond.selects "AntLease$House" ({ cls := "AntLease$House", name := "inLarder", desc := "(I)I" } : Jvm.MethodName) ({ cls := "AntLease$House", name := "inLarder", desc := "(I)I" } : Jvm.MethodName)),
  (Jvm.Cond.code ({ cls := "AntLease$House", name := "onFloor", desc := "(I)I" } : Jvm.MethodName) prog_2_method_20_code (2 : Nat) (Option.some Jvm.ClassFile.FieldType.int)),
  (Jvm.Cond.instanceMethod ({ cls := "AntLease$House", name := "onFloor", desc := "(I)I" } : Jvm.MethodName)),
  (Jvm.Cond.selects "AntLease$House" ({ cls := "AntLease$House", name := "onFloor", desc := "(I)I" } : Jvm.MethodName) ({ cls := "AntLease$House", name := "onFloor", desc := "(I)I" } : Jvm.MethodName)),
  (Jvm.Cond.code ({ cls := "AntLease$House", name := "newlyPut", desc := "(I)I" } : Jvm.MethodName) prog_2_method_21_code (2 : Nat) (Option.some Jvm.ClassFile.FieldType.int)),
  (Jvm.Cond.instanceMethod ({ cls := "AntLease$House", name := "newlyPut", desc := "(I)I" } : Jvm.MethodName)),
  (Jvm.Cond.selects "AntLease$House" ({ cls := "AntLease$House", name := "newlyPut", desc := "(I)I" } : Jvm.MethodName) ({ cls := "AntLease$House", name := "newlyPut", desc := "(I)I" } : Jvm.MethodName)),
  (Jvm.Cond.code ({ cls := "AntLease$House", name := "placeOf", desc := "(I)I" } : Jvm.MethodName) prog_2_method_22_code (2 : Nat) (Option.some Jvm.ClassFile.FieldType.int)),
  (Jvm.Cond.instanceMethod ({ cls := "AntLease$House", name := "placeOf", desc := "(I)I" } : Jvm.MethodName)),
  (Jvm.Cond.selects "AntLease$House" ({ cls := "AntLease$House", name := "placeOf", desc := "(I)I" } : Jvm.MethodName) ({ cls := "AntLease$House", name := "placeOf", desc := "(I)I" } : Jvm.MethodName)),
  (Jvm.Cond.methodLink "AntLease$House" (50 : Nat) ({ cls := "AntLease$House", name := "worthWith", desc := "(II)I" } : Jvm.MethodName)),
  (Jvm.Cond.code ({ cls := "AntLease$House", name := "worth", desc := "(I)I" } : Jvm.MethodName) prog_2_method_23_code (2 : Nat) (Option.some Jvm.ClassFile.FieldType.int)),
  (Jvm.Cond.instanceMethod ({ cls := "AntLease$House", name := "worth", desc := "(I)I" } : Jvm.MethodName)),
  (Jvm.Cond.selects "AntLease$House" ({ cls := "AntLease$House", name := "worth", desc := "(I)I" } : Jvm.MethodName) ({ cls := "AntLease$House", name := "worth", desc := "(I)I" } : Jvm.MethodName)),
  (Jvm.Cond.code ({ cls := "AntLease$House", name := "worthWith", desc := "(II)I" } : Jvm.MethodName) prog_2_method_24_code (4 : Nat) (Option.some Jvm.ClassFile.FieldType.int)),
  (Jvm.Cond.instanceMethod ({ cls := "AntLease$House", name := "worthWith", desc := "(II)I" } : Jvm.MethodName)),
  (Jvm.Cond.selects "AntLease$House" ({ cls := "AntLease$House", name := "worthWith", desc := "(II)I" } : Jvm.MethodName) ({ cls := "AntLease$House", name := "worthWith", desc := "(II)I" } : Jvm.MethodName)),
  (Jvm.Cond.methodLink "AntLease$House" (54 : Nat) ({ cls := "AntLease$House", name := "kind", desc := "(I)I" } : Jvm.MethodName)),
  (Jvm.Cond.code ({ cls := "AntLease$House", name := "grainsAtOnce", desc := "(I)I" } : Jvm.MethodName) prog_2_method_25_code (2 : Nat) (Option.some Jvm.ClassFile.FieldType.int)),
  (Jvm.Cond.instanceMethod ({ cls := "AntLease$House", name := "grainsAtOnce", desc := "(I)I" } : Jvm.MethodName)),
  (Jvm.Cond.selects "AntLease$House" ({ cls := "AntLease$House", name := "grainsAtOnce", desc := "(I)I" } : Jvm.MethodName) ({ cls := "AntLease$House", name := "grainsAtOnce", desc := "(I)I" } : Jvm.MethodName)),
  (Jvm.Cond.methodLink "AntLease$House" (57 : Nat) ({ cls := "AntLease$House", name := "newlyPut", desc := "(I)I" } : Jvm.MethodName)),
  (Jvm.Cond.code ({ cls := "AntLease$House", name := "due", desc := "()I" } : Jvm.MethodName) prog_2_method_26_code (3 : Nat) (Option.some Jvm.ClassFile.FieldType.int)),
  (Jvm.Cond.instanceMethod ({ cls := "AntLease$House", name := "due", desc := "()I" } : Jvm.MethodName)),
  (Jvm.Cond.selects "AntLease$House" ({ cls := "AntLease$House", name := "due", desc := "()I" } : Jvm.MethodName) ({ cls := "AntLease$House", name := "due", desc := "()I" } : Jvm.MethodName)),
  (Jvm.Cond.methodLink "AntLease$House" (60 : Nat) ({ cls := "AntLease$House", name := "due", desc := "()I" } : Jvm.MethodName)),
  (Jvm.Cond.methodLink "AntLease$House" (63 : Nat) ({ cls := "AntLease$House", name := "worth", desc := "(I)I" } : Jvm.MethodName)),
  (Jvm.Cond.methodLink "AntLease$House" (66 : Nat) ({ cls := "java/lang/Math", name := "max", desc := "(II)I" } : Jvm.MethodName)),
  (Jvm.Cond.static ({ cls := "java/lang/Math", name := "max", desc := "(II)I" } : Jvm.MethodName)),
  (Jvm.Cond.initialized "java/lang/Math"),
  (Jvm.Cond.code ({ cls := "java/lang/Math", name := "max", desc := "(II)I" } : Jvm.MethodName) prog_12_method_65_code (2 : Nat) (Option.some Jvm.ClassFile.FieldType.int)),
  (Jvm.Cond.code ({ cls := "AntLease$House", name := "shortBy", desc := "()I" } : Jvm.MethodName) prog_2_method_27_code (3 : Nat) (Option.some Jvm.ClassFile.FieldType.int)),
  (Jvm.Cond.instanceMethod ({ cls := "AntLease$House", name := "shortBy", desc := "()I" } : Jvm.MethodName)),
  (Jvm.Cond.selects "AntLease$House" ({ cls := "AntLease$House", name := "shortBy", desc := "()I" } : Jvm.MethodName) ({ cls := "AntLease$House", name := "shortBy", desc := "()I" } : Jvm.MethodName)),
  (Jvm.Cond.methodLink "AntLease$House" (71 : Nat) ({ cls := "AntLease$House", name := "skirting", desc := "()I" } : Jvm.MethodName)),
  (Jvm.Cond.methodLink "AntLease$House" (74 : Nat) ({ cls := "AntLease$House", name := "goodwill", desc := "()I" } : Jvm.MethodName)),
  (Jvm.Cond.methodLink "AntLease$House" (77 : Nat) ({ cls := "AntLease$House", name := "powder", desc := "()I" } : Jvm.MethodName)),
  (Jvm.Cond.methodLink "AntLease$House" (80 : Nat) ({ cls := "AntLease$House", name := "reachOf", desc := "(III)I" } : Jvm.MethodName))]
theorem tb9_in_3 : ∀ w ∈ tb9_3, w ∈ lw_tbl := by
  intro w hw
  have hp : tb9_3 = [343, 341, 342, 347, 345, 346, 273, 271, 272, 318, 316, 317, 283, 282, 280, 281, 286, 284, 285, 436, 435, 433, 434, 270, 269, 267, 268, 278, 279, 287, 288, 40, 289, 277, 275, 276, 298, 299, 300, 301].filterMap (fun i => lw_tbl[i]?) := by decide +kernel
  rw [hp] at hw
  obtain ⟨i, -, hi⟩ := List.mem_filterMap.mp hw
  exact List.mem_of_getElem? hi
theorem tb9_good_3 : ∀ w ∈ tb9_3, goodWord w = true := List.all_eq_true.mp (by decide +kernel)
def tb9_4 : List Cond := [(Jvm.Cond.code ({ cls := "AntLease$House", name := "reach", desc := "()I" } : Jvm.MethodName) prog_2_method_28_code (1 : Nat) (Option.some Jvm.ClassFile.FieldType.int)),
  (Jvm.Cond.instanceMethod ({ cls := "AntLease$House", name := "reach", desc := "()I" } : Jvm.MethodName)),
  (Jvm.Cond.selects "AntLease$House" ({ cls := "AntLease$House", name := "reach", desc := "()I" } : Jvm.MethodName) ({ cls := "AntLease$House", name := "reach", desc := "()I" } : Jvm.MethodName)),
  (Jvm.Cond.code ({ cls := "AntLease$House", name := "reachOf", desc := "(III)I" } : Jvm.MethodName) prog_2_method_29_code (5 : Nat) (Option.some Jvm.ClassFile.FieldType.int)),
  (Jvm.Cond.static ({ cls := "AntLease$House", name := "reachOf", desc := "(III)I" } : Jvm.MethodName)),
  (Jvm.Cond.methodLink "AntLease$House" (88 : Nat) ({ cls := "AntLease$House", name := "reach", desc := "()I" } : Jvm.MethodName)),
  (Jvm.Cond.methodLink "AntLease$House" (91 : Nat) ({ cls := "AntLease$House", name := "placeOf", desc := "(I)I" } : Jvm.MethodName)),
  (Jvm.Cond.code ({ cls := "AntLease$House", name := "known", desc := "()I" } : Jvm.MethodName) prog_2_method_30_code (4 : Nat) (Option.some Jvm.ClassFile.FieldType.int)),
  (Jvm.Cond.instanceMethod ({ cls := "AntLease$House", name := "known", desc := "()I" } : Jvm.MethodName)),
  (Jvm.Cond.selects "AntLease$House" ({ cls := "AntLease$House", name := "known", desc := "()I" } : Jvm.MethodName) ({ cls := "AntLease$House", name := "known", desc := "()I" } : Jvm.MethodName)),
  (Jvm.Cond.code ({ cls := "AntLease$House", name := "astray", desc := "(I)I" } : Jvm.MethodName) prog_2_method_31_code (5 : Nat) (Option.some Jvm.ClassFile.FieldType.int)),
  (Jvm.Cond.instanceMethod ({ cls := "AntLease$House", name := "astray", desc := "(I)I" } : Jvm.MethodName)),
  (Jvm.Cond.selects "AntLease$House" ({ cls := "AntLease$House", name := "astray", desc := "(I)I" } : Jvm.MethodName) ({ cls := "AntLease$House", name := "astray", desc := "(I)I" } : Jvm.MethodName)),
  (Jvm.Cond.methodLink "AntLease$House" (94 : Nat) ({ cls := "AntLease$House", name := "shortBy", desc := "()I" } : Jvm.MethodName)),
  (Jvm.Cond.methodLink "AntLease$House" (97 : Nat) ({ cls := "java/lang/Integer", name := "bitCount", desc := "(I)I" } : Jvm.MethodName)),
  (Jvm.Cond.methodLink "AntLease$House" (102 : Nat) ({ cls := "java/lang/Math", name := "min", desc := "(II)I" } : Jvm.MethodName)),
  (Jvm.Cond.static ({ cls := "java/lang/Math", name := "min", desc := "(II)I" } : Jvm.MethodName)),
  (Jvm.Cond.code ({ cls := "java/lang/Math", name := "min", desc := "(II)I" } : Jvm.MethodName) prog_12_method_69_code (2 : Nat) (Option.some Jvm.ClassFile.FieldType.int)),
  (Jvm.Cond.methodLink "AntLease$House" (105 : Nat) ({ cls := "AntLease$House", name := "pins", desc := "()I" } : Jvm.MethodName)),
  (Jvm.Cond.code ({ cls := "AntLease$House", name := "endQuarter", desc := "()I" } : Jvm.MethodName) prog_2_method_32_code (4 : Nat) (Option.some Jvm.ClassFile.FieldType.int)),
  (Jvm.Cond.instanceMethod ({ cls := "AntLease$House", name := "endQuarter", desc := "()I" } : Jvm.MethodName)),
  (Jvm.Cond.selects "AntLease$House" ({ cls := "AntLease$House", name := "endQuarter", desc := "()I" } : Jvm.MethodName) ({ cls := "AntLease$House", name := "endQuarter", desc := "()I" } : Jvm.MethodName)),
  (Jvm.Cond.methodLink "AntLease$House" (108 : Nat) ({ cls := "AntLease$House", name := "hasFood", desc := "(I)Z" } : Jvm.MethodName)),
  (Jvm.Cond.code ({ cls := "AntLease$House", name := "refusal", desc := "(II)I" } : Jvm.MethodName) prog_2_method_33_code (3 : Nat) (Option.some Jvm.ClassFile.FieldType.int)),
  (Jvm.Cond.instanceMethod ({ cls := "AntLease$House", name := "refusal", desc := "(II)I" } : Jvm.MethodName)),
  (Jvm.Cond.selects "AntLease$House" ({ cls := "AntLease$House", name := "refusal", desc := "(II)I" } : Jvm.MethodName) ({ cls := "AntLease$House", name := "refusal", desc := "(II)I" } : Jvm.MethodName)),
  (Jvm.Cond.methodLink "AntLease$House" (112 : Nat) ({ cls := "AntLease$House", name := "refusal", desc := "(II)I" } : Jvm.MethodName)),
  (Jvm.Cond.methodLink "AntLease$House" (115 : Nat) ({ cls := "AntLease$House", name := "inLarder", desc := "(I)I" } : Jvm.MethodName)),
  (Jvm.Cond.code ({ cls := "AntLease$House", name := "putUp", desc := "(II)I" } : Jvm.MethodName) prog_2_method_34_code (3 : Nat) (Option.some Jvm.ClassFile.FieldType.int)),
  (Jvm.Cond.instanceMethod ({ cls := "AntLease$House", name := "putUp", desc := "(II)I" } : Jvm.MethodName)),
  (Jvm.Cond.selects "AntLease$House" ({ cls := "AntLease$House", name := "putUp", desc := "(II)I" } : Jvm.MethodName) ({ cls := "AntLease$House", name := "putUp", desc := "(II)I" } : Jvm.MethodName)),
  (Jvm.Cond.code ({ cls := "AntLease$House", name := "eatUp", desc := "(II)I" } : Jvm.MethodName) prog_2_method_35_code (3 : Nat) (Option.some Jvm.ClassFile.FieldType.int)),
  (Jvm.Cond.instanceMethod ({ cls := "AntLease$House", name := "eatUp", desc := "(II)I" } : Jvm.MethodName)),
  (Jvm.Cond.selects "AntLease$House" ({ cls := "AntLease$House", name := "eatUp", desc := "(II)I" } : Jvm.MethodName) ({ cls := "AntLease$House", name := "eatUp", desc := "(II)I" } : Jvm.MethodName)),
  (Jvm.Cond.methodLink "AntLease$House" (118 : Nat) ({ cls := "AntLease$House", name := "grainsAtOnce", desc := "(I)I" } : Jvm.MethodName)),
  (Jvm.Cond.methodLink "AntLease$House" (121 : Nat) ({ cls := "AntLease$House", name := "onFloor", desc := "(I)I" } : Jvm.MethodName)),
  (Jvm.Cond.code ({ cls := "AntLease$House", name := "leaveOut", desc := "(II)I" } : Jvm.MethodName) prog_2_method_36_code (4 : Nat) (Option.some Jvm.ClassFile.FieldType.int)),
  (Jvm.Cond.instanceMethod ({ cls := "AntLease$House", name := "leaveOut", desc := "(II)I" } : Jvm.MethodName)),
  (Jvm.Cond.selects "AntLease$House" ({ cls := "AntLease$House", name := "leaveOut", desc := "(II)I" } : Jvm.MethodName) ({ cls := "AntLease$House", name := "leaveOut", desc := "(II)I" } : Jvm.MethodName)),
  (Jvm.Cond.methodLink "AntLease$House" (124 : Nat) ({ cls := "AntLease$House", name := "hasThing", desc := "(I)Z" } : Jvm.MethodName))]
theorem tb9_in_4 : ∀ w ∈ tb9_4, w ∈ lw_tbl := by
  intro w hw
  have hp : tb9_4 = [297, 295, 296, 303, 302, 314, 315, 313, 311, 312, 363, 361, 362, 387, 388, 394, 395, 396, 397, 386, 384, 385, 414, 413, 412, 4, 410, 415, 409, 407, 408, 423, 421, 422, 432, 437, 431, 429, 430, 446].filterMap (fun i => lw_tbl[i]?) := by decide +kernel
  rw [hp] at hw
  obtain ⟨i, -, hi⟩ := List.mem_filterMap.mp hw
  exact List.mem_of_getElem? hi
theorem tb9_good_4 : ∀ w ∈ tb9_4, goodWord w = true := List.all_eq_true.mp (by decide +kernel)
def tb9_5 : List Cond := [(Jvm.Cond.methodLink "AntLease$House" (130 : Nat) ({ cls := "java/lang/Math", name := "abs", desc := "(I)I" } : Jvm.MethodName)),
  (Jvm.Cond.static ({ cls := "java/lang/Math", name := "abs", desc := "(I)I" } : Jvm.MethodName)),
  (Jvm.Cond.code ({ cls := "java/lang/Math", name := "abs", desc := "(I)I" } : Jvm.MethodName) prog_12_method_59_code (1 : Nat) (Option.some Jvm.ClassFile.FieldType.int)),
  (Jvm.Cond.code ({ cls := "AntLease$House", name := "carry", desc := "(II)I" } : Jvm.MethodName) prog_2_method_37_code (4 : Nat) (Option.some Jvm.ClassFile.FieldType.int)),
  (Jvm.Cond.instanceMethod ({ cls := "AntLease$House", name := "carry", desc := "(II)I" } : Jvm.MethodName)),
  (Jvm.Cond.selects "AntLease$House" ({ cls := "AntLease$House", name := "carry", desc := "(II)I" } : Jvm.MethodName) ({ cls := "AntLease$House", name := "carry", desc := "(II)I" } : Jvm.MethodName)),
  (Jvm.Cond.code ({ cls := "AntLease$House", name := "strew", desc := "(I)I" } : Jvm.MethodName) prog_2_method_38_code (2 : Nat) (Option.some Jvm.ClassFile.FieldType.int)),
  (Jvm.Cond.instanceMethod ({ cls := "AntLease$House", name := "strew", desc := "(I)I" } : Jvm.MethodName)),
  (Jvm.Cond.selects "AntLease$House" ({ cls := "AntLease$House", name := "strew", desc := "(I)I" } : Jvm.MethodName) ({ cls := "AntLease$House", name := "strew", desc := "(I)I" } : Jvm.MethodName)),
  (Jvm.Cond.fieldLink "AntLease$Least" (9 : Nat) "AntLease$Least" "grains" "I"),
  (Jvm.Cond.code ({ cls := "AntLease$Least", name := "grains", desc := "()I" } : Jvm.MethodName) prog_3_method_2_code (1 : Nat) (Option.some Jvm.ClassFile.FieldType.int)),
  (Jvm.Cond.initialized "AntLease$Least"),
  (Jvm.Cond.instanceMethod ({ cls := "AntLease$Least", name := "grains", desc := "()I" } : Jvm.MethodName)),
  (Jvm.Cond.selects "AntLease$Least" ({ cls := "AntLease$Least", name := "grains", desc := "()I" } : Jvm.MethodName) ({ cls := "AntLease$Least", name := "grains", desc := "()I" } : Jvm.MethodName)),
  (Jvm.Cond.fieldLink "AntLease$Least" (15 : Nat) "AntLease$Least" "figures" "I"),
  (Jvm.Cond.code ({ cls := "AntLease$Least", name := "figures", desc := "()I" } : Jvm.MethodName) prog_3_method_3_code (1 : Nat) (Option.some Jvm.ClassFile.FieldType.int)),
  (Jvm.Cond.instanceMethod ({ cls := "AntLease$Least", name := "figures", desc := "()I" } : Jvm.MethodName)),
  (Jvm.Cond.selects "AntLease$Least" ({ cls := "AntLease$Least", name := "figures", desc := "()I" } : Jvm.MethodName) ({ cls := "AntLease$Least", name := "figures", desc := "()I" } : Jvm.MethodName)),
  (Jvm.Cond.methodLink "AntLease$Least" (18 : Nat) ({ cls := "AntLease$House", name := "shortBy", desc := "()I" } : Jvm.MethodName)),
  (Jvm.Cond.methodLink "AntLease$Least" (24 : Nat) ({ cls := "AntLease$Least", name := "tryFood", desc := "(LAntLease$Least;LAntLease$House;IIII)V" } : Jvm.MethodName)),
  (Jvm.Cond.code ({ cls := "AntLease$Least", name := "find", desc := "(LAntLease$House;)V" } : Jvm.MethodName) prog_3_method_4_code (2 : Nat) (Option.none : Option Jvm.ClassFile.FieldType)),
  (Jvm.Cond.instanceMethod ({ cls := "AntLease$Least", name := "find", desc := "(LAntLease$House;)V" } : Jvm.MethodName)),
  (Jvm.Cond.selects "AntLease$Least" ({ cls := "AntLease$Least", name := "find", desc := "(LAntLease$House;)V" } : Jvm.MethodName) ({ cls := "AntLease$Least", name := "find", desc := "(LAntLease$House;)V" } : Jvm.MethodName)),
  (Jvm.Cond.methodLink "AntLease$Least" (28 : Nat) ({ cls := "AntLease$House", name := "foods", desc := "()I" } : Jvm.MethodName)),
  (Jvm.Cond.methodLink "AntLease$Least" (31 : Nat) ({ cls := "AntLease$House", name := "grainsAtOnce", desc := "(I)I" } : Jvm.MethodName)),
  (Jvm.Cond.methodLink "AntLease$Least" (35 : Nat) ({ cls := "AntLease$House", name := "inLarder", desc := "(I)I" } : Jvm.MethodName)),
  (Jvm.Cond.methodLink "AntLease$Least" (38 : Nat) ({ cls := "AntLease$House", name := "worthWith", desc := "(II)I" } : Jvm.MethodName)),
  (Jvm.Cond.methodLink "AntLease$Least" (42 : Nat) ({ cls := "AntLease$House", name := "worth", desc := "(I)I" } : Jvm.MethodName)),
  (Jvm.Cond.code ({ cls := "AntLease$Least", name := "tryFood", desc := "(LAntLease$Least;LAntLease$House;IIII)V" } : Jvm.MethodName) prog_3_method_5_code (10 : Nat) (Option.none : Option Jvm.ClassFile.FieldType)),
  (Jvm.Cond.static ({ cls := "AntLease$Least", name := "tryFood", desc := "(LAntLease$Least;LAntLease$House;IIII)V" } : Jvm.MethodName)),
  (Jvm.Cond.fieldLink "AntLease$Past" (21 : Nat) "AntLease$Past" "size" "I"),
  (Jvm.Cond.code ({ cls := "AntLease$Past", name := "size", desc := "()I" } : Jvm.MethodName) prog_4_method_2_code (1 : Nat) (Option.some Jvm.ClassFile.FieldType.int)),
  (Jvm.Cond.initialized "AntLease$Past"),
  (Jvm.Cond.instanceMethod ({ cls := "AntLease$Past", name := "size", desc := "()I" } : Jvm.MethodName)),
  (Jvm.Cond.selects "AntLease$Past" ({ cls := "AntLease$Past", name := "size", desc := "()I" } : Jvm.MethodName) ({ cls := "AntLease$Past", name := "size", desc := "()I" } : Jvm.MethodName)),
  (Jvm.Cond.code ({ cls := "AntLease$Past", name := "forget", desc := "()V" } : Jvm.MethodName) prog_4_method_3_code (1 : Nat) (Option.none : Option Jvm.ClassFile.FieldType)),
  (Jvm.Cond.instanceMethod ({ cls := "AntLease$Past", name := "forget", desc := "()V" } : Jvm.MethodName)),
  (Jvm.Cond.selects "AntLease$Past" ({ cls := "AntLease$Past", name := "forget", desc := "()V" } : Jvm.MethodName) ({ cls := "AntLease$Past", name := "forget", desc := "()V" } : Jvm.MethodName)),
  (Jvm.Cond.fieldLink "AntLease$Past" (17 : Nat) "AntLease$Past" "first" "I"),
  (Jvm.Cond.code ({ cls := "AntLease$Past", name := "next", desc := "()I" } : Jvm.MethodName) prog_4_method_4_code (1 : Nat) (Option.some Jvm.ClassFile.FieldType.int))]
theorem tb9_in_5 : ∀ w ∈ tb9_5, w ∈ lw_tbl := by
  intro w hw
  have hp : tb9_5 = [448, 449, 450, 445, 443, 444, 458, 456, 457, 127, 499, 38, 497, 498, 128, 503, 501, 502, 487, 488, 486, 484, 485, 491, 492, 493, 494, 495, 490, 489, 84, 322, 35, 320, 321, 239, 237, 238, 83, 375].filterMap (fun i => lw_tbl[i]?) := by decide +kernel
  rw [hp] at hw
  obtain ⟨i, -, hi⟩ := List.mem_filterMap.mp hw
  exact List.mem_of_getElem? hi
theorem tb9_good_5 : ∀ w ∈ tb9_5, goodWord w = true := List.all_eq_true.mp (by decide +kernel)
def tb9_6 : List Cond := [(Jvm.Cond.instanceMethod ({ cls := "AntLease$Past", name := "next", desc := "()I" } : Jvm.MethodName)),
  (Jvm.Cond.selects "AntLease$Past" ({ cls := "AntLease$Past", name := "next", desc := "()I" } : Jvm.MethodName) ({ cls := "AntLease$Past", name := "next", desc := "()I" } : Jvm.MethodName)),
  (Jvm.Cond.fieldLink "AntLease$Past" (13 : Nat) "AntLease$Past" "rows" "[I"),
  (Jvm.Cond.methodLink "AntLease$Past" (24 : Nat) ({ cls := "AntLease$Past", name := "next", desc := "()I" } : Jvm.MethodName)),
  (Jvm.Cond.methodLink "AntLease$Past" (28 : Nat) ({ cls := "AntLease$House", name := "storeIn", desc := "([II)V" } : Jvm.MethodName)),
  (Jvm.Cond.code ({ cls := "AntLease$Past", name := "note", desc := "(LAntLease$House;)V" } : Jvm.MethodName) prog_4_method_5_code (2 : Nat) (Option.none : Option Jvm.ClassFile.FieldType)),
  (Jvm.Cond.instanceMethod ({ cls := "AntLease$Past", name := "note", desc := "(LAntLease$House;)V" } : Jvm.MethodName)),
  (Jvm.Cond.selects "AntLease$Past" ({ cls := "AntLease$Past", name := "note", desc := "(LAntLease$House;)V" } : Jvm.MethodName) ({ cls := "AntLease$Past", name := "note", desc := "(LAntLease$House;)V" } : Jvm.MethodName)),
  (Jvm.Cond.code ({ cls := "AntLease$Past", name := "settle", desc := "(I)I" } : Jvm.MethodName) prog_4_method_6_code (2 : Nat) (Option.some Jvm.ClassFile.FieldType.int)),
  (Jvm.Cond.instanceMethod ({ cls := "AntLease$Past", name := "settle", desc := "(I)I" } : Jvm.MethodName)),
  (Jvm.Cond.selects "AntLease$Past" ({ cls := "AntLease$Past", name := "settle", desc := "(I)I" } : Jvm.MethodName) ({ cls := "AntLease$Past", name := "settle", desc := "(I)I" } : Jvm.MethodName)),
  (Jvm.Cond.methodLink "AntLease$Past" (32 : Nat) ({ cls := "AntLease$House", name := "fetchFrom", desc := "([II)V" } : Jvm.MethodName)),
  (Jvm.Cond.code ({ cls := "AntLease$Past", name := "takeBack", desc := "(LAntLease$House;)I" } : Jvm.MethodName) prog_4_method_7_code (2 : Nat) (Option.some Jvm.ClassFile.FieldType.int)),
  (Jvm.Cond.instanceMethod ({ cls := "AntLease$Past", name := "takeBack", desc := "(LAntLease$House;)I" } : Jvm.MethodName)),
  (Jvm.Cond.selects "AntLease$Past" ({ cls := "AntLease$Past", name := "takeBack", desc := "(LAntLease$House;)I" } : Jvm.MethodName) ({ cls := "AntLease$Past", name := "takeBack", desc := "(LAntLease$House;)I" } : Jvm.MethodName)),
  (Jvm.Cond.code ({ cls := "AntLease$Rests", name := "bit", desc := "(II)I" } : Jvm.MethodName) prog_5_method_2_code (2 : Nat) (Option.some Jvm.ClassFile.FieldType.int)),
  (Jvm.Cond.initialized "AntLease$Rests"),
  (Jvm.Cond.static ({ cls := "AntLease$Rests", name := "bit", desc := "(II)I" } : Jvm.MethodName)),
  (Jvm.Cond.methodLink "AntLease$Rests" (11 : Nat) ({ cls := "AntLease$Rests", name := "isRest", desc := "(III)Z" } : Jvm.MethodName)),
  (Jvm.Cond.code ({ cls := "AntLease$Rests", name := "howMany", desc := "(I)I" } : Jvm.MethodName) prog_5_method_3_code (4 : Nat) (Option.some Jvm.ClassFile.FieldType.int)),
  (Jvm.Cond.static ({ cls := "AntLease$Rests", name := "howMany", desc := "(I)I" } : Jvm.MethodName)),
  (Jvm.Cond.code ({ cls := "AntLease$Rests", name := "first", desc := "(I)I" } : Jvm.MethodName) prog_5_method_4_code (3 : Nat) (Option.some Jvm.ClassFile.FieldType.int)),
  (Jvm.Cond.static ({ cls := "AntLease$Rests", name := "first", desc := "(I)I" } : Jvm.MethodName)),
  (Jvm.Cond.methodLink "AntLease$Rests" (15 : Nat) ({ cls := "AntLease$Rests", name := "bit", desc := "(II)I" } : Jvm.MethodName)),
  (Jvm.Cond.methodLink "AntLease$Rests" (19 : Nat) ({ cls := "AntLease$Rests", name := "gain", desc := "(III)I" } : Jvm.MethodName)),
  (Jvm.Cond.code ({ cls := "AntLease$Rests", name := "isRest", desc := "(III)Z" } : Jvm.MethodName) prog_5_method_5_code (4 : Nat) (Option.some Jvm.ClassFile.FieldType.boolean)),
  (Jvm.Cond.static ({ cls := "AntLease$Rests", name := "isRest", desc := "(III)Z" } : Jvm.MethodName)),
  (Jvm.Cond.code ({ cls := "AntLease$Rests", name := "gain", desc := "(III)I" } : Jvm.MethodName) prog_5_method_6_code (3 : Nat) (Option.some Jvm.ClassFile.FieldType.int)),
  (Jvm.Cond.static ({ cls := "AntLease$Rests", name := "gain", desc := "(III)I" } : Jvm.MethodName)),
  (Jvm.Cond.fieldLink "AntLease$Said" (9 : Nat) "AntLease$Said" "size" "I"),
  (Jvm.Cond.code ({ cls := "AntLease$Said", name := "size", desc := "()I" } : Jvm.MethodName) prog_6_method_2_code (1 : Nat) (Option.some Jvm.ClassFile.FieldType.int)),
  (Jvm.Cond.initialized "AntLease$Said"),
  (Jvm.Cond.instanceMethod ({ cls := "AntLease$Said", name := "size", desc := "()I" } : Jvm.MethodName)),
  (Jvm.Cond.selects "AntLease$Said" ({ cls := "AntLease$Said", name := "size", desc := "()I" } : Jvm.MethodName) ({ cls := "AntLease$Said", name := "size", desc := "()I" } : Jvm.MethodName)),
  (Jvm.Cond.fieldLink "AntLease$Said" (15 : Nat) "AntLease$Said" "knew" "I"),
  (Jvm.Cond.fieldLink "AntLease$Said" (18 : Nat) "AntLease$Said" "knewNot" "I"),
  (Jvm.Cond.code ({ cls := "AntLease$Said", name := "add", desc := "(II)I" } : Jvm.MethodName) prog_6_method_3_code (3 : Nat) (Option.some Jvm.ClassFile.FieldType.int)),
  (Jvm.Cond.instanceMethod ({ cls := "AntLease$Said", name := "add", desc := "(II)I" } : Jvm.MethodName)),
  (Jvm.Cond.selects "AntLease$Said" ({ cls := "AntLease$Said", name := "add", desc := "(II)I" } : Jvm.MethodName) ({ cls := "AntLease$Said", name := "add", desc := "(II)I" } : Jvm.MethodName)),
  (Jvm.Cond.code ({ cls := "AntLease$Said", name := "forget", desc := "()I" } : Jvm.MethodName) prog_6_method_4_code (2 : Nat) (Option.some Jvm.ClassFile.FieldType.int))]
theorem tb9_in_6 : ∀ w ∈ tb9_6, w ∈ lw_tbl := by
  intro w hw
  have hp : tb9_6 = [374, 3, 82, 372, 376, 371, 369, 370, 401, 399, 400, 467, 466, 464, 465, 572, 43, 571, 576, 575, 574, 585, 584, 579, 580, 578, 577, 582, 581, 111, 326, 37, 324, 325, 112, 113, 535, 533, 534, 544].filterMap (fun i => lw_tbl[i]?) := by decide +kernel
  rw [hp] at hw
  obtain ⟨i, -, hi⟩ := List.mem_filterMap.mp hw
  exact List.mem_of_getElem? hi
theorem tb9_good_6 : ∀ w ∈ tb9_6, goodWord w = true := List.all_eq_true.mp (by decide +kernel)
def tb9_7 : List Cond := [(Jvm.Cond.instanceMethod ({ cls := "AntLease$Said", name := "forget", desc := "()I" } : Jvm.MethodName)),
  (Jvm.Cond.selects "AntLease$Said" ({ cls := "AntLease$Said", name := "forget", desc := "()I" } : Jvm.MethodName) ({ cls := "AntLease$Said", name := "forget", desc := "()I" } : Jvm.MethodName)),
  (Jvm.Cond.methodLink "AntLease$Said" (25 : Nat) ({ cls := "AntLease$House", name := "reachOf", desc := "(III)I" } : Jvm.MethodName)),
  (Jvm.Cond.code ({ cls := "AntLease$Said", name := "isSo", desc := "(II)Z" } : Jvm.MethodName) prog_6_method_5_code (4 : Nat) (Option.some Jvm.ClassFile.FieldType.boolean)),
  (Jvm.Cond.instanceMethod ({ cls := "AntLease$Said", name := "isSo", desc := "(II)Z" } : Jvm.MethodName)),
  (Jvm.Cond.selects "AntLease$Said" ({ cls := "AntLease$Said", name := "isSo", desc := "(II)Z" } : Jvm.MethodName) ({ cls := "AntLease$Said", name := "isSo", desc := "(II)Z" } : Jvm.MethodName)),
  (Jvm.Cond.methodLink "AntLease$Said" (31 : Nat) ({ cls := "AntLease$Said", name := "isSo", desc := "(II)Z" } : Jvm.MethodName)),
  (Jvm.Cond.code ({ cls := "AntLease$Said", name := "howManyLines", desc := "(I)I" } : Jvm.MethodName) prog_6_method_6_code (4 : Nat) (Option.some Jvm.ClassFile.FieldType.int)),
  (Jvm.Cond.instanceMethod ({ cls := "AntLease$Said", name := "howManyLines", desc := "(I)I" } : Jvm.MethodName)),
  (Jvm.Cond.selects "AntLease$Said" ({ cls := "AntLease$Said", name := "howManyLines", desc := "(I)I" } : Jvm.MethodName) ({ cls := "AntLease$Said", name := "howManyLines", desc := "(I)I" } : Jvm.MethodName)),
  (Jvm.Cond.code ({ cls := "AntLease$Said", name := "firstLine", desc := "(I)I" } : Jvm.MethodName) prog_6_method_7_code (3 : Nat) (Option.some Jvm.ClassFile.FieldType.int)),
  (Jvm.Cond.instanceMethod ({ cls := "AntLease$Said", name := "firstLine", desc := "(I)I" } : Jvm.MethodName)),
  (Jvm.Cond.selects "AntLease$Said" ({ cls := "AntLease$Said", name := "firstLine", desc := "(I)I" } : Jvm.MethodName) ({ cls := "AntLease$Said", name := "firstLine", desc := "(I)I" } : Jvm.MethodName)),
  (Jvm.Cond.fieldLink "AntLease$Slots" (17 : Nat) "AntLease$Slots" "taken" "I"),
  (Jvm.Cond.code ({ cls := "AntLease$Slots", name := "forget", desc := "()V" } : Jvm.MethodName) prog_7_method_2_code (1 : Nat) (Option.none : Option Jvm.ClassFile.FieldType)),
  (Jvm.Cond.initialized "AntLease$Slots"),
  (Jvm.Cond.instanceMethod ({ cls := "AntLease$Slots", name := "forget", desc := "()V" } : Jvm.MethodName)),
  (Jvm.Cond.selects "AntLease$Slots" ({ cls := "AntLease$Slots", name := "forget", desc := "()V" } : Jvm.MethodName) ({ cls := "AntLease$Slots", name := "forget", desc := "()V" } : Jvm.MethodName)),
  (Jvm.Cond.code ({ cls := "AntLease$Slots", name := "isSlot", desc := "(I)Z" } : Jvm.MethodName) prog_7_method_3_code (1 : Nat) (Option.some Jvm.ClassFile.FieldType.boolean)),
  (Jvm.Cond.static ({ cls := "AntLease$Slots", name := "isSlot", desc := "(I)Z" } : Jvm.MethodName)),
  (Jvm.Cond.methodLink "AntLease$Slots" (21 : Nat) ({ cls := "AntLease$Slots", name := "isSlot", desc := "(I)Z" } : Jvm.MethodName)),
  (Jvm.Cond.fieldLink "AntLease$Slots" (13 : Nat) "AntLease$Slots" "rows" "[I"),
  (Jvm.Cond.methodLink "AntLease$Slots" (25 : Nat) ({ cls := "AntLease$House", name := "storeIn", desc := "([II)V" } : Jvm.MethodName)),
  (Jvm.Cond.methodLink "AntLease$Slots" (29 : Nat) ({ cls := "AntLease$House", name := "quartersGone", desc := "()I" } : Jvm.MethodName)),
  (Jvm.Cond.code ({ cls := "AntLease$Slots", name := "take", desc := "(ILAntLease$House;)I" } : Jvm.MethodName) prog_7_method_4_code (3 : Nat) (Option.some Jvm.ClassFile.FieldType.int)),
  (Jvm.Cond.instanceMethod ({ cls := "AntLease$Slots", name := "take", desc := "(ILAntLease$House;)I" } : Jvm.MethodName)),
  (Jvm.Cond.selects "AntLease$Slots" ({ cls := "AntLease$Slots", name := "take", desc := "(ILAntLease$House;)I" } : Jvm.MethodName) ({ cls := "AntLease$Slots", name := "take", desc := "(ILAntLease$House;)I" } : Jvm.MethodName)),
  (Jvm.Cond.methodLink "AntLease$Slots" (33 : Nat) ({ cls := "AntLease$House", name := "fetchFrom", desc := "([II)V" } : Jvm.MethodName)),
  (Jvm.Cond.code ({ cls := "AntLease$Slots", name := "giveBack", desc := "(ILAntLease$House;)I" } : Jvm.MethodName) prog_7_method_5_code (3 : Nat) (Option.some Jvm.ClassFile.FieldType.int)),
  (Jvm.Cond.instanceMethod ({ cls := "AntLease$Slots", name := "giveBack", desc := "(ILAntLease$House;)I" } : Jvm.MethodName)),
  (Jvm.Cond.selects "AntLease$Slots" ({ cls := "AntLease$Slots", name := "giveBack", desc := "(ILAntLease$House;)I" } : Jvm.MethodName) ({ cls := "AntLease$Slots", name := "giveBack", desc := "(ILAntLease$House;)I" } : Jvm.MethodName)),
  (Jvm.Cond.fieldLink "AntLease$Text" (15 : Nat) "AntLease$Text" "length" "I"),
  (Jvm.Cond.code ({ cls := "AntLease$Text", name := "length", desc := "()I" } : Jvm.MethodName) prog_8_method_2_code (1 : Nat) (Option.some Jvm.ClassFile.FieldType.int)),
  (Jvm.Cond.initialized "AntLease$Text"),
  (Jvm.Cond.instanceMethod ({ cls := "AntLease$Text", name := "length", desc := "()I" } : Jvm.MethodName)),
  (Jvm.Cond.selects "AntLease$Text" ({ cls := "AntLease$Text", name := "length", desc := "()I" } : Jvm.MethodName) ({ cls := "AntLease$Text", name := "length", desc := "()I" } : Jvm.MethodName)),
  (Jvm.Cond.fieldLink "AntLease$Text" (11 : Nat) "AntLease$Text" "bytes" "[I"),
  (Jvm.Cond.code ({ cls := "AntLease$Text", name := "add", desc := "(I)I" } : Jvm.MethodName) prog_8_method_3_code (2 : Nat) (Option.some Jvm.ClassFile.FieldType.int)),
  (Jvm.Cond.instanceMethod ({ cls := "AntLease$Text", name := "add", desc := "(I)I" } : Jvm.MethodName)),
  (Jvm.Cond.selects "AntLease$Text" ({ cls := "AntLease$Text", name := "add", desc := "(I)I" } : Jvm.MethodName) ({ cls := "AntLease$Text", name := "add", desc := "(I)I" } : Jvm.MethodName))]
theorem tb9_in_7 : ∀ w ∈ tb9_7, w ∈ lw_tbl := by
  intro w hw
  have hp : tb9_7 = [542, 543, 557, 556, 555, 6, 553, 552, 550, 551, 561, 559, 560, 99, 243, 36, 241, 242, 617, 616, 615, 98, 618, 619, 614, 612, 613, 628, 627, 625, 626, 59, 218, 33, 216, 217, 58, 172, 170, 171].filterMap (fun i => lw_tbl[i]?) := by decide +kernel
  rw [hp] at hw
  obtain ⟨i, -, hi⟩ := List.mem_filterMap.mp hw
  exact List.mem_of_getElem? hi
theorem tb9_good_7 : ∀ w ∈ tb9_7, goodWord w = true := List.all_eq_true.mp (by decide +kernel)
def tb9_8 : List Cond := [(Jvm.Cond.code ({ cls := "AntLease$Text", name := "empty", desc := "()I" } : Jvm.MethodName) prog_8_method_4_code (2 : Nat) (Option.some Jvm.ClassFile.FieldType.int)),
  (Jvm.Cond.instanceMethod ({ cls := "AntLease$Text", name := "empty", desc := "()I" } : Jvm.MethodName)),
  (Jvm.Cond.selects "AntLease$Text" ({ cls := "AntLease$Text", name := "empty", desc := "()I" } : Jvm.MethodName) ({ cls := "AntLease$Text", name := "empty", desc := "()I" } : Jvm.MethodName)),
  (Jvm.Cond.code ({ cls := "AntLease$Text", name := "byteAt", desc := "(I)I" } : Jvm.MethodName) prog_8_method_5_code (2 : Nat) (Option.some Jvm.ClassFile.FieldType.int)),
  (Jvm.Cond.instanceMethod ({ cls := "AntLease$Text", name := "byteAt", desc := "(I)I" } : Jvm.MethodName)),
  (Jvm.Cond.selects "AntLease$Text" ({ cls := "AntLease$Text", name := "byteAt", desc := "(I)I" } : Jvm.MethodName) ({ cls := "AntLease$Text", name := "byteAt", desc := "(I)I" } : Jvm.MethodName)),
  (Jvm.Cond.methodLink "AntLease$Text" (19 : Nat) ({ cls := "AntLease$Text", name := "byteAt", desc := "(I)I" } : Jvm.MethodName)),
  (Jvm.Cond.code ({ cls := "AntLease$Text", name := "figureAt", desc := "(I)I" } : Jvm.MethodName) prog_8_method_6_code (2 : Nat) (Option.some Jvm.ClassFile.FieldType.int)),
  (Jvm.Cond.instanceMethod ({ cls := "AntLease$Text", name := "figureAt", desc := "(I)I" } : Jvm.MethodName)),
  (Jvm.Cond.selects "AntLease$Text" ({ cls := "AntLease$Text", name := "figureAt", desc := "(I)I" } : Jvm.MethodName) ({ cls := "AntLease$Text", name := "figureAt", desc := "(I)I" } : Jvm.MethodName)),
  (Jvm.Cond.methodLink "AntLease$Text" (23 : Nat) ({ cls := "AntLease$Text", name := "fits", desc := "(II)Z" } : Jvm.MethodName)),
  (Jvm.Cond.methodLink "AntLease$Text" (27 : Nat) ({ cls := "AntLease$Text", name := "wantedAfter", desc := "(II)I" } : Jvm.MethodName)),
  (Jvm.Cond.code ({ cls := "AntLease$Text", name := "firstFault", desc := "()I" } : Jvm.MethodName) prog_8_method_7_code (6 : Nat) (Option.some Jvm.ClassFile.FieldType.int)),
  (Jvm.Cond.instanceMethod ({ cls := "AntLease$Text", name := "firstFault", desc := "()I" } : Jvm.MethodName)),
  (Jvm.Cond.selects "AntLease$Text" ({ cls := "AntLease$Text", name := "firstFault", desc := "()I" } : Jvm.MethodName) ({ cls := "AntLease$Text", name := "firstFault", desc := "()I" } : Jvm.MethodName)),
  (Jvm.Cond.code ({ cls := "AntLease$Text", name := "fits", desc := "(II)Z" } : Jvm.MethodName) prog_8_method_8_code (2 : Nat) (Option.some Jvm.ClassFile.FieldType.boolean)),
  (Jvm.Cond.static ({ cls := "AntLease$Text", name := "fits", desc := "(II)Z" } : Jvm.MethodName)),
  (Jvm.Cond.code ({ cls := "AntLease$Text", name := "wantedAfter", desc := "(II)I" } : Jvm.MethodName) prog_8_method_9_code (2 : Nat) (Option.some Jvm.ClassFile.FieldType.int)),
  (Jvm.Cond.static ({ cls := "AntLease$Text", name := "wantedAfter", desc := "(II)I" } : Jvm.MethodName)),
  (Jvm.Cond.fieldLink "AntLease" (10 : Nat) "AntLease" "text" "LAntLease$Text;"),
  (Jvm.Cond.methodLink "AntLease" (65 : Nat) ({ cls := "AntLease$Text", name := "add", desc := "(I)I" } : Jvm.MethodName)),
  (Jvm.Cond.code ({ cls := "AntLease", name := "write", desc := "(I)I" } : Jvm.MethodName) prog_1_method_2_code (2 : Nat) (Option.some Jvm.ClassFile.FieldType.int)),
  (Jvm.Cond.initialized "AntLease"),
  (Jvm.Cond.instanceMethod ({ cls := "AntLease", name := "write", desc := "(I)I" } : Jvm.MethodName)),
  (Jvm.Cond.selects "AntLease" ({ cls := "AntLease", name := "write", desc := "(I)I" } : Jvm.MethodName) ({ cls := "AntLease", name := "write", desc := "(I)I" } : Jvm.MethodName)),
  (Jvm.Cond.methodLink "AntLease" (69 : Nat) ({ cls := "AntLease$Text", name := "empty", desc := "()I" } : Jvm.MethodName)),
  (Jvm.Cond.code ({ cls := "AntLease", name := "wipe", desc := "()I" } : Jvm.MethodName) prog_1_method_3_code (1 : Nat) (Option.some Jvm.ClassFile.FieldType.int)),
  (Jvm.Cond.instanceMethod ({ cls := "AntLease", name := "wipe", desc := "()I" } : Jvm.MethodName)),
  (Jvm.Cond.selects "AntLease" ({ cls := "AntLease", name := "wipe", desc := "()I" } : Jvm.MethodName) ({ cls := "AntLease", name := "wipe", desc := "()I" } : Jvm.MethodName)),
  (Jvm.Cond.methodLink "AntLease" (73 : Nat) ({ cls := "AntLease$Text", name := "firstFault", desc := "()I" } : Jvm.MethodName)),
  (Jvm.Cond.code ({ cls := "AntLease", name := "fault", desc := "()I" } : Jvm.MethodName) prog_1_method_4_code (1 : Nat) (Option.some Jvm.ClassFile.FieldType.int)),
  (Jvm.Cond.instanceMethod ({ cls := "AntLease", name := "fault", desc := "()I" } : Jvm.MethodName)),
  (Jvm.Cond.selects "AntLease" ({ cls := "AntLease", name := "fault", desc := "()I" } : Jvm.MethodName) ({ cls := "AntLease", name := "fault", desc := "()I" } : Jvm.MethodName)),
  (Jvm.Cond.fieldLink "AntLease" (19 : Nat) "AntLease" "now" "LAntLease$House;"),
  (Jvm.Cond.methodLink "AntLease" (76 : Nat) ({ cls := "AntLease$House", name := "makeFrom", desc := "(LAntLease$Text;)V" } : Jvm.MethodName)),
  (Jvm.Cond.fieldLink "AntLease" (29 : Nat) "AntLease" "past" "LAntLease$Past;"),
  (Jvm.Cond.methodLink "AntLease" (80 : Nat) ({ cls := "AntLease$Past", name := "forget", desc := "()V" } : Jvm.MethodName)),
  (Jvm.Cond.fieldLink "AntLease" (36 : Nat) "AntLease" "slots" "LAntLease$Slots;"),
  (Jvm.Cond.methodLink "AntLease" (83 : Nat) ({ cls := "AntLease$Slots", name := "forget", desc := "()V" } : Jvm.MethodName)),
  (Jvm.Cond.methodLink "AntLease" (84 : Nat) ({ cls := "AntLease$House", name := "foods", desc := "()I" } : Jvm.MethodName))]
theorem tb9_in_8 : ∀ w ∈ tb9_8, w ∈ lw_tbl := by
  intro w hw
  have hp : tb9_8 = [180, 178, 179, 210, 208, 209, 207, 206, 204, 205, 189, 192, 188, 186, 187, 191, 190, 194, 193, 134, 169, 168, 32, 166, 167, 177, 176, 174, 175, 185, 184, 182, 183, 135, 199, 137, 236, 138, 240, 244].filterMap (fun i => lw_tbl[i]?) := by decide +kernel
  rw [hp] at hw
  obtain ⟨i, -, hi⟩ := List.mem_filterMap.mp hw
  exact List.mem_of_getElem? hi
theorem tb9_good_8 : ∀ w ∈ tb9_8, goodWord w = true := List.all_eq_true.mp (by decide +kernel)
def tb9_9 : List Cond := [(Jvm.Cond.methodLink "AntLease" (87 : Nat) ({ cls := "AntLease$House", name := "things", desc := "()I" } : Jvm.MethodName)),
  (Jvm.Cond.code ({ cls := "AntLease", name := "manor", desc := "()I" } : Jvm.MethodName) prog_1_method_5_code (1 : Nat) (Option.some Jvm.ClassFile.FieldType.int)),
  (Jvm.Cond.instanceMethod ({ cls := "AntLease", name := "manor", desc := "()I" } : Jvm.MethodName)),
  (Jvm.Cond.selects "AntLease" ({ cls := "AntLease", name := "manor", desc := "()I" } : Jvm.MethodName) ({ cls := "AntLease", name := "manor", desc := "()I" } : Jvm.MethodName)),
  (Jvm.Cond.methodLink "AntLease" (90 : Nat) ({ cls := "AntLease$House", name := "skirting", desc := "()I" } : Jvm.MethodName)),
  (Jvm.Cond.methodLink "AntLease" (93 : Nat) ({ cls := "AntLease$House", name := "goodwill", desc := "()I" } : Jvm.MethodName)),
  (Jvm.Cond.methodLink "AntLease" (96 : Nat) ({ cls := "AntLease$House", name := "quartersGone", desc := "()I" } : Jvm.MethodName)),
  (Jvm.Cond.methodLink "AntLease" (99 : Nat) ({ cls := "AntLease$House", name := "pins", desc := "()I" } : Jvm.MethodName)),
  (Jvm.Cond.methodLink "AntLease" (102 : Nat) ({ cls := "AntLease$House", name := "due", desc := "()I" } : Jvm.MethodName)),
  (Jvm.Cond.methodLink "AntLease" (105 : Nat) ({ cls := "AntLease$House", name := "shortBy", desc := "()I" } : Jvm.MethodName)),
  (Jvm.Cond.methodLink "AntLease" (108 : Nat) ({ cls := "AntLease$House", name := "powder", desc := "()I" } : Jvm.MethodName)),
  (Jvm.Cond.methodLink "AntLease" (111 : Nat) ({ cls := "AntLease$House", name := "reach", desc := "()I" } : Jvm.MethodName)),
  (Jvm.Cond.methodLink "AntLease" (114 : Nat) ({ cls := "AntLease$House", name := "known", desc := "()I" } : Jvm.MethodName)),
  (Jvm.Cond.methodLink "AntLease" (117 : Nat) ({ cls := "AntLease$Past", name := "size", desc := "()I" } : Jvm.MethodName)),
  (Jvm.Cond.fieldLink "AntLease" (43 : Nat) "AntLease" "said" "LAntLease$Said;"),
  (Jvm.Cond.methodLink "AntLease" (120 : Nat) ({ cls := "AntLease$Said", name := "size", desc := "()I" } : Jvm.MethodName)),
  (Jvm.Cond.methodLink "AntLease" (121 : Nat) ({ cls := "AntLease$Text", name := "length", desc := "()I" } : Jvm.MethodName)),
  (Jvm.Cond.code ({ cls := "AntLease", name := "about", desc := "(I)I" } : Jvm.MethodName) prog_1_method_6_code (2 : Nat) (Option.some Jvm.ClassFile.FieldType.int)),
  (Jvm.Cond.instanceMethod ({ cls := "AntLease", name := "about", desc := "(I)I" } : Jvm.MethodName)),
  (Jvm.Cond.selects "AntLease" ({ cls := "AntLease", name := "about", desc := "(I)I" } : Jvm.MethodName) ({ cls := "AntLease", name := "about", desc := "(I)I" } : Jvm.MethodName)),
  (Jvm.Cond.methodLink "AntLease" (124 : Nat) ({ cls := "AntLease$House", name := "hasFood", desc := "(I)Z" } : Jvm.MethodName)),
  (Jvm.Cond.methodLink "AntLease" (128 : Nat) ({ cls := "AntLease$House", name := "kind", desc := "(I)I" } : Jvm.MethodName)),
  (Jvm.Cond.methodLink "AntLease" (131 : Nat) ({ cls := "AntLease$House", name := "inLarder", desc := "(I)I" } : Jvm.MethodName)),
  (Jvm.Cond.methodLink "AntLease" (134 : Nat) ({ cls := "AntLease$House", name := "onFloor", desc := "(I)I" } : Jvm.MethodName)),
  (Jvm.Cond.methodLink "AntLease" (137 : Nat) ({ cls := "AntLease$House", name := "newlyPut", desc := "(I)I" } : Jvm.MethodName)),
  (Jvm.Cond.methodLink "AntLease" (140 : Nat) ({ cls := "AntLease$House", name := "worth", desc := "(I)I" } : Jvm.MethodName)),
  (Jvm.Cond.code ({ cls := "AntLease", name := "food", desc := "(II)I" } : Jvm.MethodName) prog_1_method_7_code (3 : Nat) (Option.some Jvm.ClassFile.FieldType.int)),
  (Jvm.Cond.instanceMethod ({ cls := "AntLease", name := "food", desc := "(II)I" } : Jvm.MethodName)),
  (Jvm.Cond.selects "AntLease" ({ cls := "AntLease", name := "food", desc := "(II)I" } : Jvm.MethodName) ({ cls := "AntLease", name := "food", desc := "(II)I" } : Jvm.MethodName)),
  (Jvm.Cond.methodLink "AntLease" (143 : Nat) ({ cls := "AntLease$House", name := "hasThing", desc := "(I)Z" } : Jvm.MethodName)),
  (Jvm.Cond.methodLink "AntLease" (146 : Nat) ({ cls := "AntLease$House", name := "placeOf", desc := "(I)I" } : Jvm.MethodName)),
  (Jvm.Cond.methodLink "AntLease" (149 : Nat) ({ cls := "AntLease", name := "has", desc := "(II)Z" } : Jvm.MethodName)),
  (Jvm.Cond.methodLink "AntLease" (153 : Nat) ({ cls := "AntLease$House", name := "astray", desc := "(I)I" } : Jvm.MethodName)),
  (Jvm.Cond.code ({ cls := "AntLease", name := "thing", desc := "(II)I" } : Jvm.MethodName) prog_1_method_8_code (3 : Nat) (Option.some Jvm.ClassFile.FieldType.int)),
  (Jvm.Cond.instanceMethod ({ cls := "AntLease", name := "thing", desc := "(II)I" } : Jvm.MethodName)),
  (Jvm.Cond.selects "AntLease" ({ cls := "AntLease", name := "thing", desc := "(II)I" } : Jvm.MethodName) ({ cls := "AntLease", name := "thing", desc := "(II)I" } : Jvm.MethodName)),
  (Jvm.Cond.methodLink "AntLease" (156 : Nat) ({ cls := "AntLease$Past", name := "note", desc := "(LAntLease$House;)V" } : Jvm.MethodName)),
  (Jvm.Cond.methodLink "AntLease" (160 : Nat) ({ cls := "AntLease$House", name := "endQuarter", desc := "()I" } : Jvm.MethodName)),
  (Jvm.Cond.methodLink "AntLease" (163 : Nat) ({ cls := "AntLease$Past", name := "settle", desc := "(I)I" } : Jvm.MethodName)),
  (Jvm.Cond.code ({ cls := "AntLease", name := "quarter", desc := "()I" } : Jvm.MethodName) prog_1_method_9_code (1 : Nat) (Option.some Jvm.ClassFile.FieldType.int))]
theorem tb9_in_9 : ∀ w ∈ tb9_9, w ∈ lw_tbl := by
  intro w hw
  have hp : tb9_9 = [245, 198, 196, 197, 250, 254, 258, 262, 266, 274, 290, 294, 310, 319, 139, 323, 327, 249, 247, 248, 332, 336, 340, 344, 348, 349, 331, 329, 330, 354, 358, 359, 360, 353, 351, 352, 368, 383, 398, 367].filterMap (fun i => lw_tbl[i]?) := by decide +kernel
  rw [hp] at hw
  obtain ⟨i, -, hi⟩ := List.mem_filterMap.mp hw
  exact List.mem_of_getElem? hi
theorem tb9_good_9 : ∀ w ∈ tb9_9, goodWord w = true := List.all_eq_true.mp (by decide +kernel)
def tb9_10 : List Cond := [(Jvm.Cond.instanceMethod ({ cls := "AntLease", name := "quarter", desc := "()I" } : Jvm.MethodName)),
  (Jvm.Cond.selects "AntLease" ({ cls := "AntLease", name := "quarter", desc := "()I" } : Jvm.MethodName) ({ cls := "AntLease", name := "quarter", desc := "()I" } : Jvm.MethodName)),
  (Jvm.Cond.methodLink "AntLease" (166 : Nat) ({ cls := "AntLease$House", name := "putUp", desc := "(II)I" } : Jvm.MethodName)),
  (Jvm.Cond.code ({ cls := "AntLease", name := "put", desc := "(II)I" } : Jvm.MethodName) prog_1_method_10_code (3 : Nat) (Option.some Jvm.ClassFile.FieldType.int)),
  (Jvm.Cond.instanceMethod ({ cls := "AntLease", name := "put", desc := "(II)I" } : Jvm.MethodName)),
  (Jvm.Cond.selects "AntLease" ({ cls := "AntLease", name := "put", desc := "(II)I" } : Jvm.MethodName) ({ cls := "AntLease", name := "put", desc := "(II)I" } : Jvm.MethodName)),
  (Jvm.Cond.methodLink "AntLease" (170 : Nat) ({ cls := "AntLease$House", name := "eatUp", desc := "(II)I" } : Jvm.MethodName)),
  (Jvm.Cond.code ({ cls := "AntLease", name := "eat", desc := "(II)I" } : Jvm.MethodName) prog_1_method_11_code (3 : Nat) (Option.some Jvm.ClassFile.FieldType.int)),
  (Jvm.Cond.instanceMethod ({ cls := "AntLease", name := "eat", desc := "(II)I" } : Jvm.MethodName)),
  (Jvm.Cond.selects "AntLease" ({ cls := "AntLease", name := "eat", desc := "(II)I" } : Jvm.MethodName) ({ cls := "AntLease", name := "eat", desc := "(II)I" } : Jvm.MethodName)),
  (Jvm.Cond.methodLink "AntLease" (173 : Nat) ({ cls := "AntLease$House", name := "leaveOut", desc := "(II)I" } : Jvm.MethodName)),
  (Jvm.Cond.code ({ cls := "AntLease", name := "leave", desc := "(II)I" } : Jvm.MethodName) prog_1_method_12_code (3 : Nat) (Option.some Jvm.ClassFile.FieldType.int)),
  (Jvm.Cond.instanceMethod ({ cls := "AntLease", name := "leave", desc := "(II)I" } : Jvm.MethodName)),
  (Jvm.Cond.selects "AntLease" ({ cls := "AntLease", name := "leave", desc := "(II)I" } : Jvm.MethodName) ({ cls := "AntLease", name := "leave", desc := "(II)I" } : Jvm.MethodName)),
  (Jvm.Cond.methodLink "AntLease" (176 : Nat) ({ cls := "AntLease$House", name := "carry", desc := "(II)I" } : Jvm.MethodName)),
  (Jvm.Cond.code ({ cls := "AntLease", name := "move", desc := "(II)I" } : Jvm.MethodName) prog_1_method_13_code (3 : Nat) (Option.some Jvm.ClassFile.FieldType.int)),
  (Jvm.Cond.instanceMethod ({ cls := "AntLease", name := "move", desc := "(II)I" } : Jvm.MethodName)),
  (Jvm.Cond.selects "AntLease" ({ cls := "AntLease", name := "move", desc := "(II)I" } : Jvm.MethodName) ({ cls := "AntLease", name := "move", desc := "(II)I" } : Jvm.MethodName)),
  (Jvm.Cond.methodLink "AntLease" (179 : Nat) ({ cls := "AntLease$House", name := "strew", desc := "(I)I" } : Jvm.MethodName)),
  (Jvm.Cond.code ({ cls := "AntLease", name := "sprinkle", desc := "(I)I" } : Jvm.MethodName) prog_1_method_14_code (2 : Nat) (Option.some Jvm.ClassFile.FieldType.int)),
  (Jvm.Cond.instanceMethod ({ cls := "AntLease", name := "sprinkle", desc := "(I)I" } : Jvm.MethodName)),
  (Jvm.Cond.selects "AntLease" ({ cls := "AntLease", name := "sprinkle", desc := "(I)I" } : Jvm.MethodName) ({ cls := "AntLease", name := "sprinkle", desc := "(I)I" } : Jvm.MethodName)),
  (Jvm.Cond.methodLink "AntLease" (182 : Nat) ({ cls := "AntLease$Past", name := "takeBack", desc := "(LAntLease$House;)I" } : Jvm.MethodName)),
  (Jvm.Cond.code ({ cls := "AntLease", name := "undo", desc := "()I" } : Jvm.MethodName) prog_1_method_15_code (1 : Nat) (Option.some Jvm.ClassFile.FieldType.int)),
  (Jvm.Cond.instanceMethod ({ cls := "AntLease", name := "undo", desc := "()I" } : Jvm.MethodName)),
  (Jvm.Cond.selects "AntLease" ({ cls := "AntLease", name := "undo", desc := "()I" } : Jvm.MethodName) ({ cls := "AntLease", name := "undo", desc := "()I" } : Jvm.MethodName)),
  (Jvm.Cond.fieldLink "AntLease" (23 : Nat) "AntLease" "trial" "LAntLease$House;"),
  (Jvm.Cond.methodLink "AntLease" (186 : Nat) ({ cls := "AntLease$House", name := "copyOf", desc := "(LAntLease$House;)V" } : Jvm.MethodName)),
  (Jvm.Cond.code ({ cls := "AntLease", name := "later", desc := "(II)I" } : Jvm.MethodName) prog_1_method_16_code (4 : Nat) (Option.some Jvm.ClassFile.FieldType.int)),
  (Jvm.Cond.instanceMethod ({ cls := "AntLease", name := "later", desc := "(II)I" } : Jvm.MethodName)),
  (Jvm.Cond.selects "AntLease" ({ cls := "AntLease", name := "later", desc := "(II)I" } : Jvm.MethodName) ({ cls := "AntLease", name := "later", desc := "(II)I" } : Jvm.MethodName)),
  (Jvm.Cond.fieldLink "AntLease" (50 : Nat) "AntLease" "fewest" "LAntLease$Least;"),
  (Jvm.Cond.methodLink "AntLease" (189 : Nat) ({ cls := "AntLease$Least", name := "find", desc := "(LAntLease$House;)V" } : Jvm.MethodName)),
  (Jvm.Cond.methodLink "AntLease" (192 : Nat) ({ cls := "AntLease$Least", name := "grains", desc := "()I" } : Jvm.MethodName)),
  (Jvm.Cond.methodLink "AntLease" (195 : Nat) ({ cls := "AntLease$Least", name := "figures", desc := "()I" } : Jvm.MethodName)),
  (Jvm.Cond.code ({ cls := "AntLease", name := "least", desc := "(I)I" } : Jvm.MethodName) prog_1_method_17_code (2 : Nat) (Option.some Jvm.ClassFile.FieldType.int)),
  (Jvm.Cond.instanceMethod ({ cls := "AntLease", name := "least", desc := "(I)I" } : Jvm.MethodName)),
  (Jvm.Cond.selects "AntLease" ({ cls := "AntLease", name := "least", desc := "(I)I" } : Jvm.MethodName) ({ cls := "AntLease", name := "least", desc := "(I)I" } : Jvm.MethodName)),
  (Jvm.Cond.fieldLink "AntLease" (54 : Nat) "AntLease" "doings" "[I"),
  (Jvm.Cond.constantLong "AntLease" (198 : Nat) (1000 : Int64))]
theorem tb9_in_10 : ∀ w ∈ tb9_10, w ∈ lw_tbl := by
  intro w hw
  have hp : tb9_10 = [365, 366, 406, 405, 403, 404, 420, 419, 417, 418, 428, 427, 425, 426, 442, 441, 439, 440, 455, 454, 452, 453, 463, 462, 460, 461, 136, 475, 474, 472, 473, 140, 483, 496, 500, 482, 480, 481, 141, 508].filterMap (fun i => lw_tbl[i]?) := by decide +kernel
  rw [hp] at hw
  obtain ⟨i, -, hi⟩ := List.mem_filterMap.mp hw
  exact List.mem_of_getElem? hi
theorem tb9_good_10 : ∀ w ∈ tb9_10, goodWord w = true := List.all_eq_true.mp (by decide +kernel)
def tb9_11 : List Cond := [(Jvm.Cond.methodLink "AntLease" (200 : Nat) ({ cls := "AntLease", name := "canBe", desc := "(LAntLease$House;I)Z" } : Jvm.MethodName)),
  (Jvm.Cond.code ({ cls := "AntLease", name := "judge", desc := "(IJ)I" } : Jvm.MethodName) prog_1_method_18_code (7 : Nat) (Option.some Jvm.ClassFile.FieldType.int)),
  (Jvm.Cond.instanceMethod ({ cls := "AntLease", name := "judge", desc := "(IJ)I" } : Jvm.MethodName)),
  (Jvm.Cond.selects "AntLease" ({ cls := "AntLease", name := "judge", desc := "(IJ)I" } : Jvm.MethodName) ({ cls := "AntLease", name := "judge", desc := "(IJ)I" } : Jvm.MethodName)),
  (Jvm.Cond.methodLink "AntLease" (204 : Nat) ({ cls := "java/lang/Integer", name := "bitCount", desc := "(I)I" } : Jvm.MethodName)),
  (Jvm.Cond.methodLink "AntLease" (209 : Nat) ({ cls := "AntLease", name := "factorial", desc := "(I)I" } : Jvm.MethodName)),
  (Jvm.Cond.methodLink "AntLease" (212 : Nat) ({ cls := "AntLease", name := "worthOfThose", desc := "(I)I" } : Jvm.MethodName)),
  (Jvm.Cond.methodLink "AntLease" (215 : Nat) ({ cls := "java/lang/Math", name := "min", desc := "(II)I" } : Jvm.MethodName)),
  (Jvm.Cond.methodLink "AntLease" (220 : Nat) ({ cls := "AntLease", name := "told", desc := "(IIZ)I" } : Jvm.MethodName)),
  (Jvm.Cond.code ({ cls := "AntLease", name := "share", desc := "(IZ)I" } : Jvm.MethodName) prog_1_method_19_code (10 : Nat) (Option.some Jvm.ClassFile.FieldType.int)),
  (Jvm.Cond.instanceMethod ({ cls := "AntLease", name := "share", desc := "(IZ)I" } : Jvm.MethodName)),
  (Jvm.Cond.selects "AntLease" ({ cls := "AntLease", name := "share", desc := "(IZ)I" } : Jvm.MethodName) ({ cls := "AntLease", name := "share", desc := "(IZ)I" } : Jvm.MethodName)),
  (Jvm.Cond.methodLink "AntLease" (224 : Nat) ({ cls := "AntLease$Said", name := "add", desc := "(II)I" } : Jvm.MethodName)),
  (Jvm.Cond.code ({ cls := "AntLease", name := "say", desc := "(II)I" } : Jvm.MethodName) prog_1_method_20_code (3 : Nat) (Option.some Jvm.ClassFile.FieldType.int)),
  (Jvm.Cond.instanceMethod ({ cls := "AntLease", name := "say", desc := "(II)I" } : Jvm.MethodName)),
  (Jvm.Cond.selects "AntLease" ({ cls := "AntLease", name := "say", desc := "(II)I" } : Jvm.MethodName) ({ cls := "AntLease", name := "say", desc := "(II)I" } : Jvm.MethodName)),
  (Jvm.Cond.methodLink "AntLease" (226 : Nat) ({ cls := "AntLease$Said", name := "forget", desc := "()I" } : Jvm.MethodName)),
  (Jvm.Cond.code ({ cls := "AntLease", name := "unsay", desc := "()I" } : Jvm.MethodName) prog_1_method_21_code (1 : Nat) (Option.some Jvm.ClassFile.FieldType.int)),
  (Jvm.Cond.instanceMethod ({ cls := "AntLease", name := "unsay", desc := "()I" } : Jvm.MethodName)),
  (Jvm.Cond.selects "AntLease" ({ cls := "AntLease", name := "unsay", desc := "()I" } : Jvm.MethodName) ({ cls := "AntLease", name := "unsay", desc := "()I" } : Jvm.MethodName)),
  (Jvm.Cond.methodLink "AntLease" (228 : Nat) ({ cls := "AntLease$Said", name := "howManyLines", desc := "(I)I" } : Jvm.MethodName)),
  (Jvm.Cond.methodLink "AntLease" (231 : Nat) ({ cls := "AntLease$Said", name := "firstLine", desc := "(I)I" } : Jvm.MethodName)),
  (Jvm.Cond.code ({ cls := "AntLease", name := "lines", desc := "(I)I" } : Jvm.MethodName) prog_1_method_22_code (2 : Nat) (Option.some Jvm.ClassFile.FieldType.int)),
  (Jvm.Cond.instanceMethod ({ cls := "AntLease", name := "lines", desc := "(I)I" } : Jvm.MethodName)),
  (Jvm.Cond.selects "AntLease" ({ cls := "AntLease", name := "lines", desc := "(I)I" } : Jvm.MethodName) ({ cls := "AntLease", name := "lines", desc := "(I)I" } : Jvm.MethodName)),
  (Jvm.Cond.methodLink "AntLease" (234 : Nat) ({ cls := "AntLease", name := "pairsThatKeep", desc := "(II)I" } : Jvm.MethodName)),
  (Jvm.Cond.methodLink "AntLease" (237 : Nat) ({ cls := "AntLease$Rests", name := "howMany", desc := "(I)I" } : Jvm.MethodName)),
  (Jvm.Cond.methodLink "AntLease" (242 : Nat) ({ cls := "AntLease$Rests", name := "first", desc := "(I)I" } : Jvm.MethodName)),
  (Jvm.Cond.code ({ cls := "AntLease", name := "rests", desc := "(III)I" } : Jvm.MethodName) prog_1_method_23_code (5 : Nat) (Option.some Jvm.ClassFile.FieldType.int)),
  (Jvm.Cond.instanceMethod ({ cls := "AntLease", name := "rests", desc := "(III)I" } : Jvm.MethodName)),
  (Jvm.Cond.selects "AntLease" ({ cls := "AntLease", name := "rests", desc := "(III)I" } : Jvm.MethodName) ({ cls := "AntLease", name := "rests", desc := "(III)I" } : Jvm.MethodName)),
  (Jvm.Cond.methodLink "AntLease" (245 : Nat) ({ cls := "AntLease", name := "weighKnown", desc := "(I)V" } : Jvm.MethodName)),
  (Jvm.Cond.fieldLink "AntLease" (58 : Nat) "AntLease" "chances" "[I"),
  (Jvm.Cond.code ({ cls := "AntLease", name := "stray", desc := "(IIZ)I" } : Jvm.MethodName) prog_1_method_24_code (7 : Nat) (Option.some Jvm.ClassFile.FieldType.int)),
  (Jvm.Cond.instanceMethod ({ cls := "AntLease", name := "stray", desc := "(IIZ)I" } : Jvm.MethodName)),
  (Jvm.Cond.selects "AntLease" ({ cls := "AntLease", name := "stray", desc := "(IIZ)I" } : Jvm.MethodName) ({ cls := "AntLease", name := "stray", desc := "(IIZ)I" } : Jvm.MethodName)),
  (Jvm.Cond.fieldLink "AntLease" (61 : Nat) "AntLease" "theSeed" "J"),
  (Jvm.Cond.code ({ cls := "AntLease", name := "seed", desc := "(J)J" } : Jvm.MethodName) prog_1_method_25_code (5 : Nat) (Option.some Jvm.ClassFile.FieldType.long)),
  (Jvm.Cond.instanceMethod ({ cls := "AntLease", name := "seed", desc := "(J)J" } : Jvm.MethodName)),
  (Jvm.Cond.selects "AntLease" ({ cls := "AntLease", name := "seed", desc := "(J)J" } : Jvm.MethodName) ({ cls := "AntLease", name := "seed", desc := "(J)J" } : Jvm.MethodName))]
theorem tb9_in_11 : ∀ w ∈ tb9_11, w ∈ lw_tbl := by
  intro w hw
  have hp : tb9_11 = [509, 507, 505, 506, 516, 517, 520, 524, 525, 515, 513, 514, 532, 531, 529, 530, 541, 540, 538, 539, 549, 558, 548, 546, 547, 566, 573, 583, 565, 563, 564, 590, 142, 589, 587, 588, 143, 597, 595, 596].filterMap (fun i => lw_tbl[i]?) := by decide +kernel
  rw [hp] at hw
  obtain ⟨i, -, hi⟩ := List.mem_filterMap.mp hw
  exact List.mem_of_getElem? hi
theorem tb9_good_11 : ∀ w ∈ tb9_11, goodWord w = true := List.all_eq_true.mp (by decide +kernel)
def tb9_12 : List Cond := [(Jvm.Cond.constantLong "AntLease" (249 : Nat) (6364136223846793005 : Int64)),
  (Jvm.Cond.constantLong "AntLease" (251 : Nat) (1442695040888963407 : Int64)),
  (Jvm.Cond.methodLink "AntLease" (253 : Nat) ({ cls := "AntLease", name := "doByChance", desc := "(LAntLease$House;I)V" } : Jvm.MethodName)),
  (Jvm.Cond.code ({ cls := "AntLease", name := "years", desc := "(I)I" } : Jvm.MethodName) prog_1_method_26_code (4 : Nat) (Option.some Jvm.ClassFile.FieldType.int)),
  (Jvm.Cond.instanceMethod ({ cls := "AntLease", name := "years", desc := "(I)I" } : Jvm.MethodName)),
  (Jvm.Cond.selects "AntLease" ({ cls := "AntLease", name := "years", desc := "(I)I" } : Jvm.MethodName) ({ cls := "AntLease", name := "years", desc := "(I)I" } : Jvm.MethodName)),
  (Jvm.Cond.methodLink "AntLease" (257 : Nat) ({ cls := "AntLease$Slots", name := "take", desc := "(ILAntLease$House;)I" } : Jvm.MethodName)),
  (Jvm.Cond.code ({ cls := "AntLease", name := "keep", desc := "(I)I" } : Jvm.MethodName) prog_1_method_27_code (2 : Nat) (Option.some Jvm.ClassFile.FieldType.int)),
  (Jvm.Cond.instanceMethod ({ cls := "AntLease", name := "keep", desc := "(I)I" } : Jvm.MethodName)),
  (Jvm.Cond.selects "AntLease" ({ cls := "AntLease", name := "keep", desc := "(I)I" } : Jvm.MethodName) ({ cls := "AntLease", name := "keep", desc := "(I)I" } : Jvm.MethodName)),
  (Jvm.Cond.methodLink "AntLease" (261 : Nat) ({ cls := "AntLease$Slots", name := "giveBack", desc := "(ILAntLease$House;)I" } : Jvm.MethodName)),
  (Jvm.Cond.code ({ cls := "AntLease", name := "again", desc := "(I)I" } : Jvm.MethodName) prog_1_method_28_code (3 : Nat) (Option.some Jvm.ClassFile.FieldType.int)),
  (Jvm.Cond.instanceMethod ({ cls := "AntLease", name := "again", desc := "(I)I" } : Jvm.MethodName)),
  (Jvm.Cond.selects "AntLease" ({ cls := "AntLease", name := "again", desc := "(I)I" } : Jvm.MethodName) ({ cls := "AntLease", name := "again", desc := "(I)I" } : Jvm.MethodName)),
  (Jvm.Cond.code ({ cls := "AntLease", name := "canBe", desc := "(LAntLease$House;I)Z" } : Jvm.MethodName) prog_1_method_29_code (4 : Nat) (Option.some Jvm.ClassFile.FieldType.boolean)),
  (Jvm.Cond.static ({ cls := "AntLease", name := "canBe", desc := "(LAntLease$House;I)Z" } : Jvm.MethodName)),
  (Jvm.Cond.code ({ cls := "AntLease", name := "doByChance", desc := "(LAntLease$House;I)V" } : Jvm.MethodName) prog_1_method_30_code (2 : Nat) (Option.none : Option Jvm.ClassFile.FieldType)),
  (Jvm.Cond.static ({ cls := "AntLease", name := "doByChance", desc := "(LAntLease$House;I)V" } : Jvm.MethodName)),
  (Jvm.Cond.code ({ cls := "AntLease", name := "worthOfThose", desc := "(I)I" } : Jvm.MethodName) prog_1_method_31_code (4 : Nat) (Option.some Jvm.ClassFile.FieldType.int)),
  (Jvm.Cond.instanceMethod ({ cls := "AntLease", name := "worthOfThose", desc := "(I)I" } : Jvm.MethodName)),
  (Jvm.Cond.selects "AntLease" ({ cls := "AntLease", name := "worthOfThose", desc := "(I)I" } : Jvm.MethodName) ({ cls := "AntLease", name := "worthOfThose", desc := "(I)I" } : Jvm.MethodName)),
  (Jvm.Cond.methodLink "AntLease" (264 : Nat) ({ cls := "AntLease$Rests", name := "bit", desc := "(II)I" } : Jvm.MethodName)),
  (Jvm.Cond.code ({ cls := "AntLease", name := "pairsThatKeep", desc := "(II)I" } : Jvm.MethodName) prog_1_method_32_code (6 : Nat) (Option.some Jvm.ClassFile.FieldType.int)),
  (Jvm.Cond.instanceMethod ({ cls := "AntLease", name := "pairsThatKeep", desc := "(II)I" } : Jvm.MethodName)),
  (Jvm.Cond.selects "AntLease" ({ cls := "AntLease", name := "pairsThatKeep", desc := "(II)I" } : Jvm.MethodName) ({ cls := "AntLease", name := "pairsThatKeep", desc := "(II)I" } : Jvm.MethodName)),
  (Jvm.Cond.code ({ cls := "AntLease", name := "weighKnown", desc := "(I)V" } : Jvm.MethodName) prog_1_method_33_code (8 : Nat) (Option.none : Option Jvm.ClassFile.FieldType)),
  (Jvm.Cond.instanceMethod ({ cls := "AntLease", name := "weighKnown", desc := "(I)V" } : Jvm.MethodName)),
  (Jvm.Cond.selects "AntLease" ({ cls := "AntLease", name := "weighKnown", desc := "(I)V" } : Jvm.MethodName) ({ cls := "AntLease", name := "weighKnown", desc := "(I)V" } : Jvm.MethodName)),
  (Jvm.Cond.code ({ cls := "AntLease", name := "isPlace", desc := "(I)Z" } : Jvm.MethodName) prog_1_method_34_code (1 : Nat) (Option.some Jvm.ClassFile.FieldType.boolean)),
  (Jvm.Cond.static ({ cls := "AntLease", name := "isPlace", desc := "(I)Z" } : Jvm.MethodName)),
  (Jvm.Cond.methodLink "AntLease" (267 : Nat) ({ cls := "AntLease", name := "isPlace", desc := "(I)Z" } : Jvm.MethodName)),
  (Jvm.Cond.code ({ cls := "AntLease", name := "has", desc := "(II)Z" } : Jvm.MethodName) prog_1_method_35_code (2 : Nat) (Option.some Jvm.ClassFile.FieldType.boolean)),
  (Jvm.Cond.static ({ cls := "AntLease", name := "has", desc := "(II)Z" } : Jvm.MethodName)),
  (Jvm.Cond.code ({ cls := "AntLease", name := "factorial", desc := "(I)I" } : Jvm.MethodName) prog_1_method_36_code (3 : Nat) (Option.some Jvm.ClassFile.FieldType.int)),
  (Jvm.Cond.static ({ cls := "AntLease", name := "factorial", desc := "(I)I" } : Jvm.MethodName)),
  (Jvm.Cond.code ({ cls := "AntLease", name := "told", desc := "(IIZ)I" } : Jvm.MethodName) prog_1_method_37_code (7 : Nat) (Option.some Jvm.ClassFile.FieldType.int)),
  (Jvm.Cond.static ({ cls := "AntLease", name := "told", desc := "(IIZ)I" } : Jvm.MethodName)),
  (Jvm.Cond.code ({ cls := "AntLeaseModel", name := "in", desc := "(JJJ)Z" } : Jvm.MethodName) prog_10_method_3_code (6 : Nat) (Option.some Jvm.ClassFile.FieldType.boolean)),
  (Jvm.Cond.initialized "AntLeaseModel"),
  (Jvm.Cond.static ({ cls := "AntLeaseModel", name := "in", desc := "(JJJ)Z" } : Jvm.MethodName))]
theorem tb9_in_12 : ∀ w ∈ tb9_12, w ∈ lw_tbl := by
  intro w hw
  have hp : tb9_12 = [602, 603, 604, 601, 599, 600, 611, 610, 608, 609, 624, 623, 621, 622, 511, 510, 606, 605, 523, 522, 5, 570, 569, 568, 7, 593, 592, 8, 309, 308, 307, 306, 305, 519, 518, 527, 526, 740, 39, 739].filterMap (fun i => lw_tbl[i]?) := by decide +kernel
  rw [hp] at hw
  obtain ⟨i, -, hi⟩ := List.mem_filterMap.mp hw
  exact List.mem_of_getElem? hi
theorem tb9_good_12 : ∀ w ∈ tb9_12, goodWord w = true := List.all_eq_true.mp (by decide +kernel)
def tb9_13 : List Cond := [(Jvm.Cond.code ({ cls := "AntLeaseModel", name := "has", desc := "(II)Z" } : Jvm.MethodName) prog_10_method_4_code (2 : Nat) (Option.some Jvm.ClassFile.FieldType.boolean)),
  (Jvm.Cond.static ({ cls := "AntLeaseModel", name := "has", desc := "(II)Z" } : Jvm.MethodName)),
  (Jvm.Cond.code ({ cls := "AntLeaseModel", name := "many", desc := "(I)I" } : Jvm.MethodName) prog_10_method_5_code (3 : Nat) (Option.some Jvm.ClassFile.FieldType.int)),
  (Jvm.Cond.static ({ cls := "AntLeaseModel", name := "many", desc := "(I)I" } : Jvm.MethodName)),
  (Jvm.Cond.code ({ cls := "AntLeaseModel", name := "power", desc := "(II)I" } : Jvm.MethodName) prog_10_method_6_code (4 : Nat) (Option.some Jvm.ClassFile.FieldType.int)),
  (Jvm.Cond.static ({ cls := "AntLeaseModel", name := "power", desc := "(II)I" } : Jvm.MethodName)),
  (Jvm.Cond.code ({ cls := "AntLeaseModel", name := "apart", desc := "(II)I" } : Jvm.MethodName) prog_10_method_7_code (2 : Nat) (Option.some Jvm.ClassFile.FieldType.int)),
  (Jvm.Cond.static ({ cls := "AntLeaseModel", name := "apart", desc := "(II)I" } : Jvm.MethodName)),
  (Jvm.Cond.fieldLink "AntLeaseModel" (54 : Nat) "AntLeaseModel" "foods" "I"),
  (Jvm.Cond.methodLink "AntLeaseModel" (57 : Nat) ({ cls := "AntLeaseModel", name := "in", desc := "(JJJ)Z" } : Jvm.MethodName)),
  (Jvm.Cond.code ({ cls := "AntLeaseModel", name := "noFood", desc := "(I)Z" } : Jvm.MethodName) prog_10_method_8_code (2 : Nat) (Option.some Jvm.ClassFile.FieldType.boolean)),
  (Jvm.Cond.instanceMethod ({ cls := "AntLeaseModel", name := "noFood", desc := "(I)Z" } : Jvm.MethodName)),
  (Jvm.Cond.selects "AntLeaseModel" ({ cls := "AntLeaseModel", name := "noFood", desc := "(I)Z" } : Jvm.MethodName) ({ cls := "AntLeaseModel", name := "noFood", desc := "(I)Z" } : Jvm.MethodName)),
  (Jvm.Cond.fieldLink "AntLeaseModel" (61 : Nat) "AntLeaseModel" "things" "I"),
  (Jvm.Cond.code ({ cls := "AntLeaseModel", name := "noThing", desc := "(I)Z" } : Jvm.MethodName) prog_10_method_9_code (2 : Nat) (Option.some Jvm.ClassFile.FieldType.boolean)),
  (Jvm.Cond.instanceMethod ({ cls := "AntLeaseModel", name := "noThing", desc := "(I)Z" } : Jvm.MethodName)),
  (Jvm.Cond.selects "AntLeaseModel" ({ cls := "AntLeaseModel", name := "noThing", desc := "(I)Z" } : Jvm.MethodName) ({ cls := "AntLeaseModel", name := "noThing", desc := "(I)Z" } : Jvm.MethodName)),
  (Jvm.Cond.constantLong "AntLeaseModel" (64 : Nat) (9 : Int64)),
  (Jvm.Cond.code ({ cls := "AntLeaseModel", name := "noPlace", desc := "(I)Z" } : Jvm.MethodName) prog_10_method_10_code (1 : Nat) (Option.some Jvm.ClassFile.FieldType.boolean)),
  (Jvm.Cond.static ({ cls := "AntLeaseModel", name := "noPlace", desc := "(I)Z" } : Jvm.MethodName)),
  (Jvm.Cond.fieldLink "AntLeaseModel" (50 : Nat) "AntLeaseModel" "thrown" "I"),
  (Jvm.Cond.constantLong "AntLeaseModel" (66 : Nat) (255 : Int64)),
  (Jvm.Cond.fieldLink "AntLeaseModel" (68 : Nat) "AntLeaseModel" "textSize" "I"),
  (Jvm.Cond.fieldLink "AntLeaseModel" (7 : Nat) "AntLeaseModel" "text" "[I"),
  (Jvm.Cond.code ({ cls := "AntLeaseModel", name := "write", desc := "(I)I" } : Jvm.MethodName) prog_10_method_11_code (2 : Nat) (Option.some Jvm.ClassFile.FieldType.int)),
  (Jvm.Cond.instanceMethod ({ cls := "AntLeaseModel", name := "write", desc := "(I)I" } : Jvm.MethodName)),
  (Jvm.Cond.selects "AntLeaseModel" ({ cls := "AntLeaseModel", name := "write", desc := "(I)I" } : Jvm.MethodName) ({ cls := "AntLeaseModel", name := "write", desc := "(I)I" } : Jvm.MethodName)),
  (Jvm.Cond.code ({ cls := "AntLeaseModel", name := "wipe", desc := "()I" } : Jvm.MethodName) prog_10_method_12_code (2 : Nat) (Option.some Jvm.ClassFile.FieldType.int)),
  (Jvm.Cond.instanceMethod ({ cls := "AntLeaseModel", name := "wipe", desc := "()I" } : Jvm.MethodName)),
  (Jvm.Cond.selects "AntLeaseModel" ({ cls := "AntLeaseModel", name := "wipe", desc := "()I" } : Jvm.MethodName) ({ cls := "AntLeaseModel", name := "wipe", desc := "()I" } : Jvm.MethodName)),
  (Jvm.Cond.fieldLink "AntLeaseModel" (71 : Nat) "AntLeaseModel" "place" "I"),
  (Jvm.Cond.code ({ cls := "AntLeaseModel", name := "figure", desc := "(I)I" } : Jvm.MethodName) prog_10_method_13_code (2 : Nat) (Option.some Jvm.ClassFile.FieldType.int)),
  (Jvm.Cond.instanceMethod ({ cls := "AntLeaseModel", name := "figure", desc := "(I)I" } : Jvm.MethodName)),
  (Jvm.Cond.selects "AntLeaseModel" ({ cls := "AntLeaseModel", name := "figure", desc := "(I)I" } : Jvm.MethodName) ({ cls := "AntLeaseModel", name := "figure", desc := "(I)I" } : Jvm.MethodName)),
  (Jvm.Cond.methodLink "AntLeaseModel" (74 : Nat) ({ cls := "AntLeaseModel", name := "figure", desc := "(I)I" } : Jvm.MethodName)),
  (Jvm.Cond.fieldLink "AntLeaseModel" (16 : Nat) "AntLeaseModel" "readFood" "[I"),
  (Jvm.Cond.fieldLink "AntLeaseModel" (78 : Nat) "AntLeaseModel" "readFoods" "I"),
  (Jvm.Cond.code ({ cls := "AntLeaseModel", name := "readOneFood", desc := "()Z" } : Jvm.MethodName) prog_10_method_14_code (3 : Nat) (Option.some Jvm.ClassFile.FieldType.boolean)),
  (Jvm.Cond.instanceMethod ({ cls := "AntLeaseModel", name := "readOneFood", desc := "()Z" } : Jvm.MethodName)),
  (Jvm.Cond.selects "AntLeaseModel" ({ cls := "AntLeaseModel", name := "readOneFood", desc := "()Z" } : Jvm.MethodName) ({ cls := "AntLeaseModel", name := "readOneFood", desc := "()Z" } : Jvm.MethodName))]
theorem tb9_in_13 : ∀ w ∈ tb9_13, w ∈ lw_tbl := by
  intro w hw
  have hp : tb9_13 = [790, 789, 843, 842, 899, 898, 828, 827, 640, 738, 813, 812, 19, 642, 821, 820, 20, 848, 874, 873, 635, 737, 637, 636, 736, 734, 735, 744, 742, 743, 638, 756, 755, 10, 753, 646, 645, 764, 763, 12].filterMap (fun i => lw_tbl[i]?) := by decide +kernel
  rw [hp] at hw
  obtain ⟨i, -, hi⟩ := List.mem_filterMap.mp hw
  exact List.mem_of_getElem? hi
theorem tb9_good_13 : ∀ w ∈ tb9_13, goodWord w = true := List.all_eq_true.mp (by decide +kernel)
def tb9_14 : List Cond := [(Jvm.Cond.fieldLink "AntLeaseModel" (19 : Nat) "AntLeaseModel" "readAt" "[I"),
  (Jvm.Cond.fieldLink "AntLeaseModel" (81 : Nat) "AntLeaseModel" "readThings" "I"),
  (Jvm.Cond.code ({ cls := "AntLeaseModel", name := "readOneThing", desc := "()Z" } : Jvm.MethodName) prog_10_method_15_code (2 : Nat) (Option.some Jvm.ClassFile.FieldType.boolean)),
  (Jvm.Cond.instanceMethod ({ cls := "AntLeaseModel", name := "readOneThing", desc := "()Z" } : Jvm.MethodName)),
  (Jvm.Cond.selects "AntLeaseModel" ({ cls := "AntLeaseModel", name := "readOneThing", desc := "()Z" } : Jvm.MethodName) ({ cls := "AntLeaseModel", name := "readOneThing", desc := "()Z" } : Jvm.MethodName)),
  (Jvm.Cond.methodLink "AntLeaseModel" (84 : Nat) ({ cls := "AntLeaseModel", name := "readOneFood", desc := "()Z" } : Jvm.MethodName)),
  (Jvm.Cond.methodLink "AntLeaseModel" (88 : Nat) ({ cls := "AntLeaseModel", name := "readOneThing", desc := "()Z" } : Jvm.MethodName)),
  (Jvm.Cond.code ({ cls := "AntLeaseModel", name := "readPart", desc := "()Z" } : Jvm.MethodName) prog_10_method_16_code (2 : Nat) (Option.some Jvm.ClassFile.FieldType.boolean)),
  (Jvm.Cond.instanceMethod ({ cls := "AntLeaseModel", name := "readPart", desc := "()Z" } : Jvm.MethodName)),
  (Jvm.Cond.selects "AntLeaseModel" ({ cls := "AntLeaseModel", name := "readPart", desc := "()Z" } : Jvm.MethodName) ({ cls := "AntLeaseModel", name := "readPart", desc := "()Z" } : Jvm.MethodName)),
  (Jvm.Cond.fieldLink "AntLeaseModel" (91 : Nat) "AntLeaseModel" "readSkirting" "I"),
  (Jvm.Cond.fieldLink "AntLeaseModel" (94 : Nat) "AntLeaseModel" "readWill" "I"),
  (Jvm.Cond.methodLink "AntLeaseModel" (97 : Nat) ({ cls := "AntLeaseModel", name := "readPart", desc := "()Z" } : Jvm.MethodName)),
  (Jvm.Cond.code ({ cls := "AntLeaseModel", name := "readManor", desc := "()I" } : Jvm.MethodName) prog_10_method_17_code (1 : Nat) (Option.some Jvm.ClassFile.FieldType.int)),
  (Jvm.Cond.instanceMethod ({ cls := "AntLeaseModel", name := "readManor", desc := "()I" } : Jvm.MethodName)),
  (Jvm.Cond.selects "AntLeaseModel" ({ cls := "AntLeaseModel", name := "readManor", desc := "()I" } : Jvm.MethodName) ({ cls := "AntLeaseModel", name := "readManor", desc := "()I" } : Jvm.MethodName)),
  (Jvm.Cond.methodLink "AntLeaseModel" (100 : Nat) ({ cls := "AntLeaseModel", name := "readManor", desc := "()I" } : Jvm.MethodName)),
  (Jvm.Cond.code ({ cls := "AntLeaseModel", name := "fault", desc := "()I" } : Jvm.MethodName) prog_10_method_18_code (1 : Nat) (Option.some Jvm.ClassFile.FieldType.int)),
  (Jvm.Cond.instanceMethod ({ cls := "AntLeaseModel", name := "fault", desc := "()I" } : Jvm.MethodName)),
  (Jvm.Cond.selects "AntLeaseModel" ({ cls := "AntLeaseModel", name := "fault", desc := "()I" } : Jvm.MethodName) ({ cls := "AntLeaseModel", name := "fault", desc := "()I" } : Jvm.MethodName)),
  (Jvm.Cond.fieldLink "AntLeaseModel" (104 : Nat) "AntLeaseModel" "skirting" "I"),
  (Jvm.Cond.fieldLink "AntLeaseModel" (22 : Nat) "AntLeaseModel" "page" "[I"),
  (Jvm.Cond.fieldLink "AntLeaseModel" (13 : Nat) "AntLeaseModel" "kind" "[I"),
  (Jvm.Cond.fieldLink "AntLeaseModel" (107 : Nat) "AntLeaseModel" "acts" "I"),
  (Jvm.Cond.fieldLink "AntLeaseModel" (34 : Nat) "AntLeaseModel" "isKept" "[Z"),
  (Jvm.Cond.code ({ cls := "AntLeaseModel", name := "manor", desc := "()I" } : Jvm.MethodName) prog_10_method_19_code (2 : Nat) (Option.some Jvm.ClassFile.FieldType.int)),
  (Jvm.Cond.instanceMethod ({ cls := "AntLeaseModel", name := "manor", desc := "()I" } : Jvm.MethodName)),
  (Jvm.Cond.selects "AntLeaseModel" ({ cls := "AntLeaseModel", name := "manor", desc := "()I" } : Jvm.MethodName) ({ cls := "AntLeaseModel", name := "manor", desc := "()I" } : Jvm.MethodName)),
  (Jvm.Cond.code ({ cls := "AntLeaseModel", name := "worth", desc := "([II)I" } : Jvm.MethodName) prog_10_method_20_code (4 : Nat) (Option.some Jvm.ClassFile.FieldType.int)),
  (Jvm.Cond.instanceMethod ({ cls := "AntLeaseModel", name := "worth", desc := "([II)I" } : Jvm.MethodName)),
  (Jvm.Cond.selects "AntLeaseModel" ({ cls := "AntLeaseModel", name := "worth", desc := "([II)I" } : Jvm.MethodName) ({ cls := "AntLeaseModel", name := "worth", desc := "([II)I" } : Jvm.MethodName)),
  (Jvm.Cond.methodLink "AntLeaseModel" (110 : Nat) ({ cls := "AntLeaseModel", name := "has", desc := "(II)Z" } : Jvm.MethodName)),
  (Jvm.Cond.methodLink "AntLeaseModel" (114 : Nat) ({ cls := "AntLeaseModel", name := "worth", desc := "([II)I" } : Jvm.MethodName)),
  (Jvm.Cond.code ({ cls := "AntLeaseModel", name := "worthOf", desc := "([II)I" } : Jvm.MethodName) prog_10_method_21_code (5 : Nat) (Option.some Jvm.ClassFile.FieldType.int)),
  (Jvm.Cond.instanceMethod ({ cls := "AntLeaseModel", name := "worthOf", desc := "([II)I" } : Jvm.MethodName)),
  (Jvm.Cond.selects "AntLeaseModel" ({ cls := "AntLeaseModel", name := "worthOf", desc := "([II)I" } : Jvm.MethodName) ({ cls := "AntLeaseModel", name := "worthOf", desc := "([II)I" } : Jvm.MethodName)),
  (Jvm.Cond.code ({ cls := "AntLeaseModel", name := "due", desc := "([I)I" } : Jvm.MethodName) prog_10_method_22_code (1 : Nat) (Option.some Jvm.ClassFile.FieldType.int)),
  (Jvm.Cond.static ({ cls := "AntLeaseModel", name := "due", desc := "([I)I" } : Jvm.MethodName)),
  (Jvm.Cond.methodLink "AntLeaseModel" (118 : Nat) ({ cls := "AntLeaseModel", name := "due", desc := "([I)I" } : Jvm.MethodName)),
  (Jvm.Cond.methodLink "AntLeaseModel" (122 : Nat) ({ cls := "AntLeaseModel", name := "worthOf", desc := "([II)I" } : Jvm.MethodName))]
theorem tb9_in_14 : ∀ w ∈ tb9_14, w ∈ lw_tbl := by
  intro w hw
  have hp : tb9_14 = [648, 647, 768, 767, 13, 761, 765, 760, 759, 11, 643, 644, 757, 752, 751, 9, 749, 748, 746, 747, 639, 649, 641, 652, 654, 772, 770, 771, 794, 793, 16, 788, 791, 787, 786, 15, 779, 778, 777, 784].filterMap (fun i => lw_tbl[i]?) := by decide +kernel
  rw [hp] at hw
  obtain ⟨i, -, hi⟩ := List.mem_filterMap.mp hw
  exact List.mem_of_getElem? hi
theorem tb9_good_14 : ∀ w ∈ tb9_14, goodWord w = true := List.all_eq_true.mp (by decide +kernel)
def tb9_15 : List Cond := [(Jvm.Cond.code ({ cls := "AntLeaseModel", name := "shortOf", desc := "([I)I" } : Jvm.MethodName) prog_10_method_23_code (3 : Nat) (Option.some Jvm.ClassFile.FieldType.int)),
  (Jvm.Cond.instanceMethod ({ cls := "AntLeaseModel", name := "shortOf", desc := "([I)I" } : Jvm.MethodName)),
  (Jvm.Cond.selects "AntLeaseModel" ({ cls := "AntLeaseModel", name := "shortOf", desc := "([I)I" } : Jvm.MethodName) ({ cls := "AntLeaseModel", name := "shortOf", desc := "([I)I" } : Jvm.MethodName)),
  (Jvm.Cond.code ({ cls := "AntLeaseModel", name := "reach", desc := "(III)I" } : Jvm.MethodName) prog_10_method_24_code (7 : Nat) (Option.some Jvm.ClassFile.FieldType.int)),
  (Jvm.Cond.static ({ cls := "AntLeaseModel", name := "reach", desc := "(III)I" } : Jvm.MethodName)),
  (Jvm.Cond.methodLink "AntLeaseModel" (125 : Nat) ({ cls := "AntLeaseModel", name := "reach", desc := "(III)I" } : Jvm.MethodName)),
  (Jvm.Cond.code ({ cls := "AntLeaseModel", name := "antsOf", desc := "([I)I" } : Jvm.MethodName) prog_10_method_25_code (2 : Nat) (Option.some Jvm.ClassFile.FieldType.int)),
  (Jvm.Cond.instanceMethod ({ cls := "AntLeaseModel", name := "antsOf", desc := "([I)I" } : Jvm.MethodName)),
  (Jvm.Cond.selects "AntLeaseModel" ({ cls := "AntLeaseModel", name := "antsOf", desc := "([I)I" } : Jvm.MethodName) ({ cls := "AntLeaseModel", name := "antsOf", desc := "([I)I" } : Jvm.MethodName)),
  (Jvm.Cond.methodLink "AntLeaseModel" (129 : Nat) ({ cls := "AntLeaseModel", name := "antsOf", desc := "([I)I" } : Jvm.MethodName)),
  (Jvm.Cond.code ({ cls := "AntLeaseModel", name := "known", desc := "([I)I" } : Jvm.MethodName) prog_10_method_26_code (5 : Nat) (Option.some Jvm.ClassFile.FieldType.int)),
  (Jvm.Cond.instanceMethod ({ cls := "AntLeaseModel", name := "known", desc := "([I)I" } : Jvm.MethodName)),
  (Jvm.Cond.selects "AntLeaseModel" ({ cls := "AntLeaseModel", name := "known", desc := "([I)I" } : Jvm.MethodName) ({ cls := "AntLeaseModel", name := "known", desc := "([I)I" } : Jvm.MethodName)),
  (Jvm.Cond.methodLink "AntLeaseModel" (132 : Nat) ({ cls := "AntLeaseModel", name := "shortOf", desc := "([I)I" } : Jvm.MethodName)),
  (Jvm.Cond.methodLink "AntLeaseModel" (135 : Nat) ({ cls := "AntLeaseModel", name := "many", desc := "(I)I" } : Jvm.MethodName)),
  (Jvm.Cond.code ({ cls := "AntLeaseModel", name := "goQuarter", desc := "([I)I" } : Jvm.MethodName) prog_10_method_27_code (5 : Nat) (Option.some Jvm.ClassFile.FieldType.int)),
  (Jvm.Cond.instanceMethod ({ cls := "AntLeaseModel", name := "goQuarter", desc := "([I)I" } : Jvm.MethodName)),
  (Jvm.Cond.selects "AntLeaseModel" ({ cls := "AntLeaseModel", name := "goQuarter", desc := "([I)I" } : Jvm.MethodName) ({ cls := "AntLeaseModel", name := "goQuarter", desc := "([I)I" } : Jvm.MethodName)),
  (Jvm.Cond.methodLink "AntLeaseModel" (138 : Nat) ({ cls := "AntLeaseModel", name := "known", desc := "([I)I" } : Jvm.MethodName)),
  (Jvm.Cond.fieldLink "AntLeaseModel" (141 : Nat) "AntLeaseModel" "said" "I"),
  (Jvm.Cond.code ({ cls := "AntLeaseModel", name := "about", desc := "(I)I" } : Jvm.MethodName) prog_10_method_28_code (2 : Nat) (Option.some Jvm.ClassFile.FieldType.int)),
  (Jvm.Cond.instanceMethod ({ cls := "AntLeaseModel", name := "about", desc := "(I)I" } : Jvm.MethodName)),
  (Jvm.Cond.selects "AntLeaseModel" ({ cls := "AntLeaseModel", name := "about", desc := "(I)I" } : Jvm.MethodName) ({ cls := "AntLeaseModel", name := "about", desc := "(I)I" } : Jvm.MethodName)),
  (Jvm.Cond.methodLink "AntLeaseModel" (144 : Nat) ({ cls := "AntLeaseModel", name := "noFood", desc := "(I)Z" } : Jvm.MethodName)),
  (Jvm.Cond.code ({ cls := "AntLeaseModel", name := "food", desc := "(II)I" } : Jvm.MethodName) prog_10_method_29_code (3 : Nat) (Option.some Jvm.ClassFile.FieldType.int)),
  (Jvm.Cond.instanceMethod ({ cls := "AntLeaseModel", name := "food", desc := "(II)I" } : Jvm.MethodName)),
  (Jvm.Cond.selects "AntLeaseModel" ({ cls := "AntLeaseModel", name := "food", desc := "(II)I" } : Jvm.MethodName) ({ cls := "AntLeaseModel", name := "food", desc := "(II)I" } : Jvm.MethodName)),
  (Jvm.Cond.methodLink "AntLeaseModel" (148 : Nat) ({ cls := "AntLeaseModel", name := "apart", desc := "(II)I" } : Jvm.MethodName)),
  (Jvm.Cond.code ({ cls := "AntLeaseModel", name := "astray", desc := "(I)I" } : Jvm.MethodName) prog_10_method_30_code (6 : Nat) (Option.some Jvm.ClassFile.FieldType.int)),
  (Jvm.Cond.instanceMethod ({ cls := "AntLeaseModel", name := "astray", desc := "(I)I" } : Jvm.MethodName)),
  (Jvm.Cond.selects "AntLeaseModel" ({ cls := "AntLeaseModel", name := "astray", desc := "(I)I" } : Jvm.MethodName) ({ cls := "AntLeaseModel", name := "astray", desc := "(I)I" } : Jvm.MethodName)),
  (Jvm.Cond.methodLink "AntLeaseModel" (152 : Nat) ({ cls := "AntLeaseModel", name := "noThing", desc := "(I)Z" } : Jvm.MethodName)),
  (Jvm.Cond.methodLink "AntLeaseModel" (155 : Nat) ({ cls := "AntLeaseModel", name := "astray", desc := "(I)I" } : Jvm.MethodName)),
  (Jvm.Cond.code ({ cls := "AntLeaseModel", name := "thing", desc := "(II)I" } : Jvm.MethodName) prog_10_method_31_code (3 : Nat) (Option.some Jvm.ClassFile.FieldType.int)),
  (Jvm.Cond.instanceMethod ({ cls := "AntLeaseModel", name := "thing", desc := "(II)I" } : Jvm.MethodName)),
  (Jvm.Cond.selects "AntLeaseModel" ({ cls := "AntLeaseModel", name := "thing", desc := "(II)I" } : Jvm.MethodName) ({ cls := "AntLeaseModel", name := "thing", desc := "(II)I" } : Jvm.MethodName)),
  (Jvm.Cond.fieldLink "AntLeaseModel" (28 : Nat) "AntLeaseModel" "book" "[I"),
  (Jvm.Cond.code ({ cls := "AntLeaseModel", name := "note", desc := "()V" } : Jvm.MethodName) prog_10_method_32_code (2 : Nat) (Option.none : Option Jvm.ClassFile.FieldType)),
  (Jvm.Cond.instanceMethod ({ cls := "AntLeaseModel", name := "note", desc := "()V" } : Jvm.MethodName)),
  (Jvm.Cond.selects "AntLeaseModel" ({ cls := "AntLeaseModel", name := "note", desc := "()V" } : Jvm.MethodName) ({ cls := "AntLeaseModel", name := "note", desc := "()V" } : Jvm.MethodName))]
theorem tb9_in_15 : ∀ w ∈ tb9_15, w ∈ lw_tbl := by
  intro w hw
  have hp : tb9_15 = [783, 782, 14, 801, 800, 799, 798, 797, 17, 795, 805, 804, 18, 780, 841, 840, 839, 23, 802, 655, 776, 774, 775, 810, 809, 807, 808, 826, 825, 824, 21, 818, 822, 817, 815, 816, 651, 836, 835, 22].filterMap (fun i => lw_tbl[i]?) := by decide +kernel
  rw [hp] at hw
  obtain ⟨i, -, hi⟩ := List.mem_filterMap.mp hw
  exact List.mem_of_getElem? hi
theorem tb9_good_15 : ∀ w ∈ tb9_15, goodWord w = true := List.all_eq_true.mp (by decide +kernel)
def tb9_16 : List Cond := [(Jvm.Cond.methodLink "AntLeaseModel" (158 : Nat) ({ cls := "AntLeaseModel", name := "note", desc := "()V" } : Jvm.MethodName)),
  (Jvm.Cond.methodLink "AntLeaseModel" (161 : Nat) ({ cls := "AntLeaseModel", name := "goQuarter", desc := "([I)I" } : Jvm.MethodName)),
  (Jvm.Cond.code ({ cls := "AntLeaseModel", name := "quarter", desc := "()I" } : Jvm.MethodName) prog_10_method_33_code (1 : Nat) (Option.some Jvm.ClassFile.FieldType.int)),
  (Jvm.Cond.instanceMethod ({ cls := "AntLeaseModel", name := "quarter", desc := "()I" } : Jvm.MethodName)),
  (Jvm.Cond.selects "AntLeaseModel" ({ cls := "AntLeaseModel", name := "quarter", desc := "()I" } : Jvm.MethodName) ({ cls := "AntLeaseModel", name := "quarter", desc := "()I" } : Jvm.MethodName)),
  (Jvm.Cond.code ({ cls := "AntLeaseModel", name := "goPut", desc := "([III)Z" } : Jvm.MethodName) prog_10_method_34_code (4 : Nat) (Option.some Jvm.ClassFile.FieldType.boolean)),
  (Jvm.Cond.static ({ cls := "AntLeaseModel", name := "goPut", desc := "([III)Z" } : Jvm.MethodName)),
  (Jvm.Cond.code ({ cls := "AntLeaseModel", name := "grains", desc := "(II)I" } : Jvm.MethodName) prog_10_method_35_code (3 : Nat) (Option.some Jvm.ClassFile.FieldType.int)),
  (Jvm.Cond.instanceMethod ({ cls := "AntLeaseModel", name := "grains", desc := "(II)I" } : Jvm.MethodName)),
  (Jvm.Cond.selects "AntLeaseModel" ({ cls := "AntLeaseModel", name := "grains", desc := "(II)I" } : Jvm.MethodName) ({ cls := "AntLeaseModel", name := "grains", desc := "(II)I" } : Jvm.MethodName)),
  (Jvm.Cond.methodLink "AntLeaseModel" (164 : Nat) ({ cls := "AntLeaseModel", name := "grains", desc := "(II)I" } : Jvm.MethodName)),
  (Jvm.Cond.code ({ cls := "AntLeaseModel", name := "goLeave", desc := "([III)Z" } : Jvm.MethodName) prog_10_method_36_code (6 : Nat) (Option.some Jvm.ClassFile.FieldType.boolean)),
  (Jvm.Cond.instanceMethod ({ cls := "AntLeaseModel", name := "goLeave", desc := "([III)Z" } : Jvm.MethodName)),
  (Jvm.Cond.selects "AntLeaseModel" ({ cls := "AntLeaseModel", name := "goLeave", desc := "([III)Z" } : Jvm.MethodName) ({ cls := "AntLeaseModel", name := "goLeave", desc := "([III)Z" } : Jvm.MethodName)),
  (Jvm.Cond.methodLink "AntLeaseModel" (167 : Nat) ({ cls := "AntLeaseModel", name := "goPut", desc := "([III)Z" } : Jvm.MethodName)),
  (Jvm.Cond.code ({ cls := "AntLeaseModel", name := "put", desc := "(II)I" } : Jvm.MethodName) prog_10_method_37_code (3 : Nat) (Option.some Jvm.ClassFile.FieldType.int)),
  (Jvm.Cond.instanceMethod ({ cls := "AntLeaseModel", name := "put", desc := "(II)I" } : Jvm.MethodName)),
  (Jvm.Cond.selects "AntLeaseModel" ({ cls := "AntLeaseModel", name := "put", desc := "(II)I" } : Jvm.MethodName) ({ cls := "AntLeaseModel", name := "put", desc := "(II)I" } : Jvm.MethodName)),
  (Jvm.Cond.code ({ cls := "AntLeaseModel", name := "eat", desc := "(II)I" } : Jvm.MethodName) prog_10_method_38_code (3 : Nat) (Option.some Jvm.ClassFile.FieldType.int)),
  (Jvm.Cond.instanceMethod ({ cls := "AntLeaseModel", name := "eat", desc := "(II)I" } : Jvm.MethodName)),
  (Jvm.Cond.selects "AntLeaseModel" ({ cls := "AntLeaseModel", name := "eat", desc := "(II)I" } : Jvm.MethodName) ({ cls := "AntLeaseModel", name := "eat", desc := "(II)I" } : Jvm.MethodName)),
  (Jvm.Cond.methodLink "AntLeaseModel" (171 : Nat) ({ cls := "AntLeaseModel", name := "goLeave", desc := "([III)Z" } : Jvm.MethodName)),
  (Jvm.Cond.code ({ cls := "AntLeaseModel", name := "leave", desc := "(II)I" } : Jvm.MethodName) prog_10_method_39_code (3 : Nat) (Option.some Jvm.ClassFile.FieldType.int)),
  (Jvm.Cond.instanceMethod ({ cls := "AntLeaseModel", name := "leave", desc := "(II)I" } : Jvm.MethodName)),
  (Jvm.Cond.selects "AntLeaseModel" ({ cls := "AntLeaseModel", name := "leave", desc := "(II)I" } : Jvm.MethodName) ({ cls := "AntLeaseModel", name := "leave", desc := "(II)I" } : Jvm.MethodName)),
  (Jvm.Cond.methodLink "AntLeaseModel" (174 : Nat) ({ cls := "AntLeaseModel", name := "noPlace", desc := "(I)Z" } : Jvm.MethodName)),
  (Jvm.Cond.code ({ cls := "AntLeaseModel", name := "move", desc := "(II)I" } : Jvm.MethodName) prog_10_method_40_code (4 : Nat) (Option.some Jvm.ClassFile.FieldType.int)),
  (Jvm.Cond.instanceMethod ({ cls := "AntLeaseModel", name := "move", desc := "(II)I" } : Jvm.MethodName)),
  (Jvm.Cond.selects "AntLeaseModel" ({ cls := "AntLeaseModel", name := "move", desc := "(II)I" } : Jvm.MethodName) ({ cls := "AntLeaseModel", name := "move", desc := "(II)I" } : Jvm.MethodName)),
  (Jvm.Cond.code ({ cls := "AntLeaseModel", name := "sprinkle", desc := "(I)I" } : Jvm.MethodName) prog_10_method_41_code (2 : Nat) (Option.some Jvm.ClassFile.FieldType.int)),
  (Jvm.Cond.instanceMethod ({ cls := "AntLeaseModel", name := "sprinkle", desc := "(I)I" } : Jvm.MethodName)),
  (Jvm.Cond.selects "AntLeaseModel" ({ cls := "AntLeaseModel", name := "sprinkle", desc := "(I)I" } : Jvm.MethodName) ({ cls := "AntLeaseModel", name := "sprinkle", desc := "(I)I" } : Jvm.MethodName)),
  (Jvm.Cond.code ({ cls := "AntLeaseModel", name := "undo", desc := "()I" } : Jvm.MethodName) prog_10_method_42_code (2 : Nat) (Option.some Jvm.ClassFile.FieldType.int)),
  (Jvm.Cond.instanceMethod ({ cls := "AntLeaseModel", name := "undo", desc := "()I" } : Jvm.MethodName)),
  (Jvm.Cond.selects "AntLeaseModel" ({ cls := "AntLeaseModel", name := "undo", desc := "()I" } : Jvm.MethodName) ({ cls := "AntLeaseModel", name := "undo", desc := "()I" } : Jvm.MethodName)),
  (Jvm.Cond.fieldLink "AntLeaseModel" (25 : Nat) "AntLeaseModel" "trial" "[I"),
  (Jvm.Cond.code ({ cls := "AntLeaseModel", name := "begin", desc := "()V" } : Jvm.MethodName) prog_10_method_43_code (2 : Nat) (Option.none : Option Jvm.ClassFile.FieldType)),
  (Jvm.Cond.instanceMethod ({ cls := "AntLeaseModel", name := "begin", desc := "()V" } : Jvm.MethodName)),
  (Jvm.Cond.selects "AntLeaseModel" ({ cls := "AntLeaseModel", name := "begin", desc := "()V" } : Jvm.MethodName) ({ cls := "AntLeaseModel", name := "begin", desc := "()V" } : Jvm.MethodName)),
  (Jvm.Cond.constantLong "AntLeaseModel" (177 : Nat) (20 : Int64))]
theorem tb9_in_16 : ∀ w ∈ tb9_16, w ∈ lw_tbl := by
  intro w hw
  have hp : tb9_16 = [833, 837, 832, 830, 831, 851, 850, 863, 862, 24, 860, 867, 866, 25, 849, 847, 845, 846, 855, 853, 854, 864, 859, 857, 858, 872, 871, 869, 870, 878, 876, 877, 882, 880, 881, 650, 892, 891, 26, 887].filterMap (fun i => lw_tbl[i]?) := by decide +kernel
  rw [hp] at hw
  obtain ⟨i, -, hi⟩ := List.mem_filterMap.mp hw
  exact List.mem_of_getElem? hi
theorem tb9_good_16 : ∀ w ∈ tb9_16, goodWord w = true := List.all_eq_true.mp (by decide +kernel)
def tb9_17 : List Cond := [(Jvm.Cond.constantLong "AntLeaseModel" (179 : Nat) (2 : Int64)),
  (Jvm.Cond.methodLink "AntLeaseModel" (181 : Nat) ({ cls := "AntLeaseModel", name := "begin", desc := "()V" } : Jvm.MethodName)),
  (Jvm.Cond.code ({ cls := "AntLeaseModel", name := "later", desc := "(II)I" } : Jvm.MethodName) prog_10_method_44_code (4 : Nat) (Option.some Jvm.ClassFile.FieldType.int)),
  (Jvm.Cond.instanceMethod ({ cls := "AntLeaseModel", name := "later", desc := "(II)I" } : Jvm.MethodName)),
  (Jvm.Cond.selects "AntLeaseModel" ({ cls := "AntLeaseModel", name := "later", desc := "(II)I" } : Jvm.MethodName) ({ cls := "AntLeaseModel", name := "later", desc := "(II)I" } : Jvm.MethodName)),
  (Jvm.Cond.methodLink "AntLeaseModel" (184 : Nat) ({ cls := "AntLeaseModel", name := "power", desc := "(II)I" } : Jvm.MethodName)),
  (Jvm.Cond.code ({ cls := "AntLeaseModel", name := "leaves", desc := "(I)I" } : Jvm.MethodName) prog_10_method_45_code (5 : Nat) (Option.some Jvm.ClassFile.FieldType.int)),
  (Jvm.Cond.instanceMethod ({ cls := "AntLeaseModel", name := "leaves", desc := "(I)I" } : Jvm.MethodName)),
  (Jvm.Cond.selects "AntLeaseModel" ({ cls := "AntLeaseModel", name := "leaves", desc := "(I)I" } : Jvm.MethodName) ({ cls := "AntLeaseModel", name := "leaves", desc := "(I)I" } : Jvm.MethodName)),
  (Jvm.Cond.fieldLink "AntLeaseModel" (187 : Nat) "AntLeaseModel" "leastMany" "I"),
  (Jvm.Cond.fieldLink "AntLeaseModel" (190 : Nat) "AntLeaseModel" "leastWay" "I"),
  (Jvm.Cond.methodLink "AntLeaseModel" (193 : Nat) ({ cls := "AntLeaseModel", name := "leaves", desc := "(I)I" } : Jvm.MethodName)),
  (Jvm.Cond.code ({ cls := "AntLeaseModel", name := "least", desc := "(I)I" } : Jvm.MethodName) prog_10_method_46_code (4 : Nat) (Option.some Jvm.ClassFile.FieldType.int)),
  (Jvm.Cond.instanceMethod ({ cls := "AntLeaseModel", name := "least", desc := "(I)I" } : Jvm.MethodName)),
  (Jvm.Cond.selects "AntLeaseModel" ({ cls := "AntLeaseModel", name := "least", desc := "(I)I" } : Jvm.MethodName) ({ cls := "AntLeaseModel", name := "least", desc := "(I)I" } : Jvm.MethodName)),
  (Jvm.Cond.code ({ cls := "AntLeaseModel", name := "longPower", desc := "(JI)J" } : Jvm.MethodName) prog_10_method_47_code (6 : Nat) (Option.some Jvm.ClassFile.FieldType.long)),
  (Jvm.Cond.static ({ cls := "AntLeaseModel", name := "longPower", desc := "(JI)J" } : Jvm.MethodName)),
  (Jvm.Cond.code ({ cls := "AntLeaseModel", name := "moves", desc := "(II)Z" } : Jvm.MethodName) prog_10_method_48_code (4 : Nat) (Option.some Jvm.ClassFile.FieldType.boolean)),
  (Jvm.Cond.instanceMethod ({ cls := "AntLeaseModel", name := "moves", desc := "(II)Z" } : Jvm.MethodName)),
  (Jvm.Cond.selects "AntLeaseModel" ({ cls := "AntLeaseModel", name := "moves", desc := "(II)Z" } : Jvm.MethodName) ({ cls := "AntLeaseModel", name := "moves", desc := "(II)Z" } : Jvm.MethodName)),
  (Jvm.Cond.code ({ cls := "AntLeaseModel", name := "sprinkles", desc := "(I)Z" } : Jvm.MethodName) prog_10_method_49_code (3 : Nat) (Option.some Jvm.ClassFile.FieldType.boolean)),
  (Jvm.Cond.instanceMethod ({ cls := "AntLeaseModel", name := "sprinkles", desc := "(I)Z" } : Jvm.MethodName)),
  (Jvm.Cond.selects "AntLeaseModel" ({ cls := "AntLeaseModel", name := "sprinkles", desc := "(I)Z" } : Jvm.MethodName) ({ cls := "AntLeaseModel", name := "sprinkles", desc := "(I)Z" } : Jvm.MethodName)),
  (Jvm.Cond.methodLink "AntLeaseModel" (196 : Nat) ({ cls := "AntLeaseModel", name := "moves", desc := "(II)Z" } : Jvm.MethodName)),
  (Jvm.Cond.methodLink "AntLeaseModel" (199 : Nat) ({ cls := "AntLeaseModel", name := "sprinkles", desc := "(I)Z" } : Jvm.MethodName)),
  (Jvm.Cond.code ({ cls := "AntLeaseModel", name := "does", desc := "(I)Z" } : Jvm.MethodName) prog_10_method_50_code (5 : Nat) (Option.some Jvm.ClassFile.FieldType.boolean)),
  (Jvm.Cond.instanceMethod ({ cls := "AntLeaseModel", name := "does", desc := "(I)Z" } : Jvm.MethodName)),
  (Jvm.Cond.selects "AntLeaseModel" ({ cls := "AntLeaseModel", name := "does", desc := "(I)Z" } : Jvm.MethodName) ({ cls := "AntLeaseModel", name := "does", desc := "(I)Z" } : Jvm.MethodName)),
  (Jvm.Cond.constantLong "AntLeaseModel" (202 : Nat) (4 : Int64)),
  (Jvm.Cond.constantLong "AntLeaseModel" (204 : Nat) (1000 : Int64)),
  (Jvm.Cond.methodLink "AntLeaseModel" (206 : Nat) ({ cls := "AntLeaseModel", name := "longPower", desc := "(JI)J" } : Jvm.MethodName)),
  (Jvm.Cond.methodLink "AntLeaseModel" (210 : Nat) ({ cls := "AntLeaseModel", name := "does", desc := "(I)Z" } : Jvm.MethodName)),
  (Jvm.Cond.code ({ cls := "AntLeaseModel", name := "judge", desc := "(IJ)I" } : Jvm.MethodName) prog_10_method_51_code (5 : Nat) (Option.some Jvm.ClassFile.FieldType.int)),
  (Jvm.Cond.instanceMethod ({ cls := "AntLeaseModel", name := "judge", desc := "(IJ)I" } : Jvm.MethodName)),
  (Jvm.Cond.selects "AntLeaseModel" ({ cls := "AntLeaseModel", name := "judge", desc := "(IJ)I" } : Jvm.MethodName) ({ cls := "AntLeaseModel", name := "judge", desc := "(IJ)I" } : Jvm.MethodName)),
  (Jvm.Cond.code ({ cls := "AntLeaseModel", name := "ways", desc := "(I)I" } : Jvm.MethodName) prog_10_method_52_code (3 : Nat) (Option.some Jvm.ClassFile.FieldType.int)),
  (Jvm.Cond.static ({ cls := "AntLeaseModel", name := "ways", desc := "(I)I" } : Jvm.MethodName)),
  (Jvm.Cond.code ({ cls := "AntLeaseModel", name := "divisor", desc := "(II)I" } : Jvm.MethodName) prog_10_method_53_code (5 : Nat) (Option.some Jvm.ClassFile.FieldType.int)),
  (Jvm.Cond.static ({ cls := "AntLeaseModel", name := "divisor", desc := "(II)I" } : Jvm.MethodName)),
  (Jvm.Cond.methodLink "AntLeaseModel" (213 : Nat) ({ cls := "AntLeaseModel", name := "divisor", desc := "(II)I" } : Jvm.MethodName))]
theorem tb9_in_17 : ∀ w ∈ tb9_17, w ∈ lw_tbl := by
  intro w hw
  have hp : tb9_17 = [888, 889, 886, 884, 885, 897, 903, 902, 27, 659, 660, 900, 896, 894, 895, 912, 911, 920, 919, 29, 924, 923, 30, 917, 921, 916, 915, 28, 908, 909, 910, 913, 907, 905, 906, 931, 930, 937, 936, 935].filterMap (fun i => lw_tbl[i]?) := by decide +kernel
  rw [hp] at hw
  obtain ⟨i, -, hi⟩ := List.mem_filterMap.mp hw
  exact List.mem_of_getElem? hi
theorem tb9_good_17 : ∀ w ∈ tb9_17, goodWord w = true := List.all_eq_true.mp (by decide +kernel)
def tb9_18 : List Cond := [(Jvm.Cond.code ({ cls := "AntLeaseModel", name := "fraction", desc := "(IIZ)I" } : Jvm.MethodName) prog_10_method_54_code (4 : Nat) (Option.some Jvm.ClassFile.FieldType.int)),
  (Jvm.Cond.static ({ cls := "AntLeaseModel", name := "fraction", desc := "(IIZ)I" } : Jvm.MethodName)),
  (Jvm.Cond.fieldLink "AntLeaseModel" (47 : Nat) "AntLeaseModel" "value" "[I"),
  (Jvm.Cond.methodLink "AntLeaseModel" (216 : Nat) ({ cls := "AntLeaseModel", name := "ways", desc := "(I)I" } : Jvm.MethodName)),
  (Jvm.Cond.methodLink "AntLeaseModel" (219 : Nat) ({ cls := "AntLeaseModel", name := "fraction", desc := "(IIZ)I" } : Jvm.MethodName)),
  (Jvm.Cond.code ({ cls := "AntLeaseModel", name := "share", desc := "(IZ)I" } : Jvm.MethodName) prog_10_method_55_code (7 : Nat) (Option.some Jvm.ClassFile.FieldType.int)),
  (Jvm.Cond.instanceMethod ({ cls := "AntLeaseModel", name := "share", desc := "(IZ)I" } : Jvm.MethodName)),
  (Jvm.Cond.selects "AntLeaseModel" ({ cls := "AntLeaseModel", name := "share", desc := "(IZ)I" } : Jvm.MethodName) ({ cls := "AntLeaseModel", name := "share", desc := "(IZ)I" } : Jvm.MethodName)),
  (Jvm.Cond.fieldLink "AntLeaseModel" (38 : Nat) "AntLeaseModel" "saidAt" "[I"),
  (Jvm.Cond.fieldLink "AntLeaseModel" (41 : Nat) "AntLeaseModel" "saidIs" "[I"),
  (Jvm.Cond.code ({ cls := "AntLeaseModel", name := "say", desc := "(II)I" } : Jvm.MethodName) prog_10_method_56_code (3 : Nat) (Option.some Jvm.ClassFile.FieldType.int)),
  (Jvm.Cond.instanceMethod ({ cls := "AntLeaseModel", name := "say", desc := "(II)I" } : Jvm.MethodName)),
  (Jvm.Cond.selects "AntLeaseModel" ({ cls := "AntLeaseModel", name := "say", desc := "(II)I" } : Jvm.MethodName) ({ cls := "AntLeaseModel", name := "say", desc := "(II)I" } : Jvm.MethodName)),
  (Jvm.Cond.code ({ cls := "AntLeaseModel", name := "unsay", desc := "()I" } : Jvm.MethodName) prog_10_method_57_code (2 : Nat) (Option.some Jvm.ClassFile.FieldType.int)),
  (Jvm.Cond.instanceMethod ({ cls := "AntLeaseModel", name := "unsay", desc := "()I" } : Jvm.MethodName)),
  (Jvm.Cond.selects "AntLeaseModel" ({ cls := "AntLeaseModel", name := "unsay", desc := "()I" } : Jvm.MethodName) ({ cls := "AntLeaseModel", name := "unsay", desc := "()I" } : Jvm.MethodName)),
  (Jvm.Cond.fieldLink "AntLeaseModel" (223 : Nat) "AntLeaseModel" "lineMany" "I"),
  (Jvm.Cond.fieldLink "AntLeaseModel" (226 : Nat) "AntLeaseModel" "lineFirst" "I"),
  (Jvm.Cond.code ({ cls := "AntLeaseModel", name := "lines", desc := "(I)I" } : Jvm.MethodName) prog_10_method_58_code (6 : Nat) (Option.some Jvm.ClassFile.FieldType.int)),
  (Jvm.Cond.instanceMethod ({ cls := "AntLeaseModel", name := "lines", desc := "(I)I" } : Jvm.MethodName)),
  (Jvm.Cond.selects "AntLeaseModel" ({ cls := "AntLeaseModel", name := "lines", desc := "(I)I" } : Jvm.MethodName) ({ cls := "AntLeaseModel", name := "lines", desc := "(I)I" } : Jvm.MethodName)),
  (Jvm.Cond.fieldLink "AntLeaseModel" (44 : Nat) "AntLeaseModel" "gains" "[I"),
  (Jvm.Cond.fieldLink "AntLeaseModel" (229 : Nat) "AntLeaseModel" "restMany" "I"),
  (Jvm.Cond.fieldLink "AntLeaseModel" (232 : Nat) "AntLeaseModel" "restFirst" "I"),
  (Jvm.Cond.code ({ cls := "AntLeaseModel", name := "rests", desc := "(III)I" } : Jvm.MethodName) prog_10_method_59_code (7 : Nat) (Option.some Jvm.ClassFile.FieldType.int)),
  (Jvm.Cond.instanceMethod ({ cls := "AntLeaseModel", name := "rests", desc := "(III)I" } : Jvm.MethodName)),
  (Jvm.Cond.selects "AntLeaseModel" ({ cls := "AntLeaseModel", name := "rests", desc := "(III)I" } : Jvm.MethodName) ({ cls := "AntLeaseModel", name := "rests", desc := "(III)I" } : Jvm.MethodName)),
  (Jvm.Cond.constantLong "AntLeaseModel" (235 : Nat) (5 : Int64)),
  (Jvm.Cond.constantLong "AntLeaseModel" (237 : Nat) (10 : Int64)),
  (Jvm.Cond.code ({ cls := "AntLeaseModel", name := "stray", desc := "(IIZ)I" } : Jvm.MethodName) prog_10_method_60_code (7 : Nat) (Option.some Jvm.ClassFile.FieldType.int)),
  (Jvm.Cond.instanceMethod ({ cls := "AntLeaseModel", name := "stray", desc := "(IIZ)I" } : Jvm.MethodName)),
  (Jvm.Cond.selects "AntLeaseModel" ({ cls := "AntLeaseModel", name := "stray", desc := "(IIZ)I" } : Jvm.MethodName) ({ cls := "AntLeaseModel", name := "stray", desc := "(IIZ)I" } : Jvm.MethodName)),
  (Jvm.Cond.fieldLink "AntLeaseModel" (239 : Nat) "AntLeaseModel" "seed" "J"),
  (Jvm.Cond.code ({ cls := "AntLeaseModel", name := "seed", desc := "(J)J" } : Jvm.MethodName) prog_10_method_61_code (5 : Nat) (Option.some Jvm.ClassFile.FieldType.long)),
  (Jvm.Cond.instanceMethod ({ cls := "AntLeaseModel", name := "seed", desc := "(J)J" } : Jvm.MethodName)),
  (Jvm.Cond.selects "AntLeaseModel" ({ cls := "AntLeaseModel", name := "seed", desc := "(J)J" } : Jvm.MethodName) ({ cls := "AntLeaseModel", name := "seed", desc := "(J)J" } : Jvm.MethodName)),
  (Jvm.Cond.constantLong "AntLeaseModel" (243 : Nat) (30 : Int64)),
  (Jvm.Cond.constantLong "AntLeaseModel" (245 : Nat) (6364136223846793005 : Int64)),
  (Jvm.Cond.constantLong "AntLeaseModel" (247 : Nat) (1442695040888963407 : Int64)),
  (Jvm.Cond.constantLong "AntLeaseModel" (249 : Nat) (32 : Int64))]
theorem tb9_in_18 : ∀ w ∈ tb9_18, w ∈ lw_tbl := by
  intro w hw
  have hp : tb9_18 = [934, 933, 666, 929, 932, 928, 926, 927, 656, 657, 941, 939, 940, 945, 943, 944, 661, 662, 949, 947, 948, 665, 663, 664, 953, 951, 952, 958, 959, 957, 955, 956, 658, 963, 961, 962, 968, 969, 970, 971].filterMap (fun i => lw_tbl[i]?) := by decide +kernel
  rw [hp] at hw
  obtain ⟨i, -, hi⟩ := List.mem_filterMap.mp hw
  exact List.mem_of_getElem? hi
theorem tb9_good_18 : ∀ w ∈ tb9_18, goodWord w = true := List.all_eq_true.mp (by decide +kernel)
def tb9_19 : List Cond := [(Jvm.Cond.code ({ cls := "AntLeaseModel", name := "years", desc := "(I)I" } : Jvm.MethodName) prog_10_method_62_code (5 : Nat) (Option.some Jvm.ClassFile.FieldType.int)),
  (Jvm.Cond.instanceMethod ({ cls := "AntLeaseModel", name := "years", desc := "(I)I" } : Jvm.MethodName)),
  (Jvm.Cond.selects "AntLeaseModel" ({ cls := "AntLeaseModel", name := "years", desc := "(I)I" } : Jvm.MethodName) ({ cls := "AntLeaseModel", name := "years", desc := "(I)I" } : Jvm.MethodName)),
  (Jvm.Cond.fieldLink "AntLeaseModel" (31 : Nat) "AntLeaseModel" "kept" "[I"),
  (Jvm.Cond.code ({ cls := "AntLeaseModel", name := "keep", desc := "(I)I" } : Jvm.MethodName) prog_10_method_63_code (3 : Nat) (Option.some Jvm.ClassFile.FieldType.int)),
  (Jvm.Cond.instanceMethod ({ cls := "AntLeaseModel", name := "keep", desc := "(I)I" } : Jvm.MethodName)),
  (Jvm.Cond.selects "AntLeaseModel" ({ cls := "AntLeaseModel", name := "keep", desc := "(I)I" } : Jvm.MethodName) ({ cls := "AntLeaseModel", name := "keep", desc := "(I)I" } : Jvm.MethodName)),
  (Jvm.Cond.code ({ cls := "AntLeaseModel", name := "again", desc := "(I)I" } : Jvm.MethodName) prog_10_method_64_code (3 : Nat) (Option.some Jvm.ClassFile.FieldType.int)),
  (Jvm.Cond.instanceMethod ({ cls := "AntLeaseModel", name := "again", desc := "(I)I" } : Jvm.MethodName)),
  (Jvm.Cond.selects "AntLeaseModel" ({ cls := "AntLeaseModel", name := "again", desc := "(I)I" } : Jvm.MethodName) ({ cls := "AntLeaseModel", name := "again", desc := "(I)I" } : Jvm.MethodName)),
  (Jvm.Cond.constant "java/lang/Integer" (265 : Nat) (1431655765 : Int32)),
  (Jvm.Cond.constant "java/lang/Integer" (266 : Nat) (858993459 : Int32)),
  (Jvm.Cond.constant "java/lang/Integer" (267 : Nat) (252645135 : Int32)),
  (Jvm.Cond.code ({ cls := "java/lang/Integer", name := "bitCount", desc := "(I)I" } : Jvm.MethodName) prog_11_method_49_code (1 : Nat) (Option.some Jvm.ClassFile.FieldType.int)),
  (Jvm.Cond.initialized "java/lang/Integer"),
  (Jvm.Cond.static ({ cls := "java/lang/Integer", name := "bitCount", desc := "(I)I" } : Jvm.MethodName))]
theorem tb9_in_19 : ∀ w ∈ tb9_19, w ∈ lw_tbl := by
  intro w hw
  have hp : tb9_19 = [967, 965, 966, 653, 975, 973, 974, 979, 977, 978, 391, 392, 393, 390, 42, 389].filterMap (fun i => lw_tbl[i]?) := by decide +kernel
  rw [hp] at hw
  obtain ⟨i, -, hi⟩ := List.mem_filterMap.mp hw
  exact List.mem_of_getElem? hi
theorem tb9_good_19 : ∀ w ∈ tb9_19, goodWord w = true := List.all_eq_true.mp (by decide +kernel)
def tb9 : List Cond := tb9_0 ++ (tb9_1 ++ (tb9_2 ++ (tb9_3 ++ (tb9_4 ++ (tb9_5 ++ (tb9_6 ++ (tb9_7 ++ (tb9_8 ++ (tb9_9 ++ (tb9_10 ++ (tb9_11 ++ (tb9_12 ++ (tb9_13 ++ (tb9_14 ++ (tb9_15 ++ (tb9_16 ++ (tb9_17 ++ (tb9_18 ++ (tb9_19)))))))))))))))))))
theorem tb9_in : ∀ w ∈ tb9, w ∈ lw_tbl := List.forall_mem_append.mpr ⟨tb9_in_0, List.forall_mem_append.mpr ⟨tb9_in_1, List.forall_mem_append.mpr ⟨tb9_in_2, List.forall_mem_append.mpr ⟨tb9_in_3, List.forall_mem_append.mpr ⟨tb9_in_4, List.forall_mem_append.mpr ⟨tb9_in_5, List.forall_mem_append.mpr ⟨tb9_in_6, List.forall_mem_append.mpr ⟨tb9_in_7, List.forall_mem_append.mpr ⟨tb9_in_8, List.forall_mem_append.mpr ⟨tb9_in_9, List.forall_mem_append.mpr ⟨tb9_in_10, List.forall_mem_append.mpr ⟨tb9_in_11, List.forall_mem_append.mpr ⟨tb9_in_12, List.forall_mem_append.mpr ⟨tb9_in_13, List.forall_mem_append.mpr ⟨tb9_in_14, List.forall_mem_append.mpr ⟨tb9_in_15, List.forall_mem_append.mpr ⟨tb9_in_16, List.forall_mem_append.mpr ⟨tb9_in_17, List.forall_mem_append.mpr ⟨tb9_in_18, tb9_in_19⟩⟩⟩⟩⟩⟩⟩⟩⟩⟩⟩⟩⟩⟩⟩⟩⟩⟩⟩
theorem tb9_good : ∀ w ∈ tb9, goodWord w = true := List.forall_mem_append.mpr ⟨tb9_good_0, List.forall_mem_append.mpr ⟨tb9_good_1, List.forall_mem_append.mpr ⟨tb9_good_2, List.forall_mem_append.mpr ⟨tb9_good_3, List.forall_mem_append.mpr ⟨tb9_good_4, List.forall_mem_append.mpr ⟨tb9_good_5, List.forall_mem_append.mpr ⟨tb9_good_6, List.forall_mem_append.mpr ⟨tb9_good_7, List.forall_mem_append.mpr ⟨tb9_good_8, List.forall_mem_append.mpr ⟨tb9_good_9, List.forall_mem_append.mpr ⟨tb9_good_10, List.forall_mem_append.mpr ⟨tb9_good_11, List.forall_mem_append.mpr ⟨tb9_good_12, List.forall_mem_append.mpr ⟨tb9_good_13, List.forall_mem_append.mpr ⟨tb9_good_14, List.forall_mem_append.mpr ⟨tb9_good_15, List.forall_mem_append.mpr ⟨tb9_good_16, List.forall_mem_append.mpr ⟨tb9_good_17, List.forall_mem_append.mpr ⟨tb9_good_18, tb9_good_19⟩⟩⟩⟩⟩⟩⟩⟩⟩⟩⟩⟩⟩⟩⟩⟩⟩⟩⟩
def nst9 : List pm_N := [("AntLease$House", 84, ({ cls := "AntLease", name := "has", desc := "(II)Z" } : Jvm.MethodName), "AntLease"), ("AntLease$House", 127, ({ cls := "AntLease", name := "isPlace", desc := "(I)Z" } : Jvm.MethodName), "AntLease"), ("AntLease$Said", 21, ({ cls := "AntLease", name := "isPlace", desc := "(I)Z" } : Jvm.MethodName), "AntLease")]
theorem nst9_in : ∀ q ∈ nst9, Cond.methodLinkNest q.1 q.2.1 q.2.2.1 q.2.2.2 ∈ lw_tbl := by
  intro q hq
  unfold nst9 at hq
  simp only [List.mem_cons, List.not_mem_nil, or_false] at hq
  rcases hq with rfl | rfl | rfl
  · exact List.mem_of_getElem? (i := 304) (by decide +kernel)
  · exact List.mem_of_getElem? (i := 447) (by decide +kernel)
  · exact List.mem_of_getElem? (i := 536) (by decide +kernel)
theorem cls9_0 : (∀ w ∈ u_ws RX0 TX0 1, w ∈ tb9) ∧ (∀ k, k < 1 → (parseFieldDescriptor (TX0 k).2.2.1).isSome = true) ∧ ∀ a, a < 1 → ∀ b, b < 1 → a ≠ b → (TX0 a).2.1 ≠ (TX0 b).2.1 := ⟨by decide +kernel, by decide +kernel, by decide +kernel⟩
theorem cls9_1 : (∀ w ∈ u_ws RX1 TX1 2, w ∈ tb9) ∧ (∀ k, k < 2 → (parseFieldDescriptor (TX1 k).2.2.1).isSome = true) ∧ ∀ a, a < 2 → ∀ b, b < 2 → a ≠ b → (TX1 a).2.1 ≠ (TX1 b).2.1 := ⟨by decide +kernel, by decide +kernel, by decide +kernel⟩
theorem cls9_2 : (∀ w ∈ u_ws RX2 TX2 3, w ∈ tb9) ∧ (∀ k, k < 3 → (parseFieldDescriptor (TX2 k).2.2.1).isSome = true) ∧ ∀ a, a < 3 → ∀ b, b < 3 → a ≠ b → (TX2 a).2.1 ≠ (TX2 b).2.1 := ⟨by decide +kernel, by decide +kernel, by decide +kernel⟩
theorem cls9_3 : (∀ w ∈ u_ws RX3 TX3 0, w ∈ tb9) ∧ (∀ k, k < 0 → (parseFieldDescriptor (TX3 k).2.2.1).isSome = true) ∧ ∀ a, a < 0 → ∀ b, b < 0 → a ≠ b → (TX3 a).2.1 ≠ (TX3 b).2.1 := ⟨by decide +kernel, by decide +kernel, by decide +kernel⟩
theorem cls9_4 : (∀ w ∈ u_ws RX4 TX4 3, w ∈ tb9) ∧ (∀ k, k < 3 → (parseFieldDescriptor (TX4 k).2.2.1).isSome = true) ∧ ∀ a, a < 3 → ∀ b, b < 3 → a ≠ b → (TX4 a).2.1 ≠ (TX4 b).2.1 := ⟨by decide +kernel, by decide +kernel, by decide +kernel⟩
theorem cls9_5 : (∀ w ∈ u_ws RX5 TX5 2, w ∈ tb9) ∧ (∀ k, k < 2 → (parseFieldDescriptor (TX5 k).2.2.1).isSome = true) ∧ ∀ a, a < 2 → ∀ b, b < 2 → a ≠ b → (TX5 a).2.1 ≠ (TX5 b).2.1 := ⟨by decide +kernel, by decide +kernel, by decide +kernel⟩
theorem cls9_6 : (∀ w ∈ u_ws RX6 TX6 2, w ∈ tb9) ∧ (∀ k, k < 2 → (parseFieldDescriptor (TX6 k).2.2.1).isSome = true) ∧ ∀ a, a < 2 → ∀ b, b < 2 → a ≠ b → (TX6 a).2.1 ≠ (TX6 b).2.1 := ⟨by decide +kernel, by decide +kernel, by decide +kernel⟩
theorem cls9_7 : (∀ w ∈ u_ws RX7 TX7 10, w ∈ tb9) ∧ (∀ k, k < 10 → (parseFieldDescriptor (TX7 k).2.2.1).isSome = true) ∧ ∀ a, a < 10 → ∀ b, b < 10 → a ≠ b → (TX7 a).2.1 ≠ (TX7 b).2.1 := ⟨by decide +kernel, by decide +kernel, by decide +kernel⟩
theorem cls9_8 : (∀ w ∈ u_ws RX8 TX8 32, w ∈ tb9) ∧ (∀ k, k < 32 → (parseFieldDescriptor (TX8 k).2.2.1).isSome = true) ∧ ∀ a, a < 32 → ∀ b, b < 32 → a ≠ b → (TX8 a).2.1 ≠ (TX8 b).2.1 := ⟨by decide +kernel, by decide +kernel, by decide +kernel⟩
theorem cls9_ok : ∀ q ∈ cls9, (∀ w ∈ u_ws q.1 q.2.1 q.2.2, w ∈ tb9) ∧ (∀ k, k < q.2.2 → (parseFieldDescriptor (q.2.1 k).2.2.1).isSome = true) ∧ ∀ a, a < q.2.2 → ∀ b, b < q.2.2 → a ≠ b → (q.2.1 a).2.1 ≠ (q.2.1 b).2.1 := by
  unfold cls9
  exact List.forall_mem_cons.mpr ⟨cls9_0, List.forall_mem_cons.mpr ⟨cls9_1, List.forall_mem_cons.mpr ⟨cls9_2, List.forall_mem_cons.mpr ⟨cls9_3, List.forall_mem_cons.mpr ⟨cls9_4, List.forall_mem_cons.mpr ⟨cls9_5, List.forall_mem_cons.mpr ⟨cls9_6, List.forall_mem_cons.mpr ⟨cls9_7, List.forall_mem_cons.mpr ⟨cls9_8, fun _ h => absurd h List.not_mem_nil⟩⟩⟩⟩⟩⟩⟩⟩⟩
end
section
/-! the methods' tables, by program; each checked against the bytecode by the kernel -/
def oX0_cell : List pm_OP := [(0, .iload_n 1, 1, 0, .int 0, [], []),
  (1, .ifCond .lt 18, 3, 10, .int 0, [], []),
  (4, .iload_n 1, 1, 0, .int 0, [], []),
  (5, .bipush 28, 2, 0, .int (28), [], []),
  (7, .if_icmp .ge 12, 3, 10, .int 0, [], []),
  (10, .aload_n 0, 1, 0, .int 0, [], []),
  (11, .getfield 11, 3, 0, .int 0, [0, 55], []),
  (14, .iload_n 1, 1, 0, .int 0, [], []),
  (15, .iaload, 1, 0, .int 0, [], []),
  (16, .goto 4, 3, 11, .int 0, [], []),
  (19, .iconst 0, 1, 0, .int (0), [], []),
  (20, .ireturn, 1, 0, .int 0, [], [])]
def tX0_cell : pm_M := (({ cls := "AntLease$House", name := "cell", desc := "(I)I" } : Jvm.MethodName), prog_2_method_2_code, 2, (Option.some Jvm.ClassFile.FieldType.int), [], oX0_cell, [56, 57, 58, 59])
def oX0_set : List pm_OP := [(0, .iload_n 1, 1, 0, .int 0, [], []),
  (1, .ifCond .lt 16, 3, 10, .int 0, [], []),
  (4, .iload_n 1, 1, 0, .int 0, [], []),
  (5, .bipush 28, 2, 0, .int (28), [], []),
  (7, .if_icmp .ge 10, 3, 10, .int 0, [], []),
  (10, .aload_n 0, 1, 0, .int 0, [], []),
  (11, .getfield 11, 3, 0, .int 0, [0, 55], []),
  (14, .iload_n 1, 1, 0, .int 0, [], []),
  (15, .iload_n 2, 1, 0, .int 0, [], []),
  (16, .iastore, 1, 0, .int 0, [], []),
  (17, .return_, 1, 0, .int 0, [], [])]
def tX0_set : pm_M := (({ cls := "AntLease$House", name := "set", desc := "(II)V" } : Jvm.MethodName), prog_2_method_3_code, 3, (Option.none : Option Jvm.ClassFile.FieldType), [], oX0_set, [60, 57, 61, 62])
def oX0_add : List pm_OP := [(0, .aload_n 0, 1, 0, .int 0, [], []),
  (1, .iload_n 1, 1, 0, .int 0, [], []),
  (2, .aload_n 0, 1, 0, .int 0, [], []),
  (3, .iload_n 1, 1, 0, .int 0, [], []),
  (4, .invokevirtual 15, 3, 0, .int 0, [1, 0, 63], []),
  (7, .iload_n 2, 1, 0, .int 0, [], []),
  (8, .iadd, 1, 0, .int 0, [], []),
  (9, .invokevirtual 19, 3, 1, .int 0, [2, 0, 64], []),
  (12, .return_, 1, 0, .int 0, [], [])]
def tX0_add : pm_M := (({ cls := "AntLease$House", name := "add", desc := "(II)V" } : Jvm.MethodName), prog_2_method_4_code, 3, (Option.none : Option Jvm.ClassFile.FieldType), [], oX0_add, [65, 57, 66, 67])
def oX0_copyOf : List pm_OP := [(0, .iconst 0, 1, 0, .int (0), [], []),
  (1, .istore_n 2, 1, 0, .int 0, [], []),
  (2, .iload_n 2, 1, 0, .int 0, [], []),
  (3, .bipush 28, 2, 0, .int (28), [], []),
  (5, .if_icmp .ge 21, 3, 15, .int 0, [], []),
  (8, .aload_n 0, 1, 0, .int 0, [], []),
  (9, .getfield 11, 3, 0, .int 0, [0, 55], []),
  (12, .iload_n 2, 1, 0, .int 0, [], []),
  (13, .aload_n 1, 1, 0, .int 0, [], []),
  (14, .getfield 11, 3, 0, .int 0, [0, 55], []),
  (17, .iload_n 2, 1, 0, .int 0, [], []),
  (18, .iaload, 1, 0, .int 0, [], []),
  (19, .iastore, 1, 0, .int 0, [], []),
  (20, .iinc 2 1, 3, 0, .int (1), [], []),
  (23, .goto (-21), 3, 2, .int 0, [], []),
  (26, .return_, 1, 0, .int 0, [], [])]
def tX0_copyOf : pm_M := (({ cls := "AntLease$House", name := "copyOf", desc := "(LAntLease$House;)V" } : Jvm.MethodName), prog_2_method_5_code, 3, (Option.none : Option Jvm.ClassFile.FieldType), [], oX0_copyOf, [68, 57, 69, 70])
def oX0_storeIn : List pm_OP := [(0, .iload_n 2, 1, 0, .int 0, [], []),
  (1, .ifCond .lt 27, 3, 17, .int 0, [], []),
  (4, .iload_n 2, 1, 0, .int 0, [], []),
  (5, .aload_n 1, 1, 0, .int 0, [], []),
  (6, .arraylength, 1, 0, .int 0, [], []),
  (7, .bipush 28, 2, 0, .int (28), [], []),
  (9, .idiv, 1, 0, .int 0, [], []),
  (10, .if_icmp .ge 18, 3, 17, .int 0, [], []),
  (13, .aload_n 0, 1, 0, .int 0, [], []),
  (14, .getfield 11, 3, 0, .int 0, [0, 55], []),
  (17, .iconst 0, 1, 0, .int (0), [], []),
  (18, .aload_n 1, 1, 0, .int 0, [], []),
  (19, .iload_n 2, 1, 0, .int 0, [], []),
  (20, .bipush 28, 2, 0, .int (28), [], []),
  (22, .imul, 1, 0, .int 0, [], []),
  (23, .bipush 28, 2, 0, .int (28), [], []),
  (25, .invokestatic 23, 3, 0, .null, [71, 72, 73, 74], []),
  (28, .return_, 1, 0, .int 0, [], [])]
def tX0_storeIn : pm_M := (({ cls := "AntLease$House", name := "storeIn", desc := "([II)V" } : Jvm.MethodName), prog_2_method_6_code, 3, (Option.none : Option Jvm.ClassFile.FieldType), [], oX0_storeIn, [75, 57, 76, 77])
def oX0_fetchFrom : List pm_OP := [(0, .iload_n 2, 1, 0, .int 0, [], []),
  (1, .ifCond .lt 27, 3, 17, .int 0, [], []),
  (4, .iload_n 2, 1, 0, .int 0, [], []),
  (5, .aload_n 1, 1, 0, .int 0, [], []),
  (6, .arraylength, 1, 0, .int 0, [], []),
  (7, .bipush 28, 2, 0, .int (28), [], []),
  (9, .idiv, 1, 0, .int 0, [], []),
  (10, .if_icmp .ge 18, 3, 17, .int 0, [], []),
  (13, .aload_n 1, 1, 0, .int 0, [], []),
  (14, .iload_n 2, 1, 0, .int 0, [], []),
  (15, .bipush 28, 2, 0, .int (28), [], []),
  (17, .imul, 1, 0, .int 0, [], []),
  (18, .aload_n 0, 1, 0, .int 0, [], []),
  (19, .getfield 11, 3, 0, .int 0, [0, 55], []),
  (22, .iconst 0, 1, 0, .int (0), [], []),
  (23, .bipush 28, 2, 0, .int (28), [], []),
  (25, .invokestatic 23, 3, 0, .null, [71, 72, 73, 74], []),
  (28, .return_, 1, 0, .int 0, [], [])]
def tX0_fetchFrom : pm_M := (({ cls := "AntLease$House", name := "fetchFrom", desc := "([II)V" } : Jvm.MethodName), prog_2_method_7_code, 3, (Option.none : Option Jvm.ClassFile.FieldType), [], oX0_fetchFrom, [78, 57, 79, 80])
def oX0_makeFrom : List pm_OP := [(0, .iconst 0, 1, 0, .int (0), [], []),
  (1, .istore_n 2, 1, 0, .int 0, [], []),
  (2, .iload_n 2, 1, 0, .int 0, [], []),
  (3, .bipush 28, 2, 0, .int (28), [], []),
  (5, .if_icmp .ge 16, 3, 12, .int 0, [], []),
  (8, .aload_n 0, 1, 0, .int 0, [], []),
  (9, .getfield 11, 3, 0, .int 0, [0, 55], []),
  (12, .iload_n 2, 1, 0, .int 0, [], []),
  (13, .iconst 0, 1, 0, .int (0), [], []),
  (14, .iastore, 1, 0, .int 0, [], []),
  (15, .iinc 2 1, 3, 0, .int (1), [], []),
  (18, .goto (-16), 3, 2, .int 0, [], []),
  (21, .aload_n 0, 1, 0, .int 0, [], []),
  (22, .bipush 23, 2, 0, .int (23), [], []),
  (24, .aload_n 1, 1, 0, .int 0, [], []),
  (25, .iconst 1, 1, 0, .int (1), [], []),
  (26, .invokevirtual 29, 3, 66, .int 0, [1, 6, 81], []),
  (29, .invokevirtual 19, 3, 1, .int 0, [2, 0, 64], []),
  (32, .aload_n 0, 1, 0, .int 0, [], []),
  (33, .bipush 24, 2, 0, .int (24), [], []),
  (35, .aload_n 1, 1, 0, .int 0, [], []),
  (36, .iconst 2, 1, 0, .int (2), [], []),
  (37, .invokevirtual 29, 3, 66, .int 0, [1, 6, 81], []),
  (40, .invokevirtual 19, 3, 1, .int 0, [2, 0, 64], []),
  (43, .iconst 3, 1, 0, .int (3), [], []),
  (44, .istore_n 2, 1, 0, .int 0, [], []),
  (45, .iload_n 2, 1, 0, .int 0, [], []),
  (46, .aload_n 1, 1, 0, .int 0, [], []),
  (47, .invokevirtual 34, 3, 62, .int 0, [0, 6, 82], []),
  (50, .if_icmp .ge 101, 3, 86, .int 0, [], []),
  (53, .aload_n 1, 1, 0, .int 0, [], []),
  (54, .iload_n 2, 1, 0, .int 0, [], []),
  (55, .invokevirtual 38, 3, 65, .int 0, [1, 6, 83], []),
  (58, .bipush 70, 2, 0, .int (70), [], []),
  (60, .if_icmp .ne 50, 3, 64, .int 0, [], []),
  (63, .aload_n 0, 1, 0, .int 0, [], []),
  (64, .iconst 4, 1, 0, .int (4), [], []),
  (65, .aload_n 0, 1, 0, .int 0, [], []),
  (66, .invokevirtual 41, 3, 7, .int 0, [0, 0, 84], []),
  (69, .iadd, 1, 0, .int 0, [], []),
  (70, .bipush 10, 2, 0, .int (10), [], []),
  (72, .aload_n 1, 1, 0, .int 0, [], []),
  (73, .iload_n 2, 1, 0, .int 0, [], []),
  (74, .iconst 1, 1, 0, .int (1), [], []),
  (75, .iadd, 1, 0, .int 0, [], []),
  (76, .invokevirtual 29, 3, 66, .int 0, [1, 6, 81], []),
  (79, .imul, 1, 0, .int 0, [], []),
  (80, .invokevirtual 19, 3, 1, .int 0, [2, 0, 64], []),
  (83, .aload_n 0, 1, 0, .int 0, [], []),
  (84, .iconst 0, 1, 0, .int (0), [], []),
  (85, .aload_n 0, 1, 0, .int 0, [], []),
  (86, .invokevirtual 41, 3, 7, .int 0, [0, 0, 84], []),
  (89, .iadd, 1, 0, .int 0, [], []),
  (90, .aload_n 1, 1, 0, .int 0, [], []),
  (91, .iload_n 2, 1, 0, .int 0, [], []),
  (92, .iconst 2, 1, 0, .int (2), [], []),
  (93, .iadd, 1, 0, .int 0, [], []),
  (94, .invokevirtual 29, 3, 66, .int 0, [1, 6, 81], []),
  (97, .invokevirtual 19, 3, 1, .int 0, [2, 0, 64], []),
  (100, .aload_n 0, 1, 0, .int 0, [], []),
  (101, .bipush 21, 2, 0, .int (21), [], []),
  (103, .iconst 1, 1, 0, .int (1), [], []),
  (104, .invokevirtual 44, 3, 2, .int 0, [2, 0, 85], []),
  (107, .goto 38, 3, 84, .int 0, [], []),
  (110, .aload_n 1, 1, 0, .int 0, [], []),
  (111, .iload_n 2, 1, 0, .int 0, [], []),
  (112, .invokevirtual 38, 3, 65, .int 0, [1, 6, 83], []),
  (115, .bipush 84, 2, 0, .int (84), [], []),
  (117, .if_icmp .ne 28, 3, 84, .int 0, [], []),
  (120, .aload_n 0, 1, 0, .int 0, [], []),
  (121, .bipush 16, 2, 0, .int (16), [], []),
  (123, .aload_n 0, 1, 0, .int 0, [], []),
  (124, .invokevirtual 47, 3, 8, .int 0, [0, 0, 86], []),
  (127, .iadd, 1, 0, .int 0, [], []),
  (128, .aload_n 1, 1, 0, .int 0, [], []),
  (129, .iload_n 2, 1, 0, .int 0, [], []),
  (130, .iconst 1, 1, 0, .int (1), [], []),
  (131, .iadd, 1, 0, .int 0, [], []),
  (132, .invokevirtual 29, 3, 66, .int 0, [1, 6, 81], []),
  (135, .invokevirtual 19, 3, 1, .int 0, [2, 0, 64], []),
  (138, .aload_n 0, 1, 0, .int 0, [], []),
  (139, .bipush 22, 2, 0, .int (22), [], []),
  (141, .iconst 1, 1, 0, .int (1), [], []),
  (142, .invokevirtual 44, 3, 2, .int 0, [2, 0, 85], []),
  (145, .iinc 2 1, 3, 0, .int (1), [], []),
  (148, .goto (-103), 3, 26, .int 0, [], []),
  (151, .return_, 1, 0, .int 0, [], [])]
def tX0_makeFrom : pm_M := (({ cls := "AntLease$House", name := "makeFrom", desc := "(LAntLease$Text;)V" } : Jvm.MethodName), prog_2_method_8_code, 3, (Option.none : Option Jvm.ClassFile.FieldType), [], oX0_makeFrom, [87, 57, 88, 89])
def oX0_foods : List pm_OP := [(0, .aload_n 0, 1, 0, .int 0, [], []),
  (1, .getfield 11, 3, 0, .int 0, [0, 55], []),
  (4, .bipush 21, 2, 0, .int (21), [], []),
  (6, .iaload, 1, 0, .int 0, [], []),
  (7, .ireturn, 1, 0, .int 0, [], [])]
def tX0_foods : pm_M := (({ cls := "AntLease$House", name := "foods", desc := "()I" } : Jvm.MethodName), prog_2_method_9_code, 1, (Option.some Jvm.ClassFile.FieldType.int), [], oX0_foods, [90, 57, 91, 92])
def oX0_things : List pm_OP := [(0, .aload_n 0, 1, 0, .int 0, [], []),
  (1, .getfield 11, 3, 0, .int 0, [0, 55], []),
  (4, .bipush 22, 2, 0, .int (22), [], []),
  (6, .iaload, 1, 0, .int 0, [], []),
  (7, .ireturn, 1, 0, .int 0, [], [])]
def tX0_things : pm_M := (({ cls := "AntLease$House", name := "things", desc := "()I" } : Jvm.MethodName), prog_2_method_10_code, 1, (Option.some Jvm.ClassFile.FieldType.int), [], oX0_things, [93, 57, 94, 95])
def oX0_skirting : List pm_OP := [(0, .aload_n 0, 1, 0, .int 0, [], []),
  (1, .getfield 11, 3, 0, .int 0, [0, 55], []),
  (4, .bipush 23, 2, 0, .int (23), [], []),
  (6, .iaload, 1, 0, .int 0, [], []),
  (7, .ireturn, 1, 0, .int 0, [], [])]
def tX0_skirting : pm_M := (({ cls := "AntLease$House", name := "skirting", desc := "()I" } : Jvm.MethodName), prog_2_method_11_code, 1, (Option.some Jvm.ClassFile.FieldType.int), [], oX0_skirting, [96, 57, 97, 98])
def oX0_goodwill : List pm_OP := [(0, .aload_n 0, 1, 0, .int 0, [], []),
  (1, .getfield 11, 3, 0, .int 0, [0, 55], []),
  (4, .bipush 24, 2, 0, .int (24), [], []),
  (6, .iaload, 1, 0, .int 0, [], []),
  (7, .ireturn, 1, 0, .int 0, [], [])]
def tX0_goodwill : pm_M := (({ cls := "AntLease$House", name := "goodwill", desc := "()I" } : Jvm.MethodName), prog_2_method_12_code, 1, (Option.some Jvm.ClassFile.FieldType.int), [], oX0_goodwill, [99, 57, 100, 101])
def oX0_pins : List pm_OP := [(0, .aload_n 0, 1, 0, .int 0, [], []),
  (1, .getfield 11, 3, 0, .int 0, [0, 55], []),
  (4, .bipush 25, 2, 0, .int (25), [], []),
  (6, .iaload, 1, 0, .int 0, [], []),
  (7, .ireturn, 1, 0, .int 0, [], [])]
def tX0_pins : pm_M := (({ cls := "AntLease$House", name := "pins", desc := "()I" } : Jvm.MethodName), prog_2_method_13_code, 1, (Option.some Jvm.ClassFile.FieldType.int), [], oX0_pins, [102, 57, 103, 104])
def oX0_powder : List pm_OP := [(0, .aload_n 0, 1, 0, .int 0, [], []),
  (1, .getfield 11, 3, 0, .int 0, [0, 55], []),
  (4, .bipush 26, 2, 0, .int (26), [], []),
  (6, .iaload, 1, 0, .int 0, [], []),
  (7, .ireturn, 1, 0, .int 0, [], [])]
def tX0_powder : pm_M := (({ cls := "AntLease$House", name := "powder", desc := "()I" } : Jvm.MethodName), prog_2_method_14_code, 1, (Option.some Jvm.ClassFile.FieldType.int), [], oX0_powder, [105, 57, 106, 107])
def oX0_quartersGone : List pm_OP := [(0, .aload_n 0, 1, 0, .int 0, [], []),
  (1, .getfield 11, 3, 0, .int 0, [0, 55], []),
  (4, .bipush 27, 2, 0, .int (27), [], []),
  (6, .iaload, 1, 0, .int 0, [], []),
  (7, .ireturn, 1, 0, .int 0, [], [])]
def tX0_quartersGone : pm_M := (({ cls := "AntLease$House", name := "quartersGone", desc := "()I" } : Jvm.MethodName), prog_2_method_15_code, 1, (Option.some Jvm.ClassFile.FieldType.int), [], oX0_quartersGone, [108, 57, 109, 110])
def oX0_hasFood : List pm_OP := [(0, .iload_n 1, 1, 0, .int 0, [], []),
  (1, .ifCond .lt 15, 3, 8, .int 0, [], []),
  (4, .iload_n 1, 1, 0, .int 0, [], []),
  (5, .aload_n 0, 1, 0, .int 0, [], []),
  (6, .invokevirtual 41, 3, 7, .int 0, [0, 0, 84], []),
  (9, .if_icmp .ge 7, 3, 8, .int 0, [], []),
  (12, .iconst 1, 1, 0, .int (1), [], []),
  (13, .goto 4, 3, 9, .int 0, [], []),
  (16, .iconst 0, 1, 0, .int (0), [], []),
  (17, .ireturn, 1, 0, .int 0, [], [])]
def tX0_hasFood : pm_M := (({ cls := "AntLease$House", name := "hasFood", desc := "(I)Z" } : Jvm.MethodName), prog_2_method_16_code, 2, (Option.some Jvm.ClassFile.FieldType.boolean), [], oX0_hasFood, [111, 57, 112, 113])
def oX0_hasThing : List pm_OP := [(0, .iload_n 1, 1, 0, .int 0, [], []),
  (1, .ifCond .lt 15, 3, 8, .int 0, [], []),
  (4, .iload_n 1, 1, 0, .int 0, [], []),
  (5, .aload_n 0, 1, 0, .int 0, [], []),
  (6, .invokevirtual 47, 3, 8, .int 0, [0, 0, 86], []),
  (9, .if_icmp .ge 7, 3, 8, .int 0, [], []),
  (12, .iconst 1, 1, 0, .int (1), [], []),
  (13, .goto 4, 3, 9, .int 0, [], []),
  (16, .iconst 0, 1, 0, .int (0), [], []),
  (17, .ireturn, 1, 0, .int 0, [], [])]
def tX0_hasThing : pm_M := (({ cls := "AntLease$House", name := "hasThing", desc := "(I)Z" } : Jvm.MethodName), prog_2_method_17_code, 2, (Option.some Jvm.ClassFile.FieldType.boolean), [], oX0_hasThing, [114, 57, 115, 116])
def oX0_kind : List pm_OP := [(0, .aload_n 0, 1, 0, .int 0, [], []),
  (1, .iconst 0, 1, 0, .int (0), [], []),
  (2, .iload_n 1, 1, 0, .int 0, [], []),
  (3, .iadd, 1, 0, .int 0, [], []),
  (4, .invokevirtual 15, 3, 0, .int 0, [1, 0, 63], []),
  (7, .ireturn, 1, 0, .int 0, [], [])]
def tX0_kind : pm_M := (({ cls := "AntLease$House", name := "kind", desc := "(I)I" } : Jvm.MethodName), prog_2_method_18_code, 2, (Option.some Jvm.ClassFile.FieldType.int), [], oX0_kind, [117, 57, 118, 119])
def oX0_inLarder : List pm_OP := [(0, .aload_n 0, 1, 0, .int 0, [], []),
  (1, .iconst 4, 1, 0, .int (4), [], []),
  (2, .iload_n 1, 1, 0, .int 0, [], []),
  (3, .iadd, 1, 0, .int 0, [], []),
  (4, .invokevirtual 15, 3, 0, .int 0, [1, 0, 63], []),
  (7, .ireturn, 1, 0, .int 0, [], [])]
def tX0_inLarder : pm_M := (({ cls := "AntLease$House", name := "inLarder", desc := "(I)I" } : Jvm.MethodName), prog_2_method_19_code, 2, (Option.some Jvm.ClassFile.FieldType.int), [], oX0_inLarder, [120, 57, 121, 122])
def oX0_onFloor : List pm_OP := [(0, .aload_n 0, 1, 0, .int 0, [], []),
  (1, .bipush 8, 2, 0, .int (8), [], []),
  (3, .iload_n 1, 1, 0, .int 0, [], []),
  (4, .iadd, 1, 0, .int 0, [], []),
  (5, .invokevirtual 15, 3, 0, .int 0, [1, 0, 63], []),
  (8, .ireturn, 1, 0, .int 0, [], [])]
def tX0_onFloor : pm_M := (({ cls := "AntLease$House", name := "onFloor", desc := "(I)I" } : Jvm.MethodName), prog_2_method_20_code, 2, (Option.some Jvm.ClassFile.FieldType.int), [], oX0_onFloor, [123, 57, 124, 125])
def oX0_newlyPut : List pm_OP := [(0, .aload_n 0, 1, 0, .int 0, [], []),
  (1, .bipush 12, 2, 0, .int (12), [], []),
  (3, .iload_n 1, 1, 0, .int 0, [], []),
  (4, .iadd, 1, 0, .int 0, [], []),
  (5, .invokevirtual 15, 3, 0, .int 0, [1, 0, 63], []),
  (8, .ireturn, 1, 0, .int 0, [], [])]
def tX0_newlyPut : pm_M := (({ cls := "AntLease$House", name := "newlyPut", desc := "(I)I" } : Jvm.MethodName), prog_2_method_21_code, 2, (Option.some Jvm.ClassFile.FieldType.int), [], oX0_newlyPut, [126, 57, 127, 128])
def oX0_placeOf : List pm_OP := [(0, .aload_n 0, 1, 0, .int 0, [], []),
  (1, .bipush 16, 2, 0, .int (16), [], []),
  (3, .iload_n 1, 1, 0, .int 0, [], []),
  (4, .iadd, 1, 0, .int 0, [], []),
  (5, .invokevirtual 15, 3, 0, .int 0, [1, 0, 63], []),
  (8, .ireturn, 1, 0, .int 0, [], [])]
def tX0_placeOf : pm_M := (({ cls := "AntLease$House", name := "placeOf", desc := "(I)I" } : Jvm.MethodName), prog_2_method_22_code, 2, (Option.some Jvm.ClassFile.FieldType.int), [], oX0_placeOf, [129, 57, 130, 131])
def oX0_worth : List pm_OP := [(0, .aload_n 0, 1, 0, .int 0, [], []),
  (1, .iload_n 1, 1, 0, .int 0, [], []),
  (2, .iconst 0, 1, 0, .int (0), [], []),
  (3, .invokevirtual 50, 3, 22, .int 0, [2, 0, 132], []),
  (6, .ireturn, 1, 0, .int 0, [], [])]
def tX0_worth : pm_M := (({ cls := "AntLease$House", name := "worth", desc := "(I)I" } : Jvm.MethodName), prog_2_method_23_code, 2, (Option.some Jvm.ClassFile.FieldType.int), [], oX0_worth, [133, 57, 134, 135])
def oX0_worthWith : List pm_OP := [(0, .aload_n 0, 1, 0, .int 0, [], []),
  (1, .bipush 8, 2, 0, .int (8), [], []),
  (3, .iload_n 1, 1, 0, .int 0, [], []),
  (4, .iadd, 1, 0, .int 0, [], []),
  (5, .invokevirtual 15, 3, 0, .int 0, [1, 0, 63], []),
  (8, .iload_n 2, 1, 0, .int 0, [], []),
  (9, .iadd, 1, 0, .int 0, [], []),
  (10, .istore_n 3, 1, 0, .int 0, [], []),
  (11, .aload_n 0, 1, 0, .int 0, [], []),
  (12, .iconst 0, 1, 0, .int (0), [], []),
  (13, .iload_n 1, 1, 0, .int 0, [], []),
  (14, .iadd, 1, 0, .int 0, [], []),
  (15, .invokevirtual 15, 3, 0, .int 0, [1, 0, 63], []),
  (18, .lookupswitch 34 #[(1, 26), (2, 30)], 26, 22, .int 0, [], [((1), 14), ((2), 18)]),
  (44, .iconst 2, 1, 0, .int (2), [], []),
  (45, .iload_n 3, 1, 0, .int 0, [], []),
  (46, .imul, 1, 0, .int 0, [], []),
  (47, .ireturn, 1, 0, .int 0, [], []),
  (48, .iload_n 3, 1, 0, .int 0, [], []),
  (49, .iconst 2, 1, 0, .int (2), [], []),
  (50, .idiv, 1, 0, .int 0, [], []),
  (51, .ireturn, 1, 0, .int 0, [], []),
  (52, .iload_n 3, 1, 0, .int 0, [], []),
  (53, .ireturn, 1, 0, .int 0, [], [])]
def tX0_worthWith : pm_M := (({ cls := "AntLease$House", name := "worthWith", desc := "(II)I" } : Jvm.MethodName), prog_2_method_24_code, 4, (Option.some Jvm.ClassFile.FieldType.int), [], oX0_worthWith, [136, 57, 137, 138])
def oX0_grainsAtOnce : List pm_OP := [(0, .aload_n 0, 1, 0, .int 0, [], []),
  (1, .iload_n 1, 1, 0, .int 0, [], []),
  (2, .invokevirtual 54, 3, 16, .int 0, [1, 0, 139], []),
  (5, .iconst 3, 1, 0, .int (3), [], []),
  (6, .if_icmp .ne 8, 3, 7, .int 0, [], []),
  (9, .bipush 10, 2, 0, .int (10), [], []),
  (11, .goto 4, 3, 8, .int 0, [], []),
  (14, .iconst 1, 1, 0, .int (1), [], []),
  (15, .ireturn, 1, 0, .int 0, [], [])]
def tX0_grainsAtOnce : pm_M := (({ cls := "AntLease$House", name := "grainsAtOnce", desc := "(I)I" } : Jvm.MethodName), prog_2_method_25_code, 2, (Option.some Jvm.ClassFile.FieldType.int), [], oX0_grainsAtOnce, [140, 57, 141, 142])
def oX0_due : List pm_OP := [(0, .iconst 0, 1, 0, .int (0), [], []),
  (1, .istore_n 1, 1, 0, .int 0, [], []),
  (2, .iconst 0, 1, 0, .int (0), [], []),
  (3, .istore_n 2, 1, 0, .int 0, [], []),
  (4, .iload_n 2, 1, 0, .int 0, [], []),
  (5, .aload_n 0, 1, 0, .int 0, [], []),
  (6, .invokevirtual 41, 3, 7, .int 0, [0, 0, 84], []),
  (9, .if_icmp .ge 17, 3, 16, .int 0, [], []),
  (12, .iload_n 1, 1, 0, .int 0, [], []),
  (13, .aload_n 0, 1, 0, .int 0, [], []),
  (14, .iload_n 2, 1, 0, .int 0, [], []),
  (15, .invokevirtual 57, 3, 19, .int 0, [1, 0, 143], []),
  (18, .iadd, 1, 0, .int 0, [], []),
  (19, .istore_n 1, 1, 0, .int 0, [], []),
  (20, .iinc 2 1, 3, 0, .int (1), [], []),
  (23, .goto (-19), 3, 4, .int 0, [], []),
  (26, .iload_n 1, 1, 0, .int 0, [], []),
  (27, .bipush 10, 2, 0, .int (10), [], []),
  (29, .idiv, 1, 0, .int 0, [], []),
  (30, .ireturn, 1, 0, .int 0, [], [])]
def tX0_due : pm_M := (({ cls := "AntLease$House", name := "due", desc := "()I" } : Jvm.MethodName), prog_2_method_26_code, 3, (Option.some Jvm.ClassFile.FieldType.int), [], oX0_due, [144, 57, 145, 146])
def oX0_shortBy : List pm_OP := [(0, .aload_n 0, 1, 0, .int 0, [], []),
  (1, .invokevirtual 60, 3, 24, .int 0, [0, 0, 147], []),
  (4, .istore_n 1, 1, 0, .int 0, [], []),
  (5, .iconst 0, 1, 0, .int (0), [], []),
  (6, .istore_n 2, 1, 0, .int 0, [], []),
  (7, .iload_n 2, 1, 0, .int 0, [], []),
  (8, .aload_n 0, 1, 0, .int 0, [], []),
  (9, .invokevirtual 41, 3, 7, .int 0, [0, 0, 84], []),
  (12, .if_icmp .ge 17, 3, 17, .int 0, [], []),
  (15, .iload_n 1, 1, 0, .int 0, [], []),
  (16, .aload_n 0, 1, 0, .int 0, [], []),
  (17, .iload_n 2, 1, 0, .int 0, [], []),
  (18, .invokevirtual 63, 3, 21, .int 0, [1, 0, 148], []),
  (21, .isub, 1, 0, .int 0, [], []),
  (22, .istore_n 1, 1, 0, .int 0, [], []),
  (23, .iinc 2 1, 3, 0, .int (1), [], []),
  (26, .goto (-19), 3, 5, .int 0, [], []),
  (29, .iconst 0, 1, 0, .int (0), [], []),
  (30, .iload_n 1, 1, 0, .int 0, [], []),
  (31, .invokestatic 66, 3, 0, .ref 1, [149, 150, 151, 152], []),
  (34, .ireturn, 1, 0, .int 0, [], [])]
def tX0_shortBy : pm_M := (({ cls := "AntLease$House", name := "shortBy", desc := "()I" } : Jvm.MethodName), prog_2_method_27_code, 3, (Option.some Jvm.ClassFile.FieldType.int), [], oX0_shortBy, [153, 57, 154, 155])
def oX0_reach : List pm_OP := [(0, .aload_n 0, 1, 0, .int 0, [], []),
  (1, .invokevirtual 71, 3, 9, .int 0, [0, 0, 156], []),
  (4, .aload_n 0, 1, 0, .int 0, [], []),
  (5, .invokevirtual 74, 3, 10, .int 0, [0, 0, 157], []),
  (8, .aload_n 0, 1, 0, .int 0, [], []),
  (9, .invokevirtual 77, 3, 12, .int 0, [0, 0, 158], []),
  (12, .invokestatic 80, 3, 27, .int 0, [3, 159], []),
  (15, .ireturn, 1, 0, .int 0, [], [])]
def tX0_reach : pm_M := (({ cls := "AntLease$House", name := "reach", desc := "()I" } : Jvm.MethodName), prog_2_method_28_code, 1, (Option.some Jvm.ClassFile.FieldType.int), [], oX0_reach, [160, 57, 161, 162])
def oX0_reachOf : List pm_OP := [(0, .iload_n 2, 1, 0, .int 0, [], []),
  (1, .iload_n 0, 1, 0, .int 0, [], []),
  (2, .invokestatic 84, 3, 103, .long 0, [2, 0], []),
  (5, .ifCond .eq 5, 3, 6, .int 0, [], []),
  (8, .iconst 0, 1, 0, .int (0), [], []),
  (9, .ireturn, 1, 0, .int 0, [], []),
  (10, .iconst 1, 1, 0, .int (1), [], []),
  (11, .iload_n 0, 1, 0, .int 0, [], []),
  (12, .ishl, 1, 0, .int 0, [], []),
  (13, .istore_n 3, 1, 0, .int 0, [], []),
  (14, .iload_n 0, 1, 0, .int 0, [], []),
  (15, .iconst 1, 1, 0, .int (1), [], []),
  (16, .isub, 1, 0, .int 0, [], []),
  (17, .istore 4, 2, 0, .int 0, [], []),
  (19, .iload 4, 2, 0, .int 0, [], []),
  (21, .ifCond .lt 33, 3, 33, .int 0, [], []),
  (24, .iload_n 0, 1, 0, .int 0, [], []),
  (25, .iload 4, 2, 0, .int 0, [], []),
  (27, .isub, 1, 0, .int 0, [], []),
  (28, .iload_n 1, 1, 0, .int 0, [], []),
  (29, .if_icmp .gt 25, 3, 33, .int 0, [], []),
  (32, .iload_n 2, 1, 0, .int 0, [], []),
  (33, .iload 4, 2, 0, .int 0, [], []),
  (35, .invokestatic 84, 3, 103, .long 0, [2, 0], []),
  (38, .ifCond .ne 16, 3, 33, .int 0, [], []),
  (41, .iload_n 3, 1, 0, .int 0, [], []),
  (42, .iconst 1, 1, 0, .int (1), [], []),
  (43, .iload 4, 2, 0, .int 0, [], []),
  (45, .ishl, 1, 0, .int 0, [], []),
  (46, .ior, 1, 0, .int 0, [], []),
  (47, .istore_n 3, 1, 0, .int 0, [], []),
  (48, .iinc 4 (-1), 3, 0, .int (-1), [], []),
  (51, .goto (-32), 3, 14, .int 0, [], []),
  (54, .iload_n 0, 1, 0, .int 0, [], []),
  (55, .iconst 1, 1, 0, .int (1), [], []),
  (56, .iadd, 1, 0, .int 0, [], []),
  (57, .istore 4, 2, 0, .int 0, [], []),
  (59, .iload 4, 2, 0, .int 0, [], []),
  (61, .bipush 10, 2, 0, .int (10), [], []),
  (63, .if_icmp .ge 33, 3, 57, .int 0, [], []),
  (66, .iload 4, 2, 0, .int 0, [], []),
  (68, .iload_n 0, 1, 0, .int 0, [], []),
  (69, .isub, 1, 0, .int 0, [], []),
  (70, .iload_n 1, 1, 0, .int 0, [], []),
  (71, .if_icmp .gt 25, 3, 57, .int 0, [], []),
  (74, .iload_n 2, 1, 0, .int 0, [], []),
  (75, .iload 4, 2, 0, .int 0, [], []),
  (77, .invokestatic 84, 3, 103, .long 0, [2, 0], []),
  (80, .ifCond .ne 16, 3, 57, .int 0, [], []),
  (83, .iload_n 3, 1, 0, .int 0, [], []),
  (84, .iconst 1, 1, 0, .int (1), [], []),
  (85, .iload 4, 2, 0, .int 0, [], []),
  (87, .ishl, 1, 0, .int 0, [], []),
  (88, .ior, 1, 0, .int 0, [], []),
  (89, .istore_n 3, 1, 0, .int 0, [], []),
  (90, .iinc 4 1, 3, 0, .int (1), [], []),
  (93, .goto (-34), 3, 37, .int 0, [], []),
  (96, .iload_n 3, 1, 0, .int 0, [], []),
  (97, .ireturn, 1, 0, .int 0, [], [])]
def tX0_reachOf : pm_M := (({ cls := "AntLease$House", name := "reachOf", desc := "(III)I" } : Jvm.MethodName), prog_2_method_29_code, 5, (Option.some Jvm.ClassFile.FieldType.int), [], oX0_reachOf, [163, 57, 164])
def oX0_known : List pm_OP := [(0, .aload_n 0, 1, 0, .int 0, [], []),
  (1, .invokevirtual 88, 3, 26, .int 0, [0, 0, 165], []),
  (4, .istore_n 1, 1, 0, .int 0, [], []),
  (5, .iconst 0, 1, 0, .int (0), [], []),
  (6, .istore_n 2, 1, 0, .int 0, [], []),
  (7, .iconst 0, 1, 0, .int (0), [], []),
  (8, .istore_n 3, 1, 0, .int 0, [], []),
  (9, .iload_n 3, 1, 0, .int 0, [], []),
  (10, .aload_n 0, 1, 0, .int 0, [], []),
  (11, .invokevirtual 47, 3, 8, .int 0, [0, 0, 86], []),
  (14, .if_icmp .ge 27, 3, 25, .int 0, [], []),
  (17, .iload_n 1, 1, 0, .int 0, [], []),
  (18, .aload_n 0, 1, 0, .int 0, [], []),
  (19, .iload_n 3, 1, 0, .int 0, [], []),
  (20, .invokevirtual 91, 3, 20, .int 0, [1, 0, 166], []),
  (23, .invokestatic 84, 3, 103, .long 0, [2, 0], []),
  (26, .ifCond .eq 9, 3, 23, .int 0, [], []),
  (29, .iload_n 2, 1, 0, .int 0, [], []),
  (30, .iconst 1, 1, 0, .int (1), [], []),
  (31, .iload_n 3, 1, 0, .int 0, [], []),
  (32, .ishl, 1, 0, .int 0, [], []),
  (33, .ior, 1, 0, .int 0, [], []),
  (34, .istore_n 2, 1, 0, .int 0, [], []),
  (35, .iinc 3 1, 3, 0, .int (1), [], []),
  (38, .goto (-29), 3, 7, .int 0, [], []),
  (41, .iload_n 2, 1, 0, .int 0, [], []),
  (42, .ireturn, 1, 0, .int 0, [], [])]
def tX0_known : pm_M := (({ cls := "AntLease$House", name := "known", desc := "()I" } : Jvm.MethodName), prog_2_method_30_code, 4, (Option.some Jvm.ClassFile.FieldType.int), [], oX0_known, [167, 57, 168, 169])
def oX0_astray : List pm_OP := [(0, .aload_n 0, 1, 0, .int 0, [], []),
  (1, .invokevirtual 88, 3, 26, .int 0, [0, 0, 165], []),
  (4, .istore_n 2, 1, 0, .int 0, [], []),
  (5, .aload_n 0, 1, 0, .int 0, [], []),
  (6, .iload_n 1, 1, 0, .int 0, [], []),
  (7, .invokevirtual 91, 3, 20, .int 0, [1, 0, 166], []),
  (10, .istore_n 3, 1, 0, .int 0, [], []),
  (11, .iconst 0, 1, 0, .int (0), [], []),
  (12, .istore 4, 2, 0, .int 0, [], []),
  (14, .iload 4, 2, 0, .int 0, [], []),
  (16, .bipush 10, 2, 0, .int (10), [], []),
  (18, .if_icmp .ge 34, 3, 28, .int 0, [], []),
  (21, .iload_n 2, 1, 0, .int 0, [], []),
  (22, .iload_n 3, 1, 0, .int 0, [], []),
  (23, .iload 4, 2, 0, .int 0, [], []),
  (25, .isub, 1, 0, .int 0, [], []),
  (26, .invokestatic 84, 3, 103, .long 0, [2, 0], []),
  (29, .ifCond .ne 14, 3, 24, .int 0, [], []),
  (32, .iload_n 2, 1, 0, .int 0, [], []),
  (33, .iload_n 3, 1, 0, .int 0, [], []),
  (34, .iload 4, 2, 0, .int 0, [], []),
  (36, .iadd, 1, 0, .int 0, [], []),
  (37, .invokestatic 84, 3, 103, .long 0, [2, 0], []),
  (40, .ifCond .eq 6, 3, 26, .int 0, [], []),
  (43, .iload 4, 2, 0, .int 0, [], []),
  (45, .ireturn, 1, 0, .int 0, [], []),
  (46, .iinc 4 1, 3, 0, .int (1), [], []),
  (49, .goto (-35), 3, 9, .int 0, [], []),
  (52, .bipush (-9), 2, 0, .int (-9), [], []),
  (54, .ireturn, 1, 0, .int 0, [], [])]
def tX0_astray : pm_M := (({ cls := "AntLease$House", name := "astray", desc := "(I)I" } : Jvm.MethodName), prog_2_method_31_code, 5, (Option.some Jvm.ClassFile.FieldType.int), [], oX0_astray, [170, 57, 171, 172])
def oX0_endQuarter : List pm_OP := [(0, .aload_n 0, 1, 0, .int 0, [], []),
  (1, .invokevirtual 94, 3, 25, .int 0, [0, 0, 173], []),
  (4, .istore_n 1, 1, 0, .int 0, [], []),
  (5, .aload_n 0, 1, 0, .int 0, [], []),
  (6, .invokevirtual 74, 3, 10, .int 0, [0, 0, 157], []),
  (9, .iload_n 1, 1, 0, .int 0, [], []),
  (10, .ifCond .le 7, 3, 9, .int 0, [], []),
  (13, .iconst (-1), 1, 0, .int (-1), [], []),
  (14, .goto 4, 3, 10, .int 0, [], []),
  (17, .iconst 1, 1, 0, .int (1), [], []),
  (18, .iadd, 1, 0, .int 0, [], []),
  (19, .aload_n 0, 1, 0, .int 0, [], []),
  (20, .invokevirtual 77, 3, 12, .int 0, [0, 0, 158], []),
  (23, .invokestatic 97, 3, 168, .int 0, [1, 174], []),
  (26, .isub, 1, 0, .int 0, [], []),
  (27, .istore_n 2, 1, 0, .int 0, [], []),
  (28, .aload_n 0, 1, 0, .int 0, [], []),
  (29, .bipush 24, 2, 0, .int (24), [], []),
  (31, .iconst 0, 1, 0, .int (0), [], []),
  (32, .bipush 9, 2, 0, .int (9), [], []),
  (34, .iload_n 2, 1, 0, .int 0, [], []),
  (35, .invokestatic 102, 3, 0, .ref 2, [175, 176, 151, 177], []),
  (38, .invokestatic 66, 3, 0, .ref 1, [149, 150, 151, 152], []),
  (41, .invokevirtual 19, 3, 1, .int 0, [2, 0, 64], []),
  (44, .aload_n 0, 1, 0, .int 0, [], []),
  (45, .bipush 25, 2, 0, .int (25), [], []),
  (47, .iload_n 1, 1, 0, .int 0, [], []),
  (48, .ifCond .le 12, 3, 33, .int 0, [], []),
  (51, .aload_n 0, 1, 0, .int 0, [], []),
  (52, .invokevirtual 105, 3, 11, .int 0, [0, 0, 178], []),
  (55, .iload_n 1, 1, 0, .int 0, [], []),
  (56, .iadd, 1, 0, .int 0, [], []),
  (57, .goto 4, 3, 34, .int 0, [], []),
  (60, .iconst 0, 1, 0, .int (0), [], []),
  (61, .invokevirtual 19, 3, 1, .int 0, [2, 0, 64], []),
  (64, .iconst 0, 1, 0, .int (0), [], []),
  (65, .istore_n 3, 1, 0, .int 0, [], []),
  (66, .iload_n 3, 1, 0, .int 0, [], []),
  (67, .aload_n 0, 1, 0, .int 0, [], []),
  (68, .invokevirtual 41, 3, 7, .int 0, [0, 0, 84], []),
  (71, .if_icmp .ge 27, 3, 55, .int 0, [], []),
  (74, .aload_n 0, 1, 0, .int 0, [], []),
  (75, .bipush 8, 2, 0, .int (8), [], []),
  (77, .iload_n 3, 1, 0, .int 0, [], []),
  (78, .iadd, 1, 0, .int 0, [], []),
  (79, .iconst 0, 1, 0, .int (0), [], []),
  (80, .invokevirtual 19, 3, 1, .int 0, [2, 0, 64], []),
  (83, .aload_n 0, 1, 0, .int 0, [], []),
  (84, .bipush 12, 2, 0, .int (12), [], []),
  (86, .iload_n 3, 1, 0, .int 0, [], []),
  (87, .iadd, 1, 0, .int 0, [], []),
  (88, .iconst 0, 1, 0, .int (0), [], []),
  (89, .invokevirtual 19, 3, 1, .int 0, [2, 0, 64], []),
  (92, .iinc 3 1, 3, 0, .int (1), [], []),
  (95, .goto (-29), 3, 37, .int 0, [], []),
  (98, .aload_n 0, 1, 0, .int 0, [], []),
  (99, .bipush 26, 2, 0, .int (26), [], []),
  (101, .iconst 0, 1, 0, .int (0), [], []),
  (102, .invokevirtual 19, 3, 1, .int 0, [2, 0, 64], []),
  (105, .aload_n 0, 1, 0, .int 0, [], []),
  (106, .bipush 27, 2, 0, .int (27), [], []),
  (108, .iconst 1, 1, 0, .int (1), [], []),
  (109, .invokevirtual 44, 3, 2, .int 0, [2, 0, 85], []),
  (112, .aload_n 0, 1, 0, .int 0, [], []),
  (113, .invokevirtual 74, 3, 10, .int 0, [0, 0, 157], []),
  (116, .ireturn, 1, 0, .int 0, [], [])]
def tX0_endQuarter : pm_M := (({ cls := "AntLease$House", name := "endQuarter", desc := "()I" } : Jvm.MethodName), prog_2_method_32_code, 4, (Option.some Jvm.ClassFile.FieldType.int), [], oX0_endQuarter, [179, 57, 180, 181])
def oX0_refusal : List pm_OP := [(0, .aload_n 0, 1, 0, .int 0, [], []),
  (1, .iload_n 1, 1, 0, .int 0, [], []),
  (2, .invokevirtual 108, 3, 14, .int 0, [1, 0, 182], []),
  (5, .ifCond .ne 5, 3, 6, .int 0, [], []),
  (8, .iconst (-1), 1, 0, .int (-1), [], []),
  (9, .ireturn, 1, 0, .int 0, [], []),
  (10, .iload_n 2, 1, 0, .int 0, [], []),
  (11, .iconst 1, 1, 0, .int (1), [], []),
  (12, .if_icmp .lt 9, 3, 12, .int 0, [], []),
  (15, .iload_n 2, 1, 0, .int 0, [], []),
  (16, .bipush 9, 2, 0, .int (9), [], []),
  (18, .if_icmp .le 8, 3, 14, .int 0, [], []),
  (21, .bipush (-2), 2, 0, .int (-2), [], []),
  (23, .goto 4, 3, 15, .int 0, [], []),
  (26, .iconst 0, 1, 0, .int (0), [], []),
  (27, .ireturn, 1, 0, .int 0, [], [])]
def tX0_refusal : pm_M := (({ cls := "AntLease$House", name := "refusal", desc := "(II)I" } : Jvm.MethodName), prog_2_method_33_code, 3, (Option.some Jvm.ClassFile.FieldType.int), [], oX0_refusal, [183, 57, 184, 185])
def oX0_putUp : List pm_OP := [(0, .aload_n 0, 1, 0, .int 0, [], []),
  (1, .iload_n 1, 1, 0, .int 0, [], []),
  (2, .iload_n 2, 1, 0, .int 0, [], []),
  (3, .invokevirtual 112, 3, 31, .int 0, [2, 0, 186], []),
  (6, .ifCond .ge 10, 3, 10, .int 0, [], []),
  (9, .aload_n 0, 1, 0, .int 0, [], []),
  (10, .iload_n 1, 1, 0, .int 0, [], []),
  (11, .iload_n 2, 1, 0, .int 0, [], []),
  (12, .invokevirtual 112, 3, 31, .int 0, [2, 0, 186], []),
  (15, .ireturn, 1, 0, .int 0, [], []),
  (16, .aload_n 0, 1, 0, .int 0, [], []),
  (17, .iload_n 1, 1, 0, .int 0, [], []),
  (18, .invokevirtual 115, 3, 17, .int 0, [1, 0, 187], []),
  (21, .iload_n 2, 1, 0, .int 0, [], []),
  (22, .iadd, 1, 0, .int 0, [], []),
  (23, .sipush 999, 3, 0, .int (999), [], []),
  (26, .if_icmp .le 6, 3, 19, .int 0, [], []),
  (29, .bipush (-4), 2, 0, .int (-4), [], []),
  (31, .ireturn, 1, 0, .int 0, [], []),
  (32, .aload_n 0, 1, 0, .int 0, [], []),
  (33, .iconst 4, 1, 0, .int (4), [], []),
  (34, .iload_n 1, 1, 0, .int 0, [], []),
  (35, .iadd, 1, 0, .int 0, [], []),
  (36, .iload_n 2, 1, 0, .int 0, [], []),
  (37, .invokevirtual 44, 3, 2, .int 0, [2, 0, 85], []),
  (40, .aload_n 0, 1, 0, .int 0, [], []),
  (41, .bipush 12, 2, 0, .int (12), [], []),
  (43, .iload_n 1, 1, 0, .int 0, [], []),
  (44, .iadd, 1, 0, .int 0, [], []),
  (45, .iload_n 2, 1, 0, .int 0, [], []),
  (46, .invokevirtual 44, 3, 2, .int 0, [2, 0, 85], []),
  (49, .aload_n 0, 1, 0, .int 0, [], []),
  (50, .iload_n 1, 1, 0, .int 0, [], []),
  (51, .invokevirtual 115, 3, 17, .int 0, [1, 0, 187], []),
  (54, .ireturn, 1, 0, .int 0, [], [])]
def tX0_putUp : pm_M := (({ cls := "AntLease$House", name := "putUp", desc := "(II)I" } : Jvm.MethodName), prog_2_method_34_code, 3, (Option.some Jvm.ClassFile.FieldType.int), [], oX0_putUp, [188, 57, 189, 190])
def oX0_eatUp : List pm_OP := [(0, .aload_n 0, 1, 0, .int 0, [], []),
  (1, .iload_n 1, 1, 0, .int 0, [], []),
  (2, .iload_n 2, 1, 0, .int 0, [], []),
  (3, .invokevirtual 112, 3, 31, .int 0, [2, 0, 186], []),
  (6, .ifCond .ge 10, 3, 10, .int 0, [], []),
  (9, .aload_n 0, 1, 0, .int 0, [], []),
  (10, .iload_n 1, 1, 0, .int 0, [], []),
  (11, .iload_n 2, 1, 0, .int 0, [], []),
  (12, .invokevirtual 112, 3, 31, .int 0, [2, 0, 186], []),
  (15, .ireturn, 1, 0, .int 0, [], []),
  (16, .aload_n 0, 1, 0, .int 0, [], []),
  (17, .iload_n 1, 1, 0, .int 0, [], []),
  (18, .invokevirtual 115, 3, 17, .int 0, [1, 0, 187], []),
  (21, .iload_n 2, 1, 0, .int 0, [], []),
  (22, .if_icmp .ge 6, 3, 17, .int 0, [], []),
  (25, .bipush (-3), 2, 0, .int (-3), [], []),
  (27, .ireturn, 1, 0, .int 0, [], []),
  (28, .aload_n 0, 1, 0, .int 0, [], []),
  (29, .iconst 4, 1, 0, .int (4), [], []),
  (30, .iload_n 1, 1, 0, .int 0, [], []),
  (31, .iadd, 1, 0, .int 0, [], []),
  (32, .iload_n 2, 1, 0, .int 0, [], []),
  (33, .ineg, 1, 0, .int 0, [], []),
  (34, .invokevirtual 44, 3, 2, .int 0, [2, 0, 85], []),
  (37, .aload_n 0, 1, 0, .int 0, [], []),
  (38, .iload_n 1, 1, 0, .int 0, [], []),
  (39, .invokevirtual 115, 3, 17, .int 0, [1, 0, 187], []),
  (42, .ireturn, 1, 0, .int 0, [], [])]
def tX0_eatUp : pm_M := (({ cls := "AntLease$House", name := "eatUp", desc := "(II)I" } : Jvm.MethodName), prog_2_method_35_code, 3, (Option.some Jvm.ClassFile.FieldType.int), [], oX0_eatUp, [191, 57, 192, 193])
def oX0_leaveOut : List pm_OP := [(0, .aload_n 0, 1, 0, .int 0, [], []),
  (1, .iload_n 1, 1, 0, .int 0, [], []),
  (2, .iload_n 2, 1, 0, .int 0, [], []),
  (3, .invokevirtual 112, 3, 31, .int 0, [2, 0, 186], []),
  (6, .ifCond .ge 10, 3, 10, .int 0, [], []),
  (9, .aload_n 0, 1, 0, .int 0, [], []),
  (10, .iload_n 1, 1, 0, .int 0, [], []),
  (11, .iload_n 2, 1, 0, .int 0, [], []),
  (12, .invokevirtual 112, 3, 31, .int 0, [2, 0, 186], []),
  (15, .ireturn, 1, 0, .int 0, [], []),
  (16, .iload_n 2, 1, 0, .int 0, [], []),
  (17, .aload_n 0, 1, 0, .int 0, [], []),
  (18, .iload_n 1, 1, 0, .int 0, [], []),
  (19, .invokevirtual 118, 3, 23, .int 0, [1, 0, 194], []),
  (22, .imul, 1, 0, .int 0, [], []),
  (23, .istore_n 3, 1, 0, .int 0, [], []),
  (24, .aload_n 0, 1, 0, .int 0, [], []),
  (25, .iload_n 1, 1, 0, .int 0, [], []),
  (26, .invokevirtual 115, 3, 17, .int 0, [1, 0, 187], []),
  (29, .iload_n 3, 1, 0, .int 0, [], []),
  (30, .if_icmp .ge 6, 3, 23, .int 0, [], []),
  (33, .bipush (-3), 2, 0, .int (-3), [], []),
  (35, .ireturn, 1, 0, .int 0, [], []),
  (36, .aload_n 0, 1, 0, .int 0, [], []),
  (37, .iconst 4, 1, 0, .int (4), [], []),
  (38, .iload_n 1, 1, 0, .int 0, [], []),
  (39, .iadd, 1, 0, .int 0, [], []),
  (40, .iload_n 3, 1, 0, .int 0, [], []),
  (41, .ineg, 1, 0, .int 0, [], []),
  (42, .invokevirtual 44, 3, 2, .int 0, [2, 0, 85], []),
  (45, .aload_n 0, 1, 0, .int 0, [], []),
  (46, .bipush 8, 2, 0, .int (8), [], []),
  (48, .iload_n 1, 1, 0, .int 0, [], []),
  (49, .iadd, 1, 0, .int 0, [], []),
  (50, .iload_n 3, 1, 0, .int 0, [], []),
  (51, .invokevirtual 44, 3, 2, .int 0, [2, 0, 85], []),
  (54, .aload_n 0, 1, 0, .int 0, [], []),
  (55, .iload_n 1, 1, 0, .int 0, [], []),
  (56, .invokevirtual 121, 3, 18, .int 0, [1, 0, 195], []),
  (59, .ireturn, 1, 0, .int 0, [], [])]
def tX0_leaveOut : pm_M := (({ cls := "AntLease$House", name := "leaveOut", desc := "(II)I" } : Jvm.MethodName), prog_2_method_36_code, 4, (Option.some Jvm.ClassFile.FieldType.int), [], oX0_leaveOut, [196, 57, 197, 198])
def oX0_carry : List pm_OP := [(0, .aload_n 0, 1, 0, .int 0, [], []),
  (1, .iload_n 1, 1, 0, .int 0, [], []),
  (2, .invokevirtual 124, 3, 15, .int 0, [1, 0, 199], []),
  (5, .ifCond .eq 10, 3, 7, .int 0, [], []),
  (8, .iload_n 2, 1, 0, .int 0, [], []),
  (9, .invokestatic 127, 3, 102, .long 0, [1, 1], []),
  (12, .ifCond .ne 5, 3, 9, .int 0, [], []),
  (15, .iconst (-1), 1, 0, .int (-1), [], []),
  (16, .ireturn, 1, 0, .int 0, [], []),
  (17, .iload_n 2, 1, 0, .int 0, [], []),
  (18, .aload_n 0, 1, 0, .int 0, [], []),
  (19, .iload_n 1, 1, 0, .int 0, [], []),
  (20, .invokevirtual 91, 3, 20, .int 0, [1, 0, 166], []),
  (23, .isub, 1, 0, .int 0, [], []),
  (24, .invokestatic 130, 3, 0, .float 0, [200, 201, 151, 202], []),
  (27, .istore_n 3, 1, 0, .int 0, [], []),
  (28, .iload_n 3, 1, 0, .int 0, [], []),
  (29, .ifCond .ne 6, 3, 20, .int 0, [], []),
  (32, .bipush (-3), 2, 0, .int (-3), [], []),
  (34, .ireturn, 1, 0, .int 0, [], []),
  (35, .aload_n 0, 1, 0, .int 0, [], []),
  (36, .bipush 16, 2, 0, .int (16), [], []),
  (38, .iload_n 1, 1, 0, .int 0, [], []),
  (39, .iadd, 1, 0, .int 0, [], []),
  (40, .iload_n 2, 1, 0, .int 0, [], []),
  (41, .invokevirtual 19, 3, 1, .int 0, [2, 0, 64], []),
  (44, .iload_n 3, 1, 0, .int 0, [], []),
  (45, .ireturn, 1, 0, .int 0, [], [])]
def tX0_carry : pm_M := (({ cls := "AntLease$House", name := "carry", desc := "(II)I" } : Jvm.MethodName), prog_2_method_37_code, 4, (Option.some Jvm.ClassFile.FieldType.int), [], oX0_carry, [203, 57, 204, 205])
def oX0_strew : List pm_OP := [(0, .iload_n 1, 1, 0, .int 0, [], []),
  (1, .invokestatic 127, 3, 102, .long 0, [1, 1], []),
  (4, .ifCond .ne 5, 3, 5, .int 0, [], []),
  (7, .iconst (-1), 1, 0, .int (-1), [], []),
  (8, .ireturn, 1, 0, .int 0, [], []),
  (9, .aload_n 0, 1, 0, .int 0, [], []),
  (10, .invokevirtual 77, 3, 12, .int 0, [0, 0, 158], []),
  (13, .iload_n 1, 1, 0, .int 0, [], []),
  (14, .invokestatic 84, 3, 103, .long 0, [2, 0], []),
  (17, .ifCond .eq 6, 3, 12, .int 0, [], []),
  (20, .bipush (-3), 2, 0, .int (-3), [], []),
  (22, .ireturn, 1, 0, .int 0, [], []),
  (23, .aload_n 0, 1, 0, .int 0, [], []),
  (24, .bipush 26, 2, 0, .int (26), [], []),
  (26, .aload_n 0, 1, 0, .int 0, [], []),
  (27, .invokevirtual 77, 3, 12, .int 0, [0, 0, 158], []),
  (30, .iconst 1, 1, 0, .int (1), [], []),
  (31, .iload_n 1, 1, 0, .int 0, [], []),
  (32, .ishl, 1, 0, .int 0, [], []),
  (33, .ior, 1, 0, .int 0, [], []),
  (34, .invokevirtual 19, 3, 1, .int 0, [2, 0, 64], []),
  (37, .aload_n 0, 1, 0, .int 0, [], []),
  (38, .invokevirtual 77, 3, 12, .int 0, [0, 0, 158], []),
  (41, .invokestatic 97, 3, 168, .int 0, [1, 174], []),
  (44, .ireturn, 1, 0, .int 0, [], [])]
def tX0_strew : pm_M := (({ cls := "AntLease$House", name := "strew", desc := "(I)I" } : Jvm.MethodName), prog_2_method_38_code, 2, (Option.some Jvm.ClassFile.FieldType.int), [], oX0_strew, [206, 57, 207, 208])
def oX1_grains : List pm_OP := [(0, .aload_n 0, 1, 0, .int 0, [], []),
  (1, .getfield 9, 3, 0, .int 0, [1, 209], []),
  (4, .ireturn, 1, 0, .int 0, [], [])]
def tX1_grains : pm_M := (({ cls := "AntLease$Least", name := "grains", desc := "()I" } : Jvm.MethodName), prog_3_method_2_code, 1, (Option.some Jvm.ClassFile.FieldType.int), [], oX1_grains, [210, 211, 212, 213])
def oX1_figures : List pm_OP := [(0, .aload_n 0, 1, 0, .int 0, [], []),
  (1, .getfield 15, 3, 1, .int 0, [1, 214], []),
  (4, .ireturn, 1, 0, .int 0, [], [])]
def tX1_figures : pm_M := (({ cls := "AntLease$Least", name := "figures", desc := "()I" } : Jvm.MethodName), prog_3_method_3_code, 1, (Option.some Jvm.ClassFile.FieldType.int), [], oX1_figures, [215, 211, 216, 217])
def oX1_find : List pm_OP := [(0, .aload_n 0, 1, 0, .int 0, [], []),
  (1, .bipush (-9), 2, 0, .int (-9), [], []),
  (3, .putfield 9, 3, 0, .int 0, [1, 209], []),
  (6, .aload_n 0, 1, 0, .int 0, [], []),
  (7, .bipush (-9), 2, 0, .int (-9), [], []),
  (9, .putfield 15, 3, 1, .int 0, [1, 214], []),
  (12, .aload_n 0, 1, 0, .int 0, [], []),
  (13, .aload_n 1, 1, 0, .int 0, [], []),
  (14, .iconst 0, 1, 0, .int (0), [], []),
  (15, .aload_n 1, 1, 0, .int 0, [], []),
  (16, .invokevirtual 18, 3, 25, .int 0, [0, 0, 218], []),
  (19, .iconst 0, 1, 0, .int (0), [], []),
  (20, .iconst 0, 1, 0, .int (0), [], []),
  (21, .invokestatic 24, 3, 40, .int 0, [6, 219], []),
  (24, .return_, 1, 0, .int 0, [], [])]
def tX1_find : pm_M := (({ cls := "AntLease$Least", name := "find", desc := "(LAntLease$House;)V" } : Jvm.MethodName), prog_3_method_4_code, 2, (Option.none : Option Jvm.ClassFile.FieldType), [], oX1_find, [220, 211, 221, 222])
def oX1_tryFood : List pm_OP := [(0, .iload_n 2, 1, 0, .int 0, [], []),
  (1, .aload_n 1, 1, 0, .int 0, [], []),
  (2, .invokevirtual 28, 3, 7, .int 0, [0, 0, 223], []),
  (5, .if_icmp .ge 8, 3, 7, .int 0, [], []),
  (8, .iload_n 2, 1, 0, .int 0, [], []),
  (9, .iconst 4, 1, 0, .int (4), [], []),
  (10, .if_icmp .lt 20, 3, 16, .int 0, [], []),
  (13, .iload_n 3, 1, 0, .int 0, [], []),
  (14, .ifCond .gt 15, 3, 15, .int 0, [], []),
  (17, .aload_n 0, 1, 0, .int 0, [], []),
  (18, .iload 4, 2, 0, .int 0, [], []),
  (20, .putfield 9, 3, 0, .int 0, [1, 209], []),
  (23, .aload_n 0, 1, 0, .int 0, [], []),
  (24, .iload 5, 2, 0, .int 0, [], []),
  (26, .putfield 15, 3, 1, .int 0, [1, 214], []),
  (29, .return_, 1, 0, .int 0, [], []),
  (30, .iconst 0, 1, 0, .int (0), [], []),
  (31, .istore 6, 2, 0, .int 0, [], []),
  (33, .iload 6, 2, 0, .int 0, [], []),
  (35, .bipush 9, 2, 0, .int (9), [], []),
  (37, .if_icmp .gt 105, 3, 77, .int 0, [], []),
  (40, .iload 6, 2, 0, .int 0, [], []),
  (42, .aload_n 1, 1, 0, .int 0, [], []),
  (43, .iload_n 2, 1, 0, .int 0, [], []),
  (44, .invokevirtual 31, 3, 23, .int 0, [1, 0, 224], []),
  (47, .imul, 1, 0, .int 0, [], []),
  (48, .istore 7, 2, 0, .int 0, [], []),
  (50, .aload_n 0, 1, 0, .int 0, [], []),
  (51, .getfield 9, 3, 0, .int 0, [1, 209], []),
  (54, .bipush (-9), 2, 0, .int (-9), [], []),
  (56, .if_icmp .eq 19, 3, 39, .int 0, [], []),
  (59, .iload 4, 2, 0, .int 0, [], []),
  (61, .iload 7, 2, 0, .int 0, [], []),
  (63, .iadd, 1, 0, .int 0, [], []),
  (64, .aload_n 0, 1, 0, .int 0, [], []),
  (65, .getfield 9, 3, 0, .int 0, [1, 209], []),
  (68, .if_icmp .lt 7, 3, 39, .int 0, [], []),
  (71, .iconst 1, 1, 0, .int (1), [], []),
  (72, .goto 4, 3, 40, .int 0, [], []),
  (75, .iconst 0, 1, 0, .int (0), [], []),
  (76, .istore 8, 2, 0, .int 0, [], []),
  (78, .iload 8, 2, 0, .int 0, [], []),
  (80, .ifCond .ne 62, 3, 77, .int 0, [], []),
  (83, .iload 7, 2, 0, .int 0, [], []),
  (85, .aload_n 1, 1, 0, .int 0, [], []),
  (86, .iload_n 2, 1, 0, .int 0, [], []),
  (87, .invokevirtual 35, 3, 17, .int 0, [1, 0, 225], []),
  (90, .if_icmp .le 6, 3, 49, .int 0, [], []),
  (93, .goto 49, 3, 77, .int 0, [], []),
  (96, .aload_n 1, 1, 0, .int 0, [], []),
  (97, .iload_n 2, 1, 0, .int 0, [], []),
  (98, .iload 7, 2, 0, .int 0, [], []),
  (100, .invokevirtual 38, 3, 22, .int 0, [2, 0, 226], []),
  (103, .aload_n 1, 1, 0, .int 0, [], []),
  (104, .iload_n 2, 1, 0, .int 0, [], []),
  (105, .invokevirtual 42, 3, 21, .int 0, [1, 0, 227], []),
  (108, .isub, 1, 0, .int 0, [], []),
  (109, .istore 9, 2, 0, .int 0, [], []),
  (111, .aload_n 0, 1, 0, .int 0, [], []),
  (112, .aload_n 1, 1, 0, .int 0, [], []),
  (113, .iload_n 2, 1, 0, .int 0, [], []),
  (114, .iconst 1, 1, 0, .int (1), [], []),
  (115, .iadd, 1, 0, .int 0, [], []),
  (116, .iload_n 3, 1, 0, .int 0, [], []),
  (117, .iload 9, 2, 0, .int 0, [], []),
  (119, .isub, 1, 0, .int 0, [], []),
  (120, .iload 4, 2, 0, .int 0, [], []),
  (122, .iload 7, 2, 0, .int 0, [], []),
  (124, .iadd, 1, 0, .int 0, [], []),
  (125, .bipush 10, 2, 0, .int (10), [], []),
  (127, .iload 5, 2, 0, .int 0, [], []),
  (129, .imul, 1, 0, .int 0, [], []),
  (130, .iload 6, 2, 0, .int 0, [], []),
  (132, .iadd, 1, 0, .int 0, [], []),
  (133, .invokestatic 24, 3, 40, .int 0, [6, 219], []),
  (136, .iinc 6 1, 3, 0, .int (1), [], []),
  (139, .goto (-106), 3, 18, .int 0, [], []),
  (142, .return_, 1, 0, .int 0, [], [])]
def tX1_tryFood : pm_M := (({ cls := "AntLease$Least", name := "tryFood", desc := "(LAntLease$Least;LAntLease$House;IIII)V" } : Jvm.MethodName), prog_3_method_5_code, 10, (Option.none : Option Jvm.ClassFile.FieldType), [], oX1_tryFood, [228, 211, 229])
def oX2_size : List pm_OP := [(0, .aload_n 0, 1, 0, .int 0, [], []),
  (1, .getfield 21, 3, 2, .int 0, [2, 230], []),
  (4, .ireturn, 1, 0, .int 0, [], [])]
def tX2_size : pm_M := (({ cls := "AntLease$Past", name := "size", desc := "()I" } : Jvm.MethodName), prog_4_method_2_code, 1, (Option.some Jvm.ClassFile.FieldType.int), [], oX2_size, [231, 232, 233, 234])
def oX2_forget : List pm_OP := [(0, .aload_n 0, 1, 0, .int 0, [], []),
  (1, .iconst 0, 1, 0, .int (0), [], []),
  (2, .putfield 21, 3, 2, .int 0, [2, 230], []),
  (5, .return_, 1, 0, .int 0, [], [])]
def tX2_forget : pm_M := (({ cls := "AntLease$Past", name := "forget", desc := "()V" } : Jvm.MethodName), prog_4_method_3_code, 1, (Option.none : Option Jvm.ClassFile.FieldType), [], oX2_forget, [235, 232, 236, 237])
def oX2_next : List pm_OP := [(0, .aload_n 0, 1, 0, .int 0, [], []),
  (1, .getfield 17, 3, 1, .int 0, [2, 238], []),
  (4, .aload_n 0, 1, 0, .int 0, [], []),
  (5, .getfield 21, 3, 2, .int 0, [2, 230], []),
  (8, .iadd, 1, 0, .int 0, [], []),
  (9, .bipush 15, 2, 0, .int (15), [], []),
  (11, .irem, 1, 0, .int 0, [], []),
  (12, .ireturn, 1, 0, .int 0, [], [])]
def tX2_next : pm_M := (({ cls := "AntLease$Past", name := "next", desc := "()I" } : Jvm.MethodName), prog_4_method_4_code, 1, (Option.some Jvm.ClassFile.FieldType.int), [], oX2_next, [239, 232, 240, 241])
def oX2_note : List pm_OP := [(0, .aload_n 1, 1, 0, .int 0, [], []),
  (1, .aload_n 0, 1, 0, .int 0, [], []),
  (2, .getfield 13, 3, 0, .int 0, [2, 242], []),
  (5, .aload_n 0, 1, 0, .int 0, [], []),
  (6, .invokevirtual 24, 3, 43, .int 0, [0, 2, 243], []),
  (9, .invokevirtual 28, 3, 4, .int 0, [2, 0, 244], []),
  (12, .return_, 1, 0, .int 0, [], [])]
def tX2_note : pm_M := (({ cls := "AntLease$Past", name := "note", desc := "(LAntLease$House;)V" } : Jvm.MethodName), prog_4_method_5_code, 2, (Option.none : Option Jvm.ClassFile.FieldType), [], oX2_note, [245, 232, 246, 247])
def oX2_settle : List pm_OP := [(0, .iload_n 1, 1, 0, .int 0, [], []),
  (1, .ifCond .lt 25, 3, 13, .int 0, [], []),
  (4, .aload_n 0, 1, 0, .int 0, [], []),
  (5, .getfield 21, 3, 2, .int 0, [2, 230], []),
  (8, .bipush 14, 2, 0, .int (14), [], []),
  (10, .if_icmp .ge 16, 3, 13, .int 0, [], []),
  (13, .aload_n 0, 1, 0, .int 0, [], []),
  (14, .dup, 1, 0, .int 0, [], []),
  (15, .getfield 21, 3, 2, .int 0, [2, 230], []),
  (18, .iconst 1, 1, 0, .int (1), [], []),
  (19, .iadd, 1, 0, .int 0, [], []),
  (20, .putfield 21, 3, 2, .int 0, [2, 230], []),
  (23, .goto 20, 3, 23, .int 0, [], []),
  (26, .iload_n 1, 1, 0, .int 0, [], []),
  (27, .ifCond .lt 16, 3, 23, .int 0, [], []),
  (30, .aload_n 0, 1, 0, .int 0, [], []),
  (31, .aload_n 0, 1, 0, .int 0, [], []),
  (32, .getfield 17, 3, 1, .int 0, [2, 238], []),
  (35, .iconst 1, 1, 0, .int (1), [], []),
  (36, .iadd, 1, 0, .int 0, [], []),
  (37, .bipush 15, 2, 0, .int (15), [], []),
  (39, .irem, 1, 0, .int 0, [], []),
  (40, .putfield 17, 3, 1, .int 0, [2, 238], []),
  (43, .iload_n 1, 1, 0, .int 0, [], []),
  (44, .ireturn, 1, 0, .int 0, [], [])]
def tX2_settle : pm_M := (({ cls := "AntLease$Past", name := "settle", desc := "(I)I" } : Jvm.MethodName), prog_4_method_6_code, 2, (Option.some Jvm.ClassFile.FieldType.int), [], oX2_settle, [248, 232, 249, 250])
def oX2_takeBack : List pm_OP := [(0, .aload_n 0, 1, 0, .int 0, [], []),
  (1, .getfield 21, 3, 2, .int 0, [2, 230], []),
  (4, .ifCond .ne 6, 3, 5, .int 0, [], []),
  (7, .bipush (-3), 2, 0, .int (-3), [], []),
  (9, .ireturn, 1, 0, .int 0, [], []),
  (10, .aload_n 0, 1, 0, .int 0, [], []),
  (11, .dup, 1, 0, .int 0, [], []),
  (12, .getfield 21, 3, 2, .int 0, [2, 230], []),
  (15, .iconst 1, 1, 0, .int (1), [], []),
  (16, .isub, 1, 0, .int 0, [], []),
  (17, .putfield 21, 3, 2, .int 0, [2, 230], []),
  (20, .aload_n 1, 1, 0, .int 0, [], []),
  (21, .aload_n 0, 1, 0, .int 0, [], []),
  (22, .getfield 13, 3, 0, .int 0, [2, 242], []),
  (25, .aload_n 0, 1, 0, .int 0, [], []),
  (26, .invokevirtual 24, 3, 43, .int 0, [0, 2, 243], []),
  (29, .invokevirtual 32, 3, 5, .int 0, [2, 0, 251], []),
  (32, .aload_n 0, 1, 0, .int 0, [], []),
  (33, .getfield 21, 3, 2, .int 0, [2, 230], []),
  (36, .ireturn, 1, 0, .int 0, [], [])]
def tX2_takeBack : pm_M := (({ cls := "AntLease$Past", name := "takeBack", desc := "(LAntLease$House;)I" } : Jvm.MethodName), prog_4_method_7_code, 2, (Option.some Jvm.ClassFile.FieldType.int), [], oX2_takeBack, [252, 232, 253, 254])
def oX3_bit : List pm_OP := [(0, .iconst 1, 1, 0, .int (1), [], []),
  (1, .iconst 3, 1, 0, .int (3), [], []),
  (2, .iload_n 0, 1, 0, .int 0, [], []),
  (3, .imul, 1, 0, .int 0, [], []),
  (4, .iload_n 1, 1, 0, .int 0, [], []),
  (5, .iadd, 1, 0, .int 0, [], []),
  (6, .ishl, 1, 0, .int 0, [], []),
  (7, .ireturn, 1, 0, .int 0, [], [])]
def tX3_bit : pm_M := (({ cls := "AntLease$Rests", name := "bit", desc := "(II)I" } : Jvm.MethodName), prog_5_method_2_code, 2, (Option.some Jvm.ClassFile.FieldType.int), [], oX3_bit, [255, 256, 257])
def oX3_howMany : List pm_OP := [(0, .iconst 0, 1, 0, .int (0), [], []),
  (1, .istore_n 1, 1, 0, .int 0, [], []),
  (2, .iconst 0, 1, 0, .int (0), [], []),
  (3, .istore_n 2, 1, 0, .int 0, [], []),
  (4, .iload_n 2, 1, 0, .int 0, [], []),
  (5, .iconst 3, 1, 0, .int (3), [], []),
  (6, .if_icmp .ge 34, 3, 22, .int 0, [], []),
  (9, .iconst 0, 1, 0, .int (0), [], []),
  (10, .istore_n 3, 1, 0, .int 0, [], []),
  (11, .iload_n 3, 1, 0, .int 0, [], []),
  (12, .iconst 3, 1, 0, .int (3), [], []),
  (13, .if_icmp .ge 21, 3, 20, .int 0, [], []),
  (16, .iload_n 0, 1, 0, .int 0, [], []),
  (17, .iload_n 2, 1, 0, .int 0, [], []),
  (18, .iload_n 3, 1, 0, .int 0, [], []),
  (19, .invokestatic 11, 3, 50, .int 0, [3, 258], []),
  (22, .ifCond .eq 6, 3, 18, .int 0, [], []),
  (25, .iinc 1 1, 3, 0, .int (1), [], []),
  (28, .iinc 3 1, 3, 0, .int (1), [], []),
  (31, .goto (-20), 3, 9, .int 0, [], []),
  (34, .iinc 2 1, 3, 0, .int (1), [], []),
  (37, .goto (-33), 3, 4, .int 0, [], []),
  (40, .iload_n 1, 1, 0, .int 0, [], []),
  (41, .ireturn, 1, 0, .int 0, [], [])]
def tX3_howMany : pm_M := (({ cls := "AntLease$Rests", name := "howMany", desc := "(I)I" } : Jvm.MethodName), prog_5_method_3_code, 4, (Option.some Jvm.ClassFile.FieldType.int), [], oX3_howMany, [259, 256, 260])
def oX3_first : List pm_OP := [(0, .iconst 0, 1, 0, .int (0), [], []),
  (1, .istore_n 1, 1, 0, .int 0, [], []),
  (2, .iload_n 1, 1, 0, .int 0, [], []),
  (3, .iconst 3, 1, 0, .int (3), [], []),
  (4, .if_icmp .ge 38, 3, 25, .int 0, [], []),
  (7, .iconst 0, 1, 0, .int (0), [], []),
  (8, .istore_n 2, 1, 0, .int 0, [], []),
  (9, .iload_n 2, 1, 0, .int 0, [], []),
  (10, .iconst 3, 1, 0, .int (3), [], []),
  (11, .if_icmp .ge 25, 3, 23, .int 0, [], []),
  (14, .iload_n 0, 1, 0, .int 0, [], []),
  (15, .iload_n 1, 1, 0, .int 0, [], []),
  (16, .iload_n 2, 1, 0, .int 0, [], []),
  (17, .invokestatic 11, 3, 50, .int 0, [3, 258], []),
  (20, .ifCond .eq 10, 3, 21, .int 0, [], []),
  (23, .bipush 10, 2, 0, .int (10), [], []),
  (25, .iload_n 1, 1, 0, .int 0, [], []),
  (26, .imul, 1, 0, .int 0, [], []),
  (27, .iload_n 2, 1, 0, .int 0, [], []),
  (28, .iadd, 1, 0, .int 0, [], []),
  (29, .ireturn, 1, 0, .int 0, [], []),
  (30, .iinc 2 1, 3, 0, .int (1), [], []),
  (33, .goto (-24), 3, 7, .int 0, [], []),
  (36, .iinc 1 1, 3, 0, .int (1), [], []),
  (39, .goto (-37), 3, 2, .int 0, [], []),
  (42, .bipush (-9), 2, 0, .int (-9), [], []),
  (44, .ireturn, 1, 0, .int 0, [], [])]
def tX3_first : pm_M := (({ cls := "AntLease$Rests", name := "first", desc := "(I)I" } : Jvm.MethodName), prog_5_method_4_code, 3, (Option.some Jvm.ClassFile.FieldType.int), [], oX3_first, [261, 256, 262])
def oX3_isRest : List pm_OP := [(0, .iconst 0, 1, 0, .int (0), [], []),
  (1, .istore_n 3, 1, 0, .int 0, [], []),
  (2, .iload_n 3, 1, 0, .int 0, [], []),
  (3, .iconst 3, 1, 0, .int (3), [], []),
  (4, .if_icmp .ge 57, 3, 35, .int 0, [], []),
  (7, .iload_n 0, 1, 0, .int 0, [], []),
  (8, .iload_n 3, 1, 0, .int 0, [], []),
  (9, .iload_n 2, 1, 0, .int 0, [], []),
  (10, .invokestatic 15, 3, 47, .int 0, [2, 263], []),
  (13, .iload_n 3, 1, 0, .int 0, [], []),
  (14, .invokestatic 19, 3, 51, .int 0, [3, 264], []),
  (17, .iload_n 0, 1, 0, .int 0, [], []),
  (18, .iload_n 1, 1, 0, .int 0, [], []),
  (19, .iload_n 2, 1, 0, .int 0, [], []),
  (20, .invokestatic 15, 3, 47, .int 0, [2, 263], []),
  (23, .iload_n 1, 1, 0, .int 0, [], []),
  (24, .invokestatic 19, 3, 51, .int 0, [3, 264], []),
  (27, .if_icmp .gt 26, 3, 31, .int 0, [], []),
  (30, .iload_n 0, 1, 0, .int 0, [], []),
  (31, .iload_n 1, 1, 0, .int 0, [], []),
  (32, .iload_n 3, 1, 0, .int 0, [], []),
  (33, .invokestatic 15, 3, 47, .int 0, [2, 263], []),
  (36, .iload_n 3, 1, 0, .int 0, [], []),
  (37, .invokestatic 19, 3, 51, .int 0, [3, 264], []),
  (40, .iload_n 0, 1, 0, .int 0, [], []),
  (41, .iload_n 1, 1, 0, .int 0, [], []),
  (42, .iload_n 2, 1, 0, .int 0, [], []),
  (43, .invokestatic 15, 3, 47, .int 0, [2, 263], []),
  (46, .iload_n 2, 1, 0, .int 0, [], []),
  (47, .invokestatic 19, 3, 51, .int 0, [3, 264], []),
  (50, .if_icmp .le 5, 3, 33, .int 0, [], []),
  (53, .iconst 0, 1, 0, .int (0), [], []),
  (54, .ireturn, 1, 0, .int 0, [], []),
  (55, .iinc 3 1, 3, 0, .int (1), [], []),
  (58, .goto (-56), 3, 2, .int 0, [], []),
  (61, .iconst 1, 1, 0, .int (1), [], []),
  (62, .ireturn, 1, 0, .int 0, [], [])]
def tX3_isRest : pm_M := (({ cls := "AntLease$Rests", name := "isRest", desc := "(III)Z" } : Jvm.MethodName), prog_5_method_5_code, 4, (Option.some Jvm.ClassFile.FieldType.boolean), [], oX3_isRest, [265, 256, 266])
def oX3_gain : List pm_OP := [(0, .iload_n 0, 1, 0, .int 0, [], []),
  (1, .iload_n 1, 1, 0, .int 0, [], []),
  (2, .iand, 1, 0, .int 0, [], []),
  (3, .ifCond .eq 7, 3, 6, .int 0, [], []),
  (6, .iconst 5, 1, 0, .int (5), [], []),
  (7, .goto 4, 3, 7, .int 0, [], []),
  (10, .iconst 0, 1, 0, .int (0), [], []),
  (11, .iload_n 2, 1, 0, .int 0, [], []),
  (12, .isub, 1, 0, .int 0, [], []),
  (13, .ireturn, 1, 0, .int 0, [], [])]
def tX3_gain : pm_M := (({ cls := "AntLease$Rests", name := "gain", desc := "(III)I" } : Jvm.MethodName), prog_5_method_6_code, 3, (Option.some Jvm.ClassFile.FieldType.int), [], oX3_gain, [267, 256, 268])
def oX4_size : List pm_OP := [(0, .aload_n 0, 1, 0, .int 0, [], []),
  (1, .getfield 9, 3, 0, .int 0, [4, 269], []),
  (4, .ireturn, 1, 0, .int 0, [], [])]
def tX4_size : pm_M := (({ cls := "AntLease$Said", name := "size", desc := "()I" } : Jvm.MethodName), prog_6_method_2_code, 1, (Option.some Jvm.ClassFile.FieldType.int), [], oX4_size, [270, 271, 272, 273])
def oX4_add : List pm_OP := [(0, .iload_n 1, 1, 0, .int 0, [], []),
  (1, .invokestatic 21, 3, 102, .long 0, [1, 2], []),
  (4, .ifCond .ne 5, 3, 5, .int 0, [], []),
  (7, .iconst (-1), 1, 0, .int (-1), [], []),
  (8, .ireturn, 1, 0, .int 0, [], []),
  (9, .iload_n 2, 1, 0, .int 0, [], []),
  (10, .ifCond .eq 11, 3, 12, .int 0, [], []),
  (13, .iload_n 2, 1, 0, .int 0, [], []),
  (14, .iconst 1, 1, 0, .int (1), [], []),
  (15, .if_icmp .eq 6, 3, 12, .int 0, [], []),
  (18, .bipush (-2), 2, 0, .int (-2), [], []),
  (20, .ireturn, 1, 0, .int 0, [], []),
  (21, .aload_n 0, 1, 0, .int 0, [], []),
  (22, .getfield 9, 3, 0, .int 0, [4, 269], []),
  (25, .bipush 6, 2, 0, .int (6), [], []),
  (27, .if_icmp .lt 6, 3, 18, .int 0, [], []),
  (30, .bipush (-4), 2, 0, .int (-4), [], []),
  (32, .ireturn, 1, 0, .int 0, [], []),
  (33, .iload_n 2, 1, 0, .int 0, [], []),
  (34, .iconst 1, 1, 0, .int (1), [], []),
  (35, .if_icmp .ne 18, 3, 30, .int 0, [], []),
  (38, .aload_n 0, 1, 0, .int 0, [], []),
  (39, .dup, 1, 0, .int 0, [], []),
  (40, .getfield 15, 3, 1, .int 0, [4, 274], []),
  (43, .iconst 1, 1, 0, .int (1), [], []),
  (44, .iload_n 1, 1, 0, .int 0, [], []),
  (45, .ishl, 1, 0, .int 0, [], []),
  (46, .ior, 1, 0, .int 0, [], []),
  (47, .putfield 15, 3, 1, .int 0, [4, 274], []),
  (50, .goto 15, 3, 38, .int 0, [], []),
  (53, .aload_n 0, 1, 0, .int 0, [], []),
  (54, .dup, 1, 0, .int 0, [], []),
  (55, .getfield 18, 3, 2, .int 0, [4, 275], []),
  (58, .iconst 1, 1, 0, .int (1), [], []),
  (59, .iload_n 1, 1, 0, .int 0, [], []),
  (60, .ishl, 1, 0, .int 0, [], []),
  (61, .ior, 1, 0, .int 0, [], []),
  (62, .putfield 18, 3, 2, .int 0, [4, 275], []),
  (65, .aload_n 0, 1, 0, .int 0, [], []),
  (66, .dup, 1, 0, .int 0, [], []),
  (67, .getfield 9, 3, 0, .int 0, [4, 269], []),
  (70, .iconst 1, 1, 0, .int (1), [], []),
  (71, .iadd, 1, 0, .int 0, [], []),
  (72, .putfield 9, 3, 0, .int 0, [4, 269], []),
  (75, .aload_n 0, 1, 0, .int 0, [], []),
  (76, .getfield 9, 3, 0, .int 0, [4, 269], []),
  (79, .ireturn, 1, 0, .int 0, [], [])]
def tX4_add : pm_M := (({ cls := "AntLease$Said", name := "add", desc := "(II)I" } : Jvm.MethodName), prog_6_method_3_code, 3, (Option.some Jvm.ClassFile.FieldType.int), [], oX4_add, [276, 271, 277, 278])
def oX4_forget : List pm_OP := [(0, .aload_n 0, 1, 0, .int 0, [], []),
  (1, .getfield 9, 3, 0, .int 0, [4, 269], []),
  (4, .istore_n 1, 1, 0, .int 0, [], []),
  (5, .aload_n 0, 1, 0, .int 0, [], []),
  (6, .iconst 0, 1, 0, .int (0), [], []),
  (7, .putfield 9, 3, 0, .int 0, [4, 269], []),
  (10, .aload_n 0, 1, 0, .int 0, [], []),
  (11, .iconst 0, 1, 0, .int (0), [], []),
  (12, .putfield 15, 3, 1, .int 0, [4, 274], []),
  (15, .aload_n 0, 1, 0, .int 0, [], []),
  (16, .iconst 0, 1, 0, .int (0), [], []),
  (17, .putfield 18, 3, 2, .int 0, [4, 275], []),
  (20, .iload_n 1, 1, 0, .int 0, [], []),
  (21, .ireturn, 1, 0, .int 0, [], [])]
def tX4_forget : pm_M := (({ cls := "AntLease$Said", name := "forget", desc := "()I" } : Jvm.MethodName), prog_6_method_4_code, 2, (Option.some Jvm.ClassFile.FieldType.int), [], oX4_forget, [279, 271, 280, 281])
def oX4_isSo : List pm_OP := [(0, .iload_n 1, 1, 0, .int 0, [], []),
  (1, .bipush 10, 2, 0, .int (10), [], []),
  (3, .idiv, 1, 0, .int 0, [], []),
  (4, .iload_n 1, 1, 0, .int 0, [], []),
  (5, .bipush 10, 2, 0, .int (10), [], []),
  (7, .irem, 1, 0, .int 0, [], []),
  (8, .iload_n 2, 1, 0, .int 0, [], []),
  (9, .invokestatic 25, 3, 27, .int 0, [3, 282], []),
  (12, .istore_n 3, 1, 0, .int 0, [], []),
  (13, .iload_n 3, 1, 0, .int 0, [], []),
  (14, .aload_n 0, 1, 0, .int 0, [], []),
  (15, .getfield 15, 3, 1, .int 0, [4, 274], []),
  (18, .iand, 1, 0, .int 0, [], []),
  (19, .aload_n 0, 1, 0, .int 0, [], []),
  (20, .getfield 15, 3, 1, .int 0, [4, 274], []),
  (23, .if_icmp .ne 16, 3, 23, .int 0, [], []),
  (26, .iload_n 3, 1, 0, .int 0, [], []),
  (27, .aload_n 0, 1, 0, .int 0, [], []),
  (28, .getfield 18, 3, 2, .int 0, [4, 275], []),
  (31, .iand, 1, 0, .int 0, [], []),
  (32, .ifCond .ne 7, 3, 23, .int 0, [], []),
  (35, .iconst 1, 1, 0, .int (1), [], []),
  (36, .goto 4, 3, 24, .int 0, [], []),
  (39, .iconst 0, 1, 0, .int (0), [], []),
  (40, .ireturn, 1, 0, .int 0, [], [])]
def tX4_isSo : pm_M := (({ cls := "AntLease$Said", name := "isSo", desc := "(II)Z" } : Jvm.MethodName), prog_6_method_5_code, 4, (Option.some Jvm.ClassFile.FieldType.boolean), [], oX4_isSo, [283, 271, 284, 285])
def oX4_howManyLines : List pm_OP := [(0, .iconst 0, 1, 0, .int (0), [], []),
  (1, .istore_n 2, 1, 0, .int 0, [], []),
  (2, .iconst 0, 1, 0, .int (0), [], []),
  (3, .istore_n 3, 1, 0, .int 0, [], []),
  (4, .iload_n 3, 1, 0, .int 0, [], []),
  (5, .bipush 100, 2, 0, .int (100), [], []),
  (7, .if_icmp .ge 21, 3, 15, .int 0, [], []),
  (10, .aload_n 0, 1, 0, .int 0, [], []),
  (11, .iload_n 3, 1, 0, .int 0, [], []),
  (12, .iload_n 1, 1, 0, .int 0, [], []),
  (13, .invokevirtual 31, 3, 55, .int 0, [2, 4, 286], []),
  (16, .ifCond .eq 6, 3, 13, .int 0, [], []),
  (19, .iinc 2 1, 3, 0, .int (1), [], []),
  (22, .iinc 3 1, 3, 0, .int (1), [], []),
  (25, .goto (-21), 3, 4, .int 0, [], []),
  (28, .iload_n 2, 1, 0, .int 0, [], []),
  (29, .ireturn, 1, 0, .int 0, [], [])]
def tX4_howManyLines : pm_M := (({ cls := "AntLease$Said", name := "howManyLines", desc := "(I)I" } : Jvm.MethodName), prog_6_method_6_code, 4, (Option.some Jvm.ClassFile.FieldType.int), [], oX4_howManyLines, [287, 271, 288, 289])
def oX4_firstLine : List pm_OP := [(0, .iconst 0, 1, 0, .int (0), [], []),
  (1, .istore_n 2, 1, 0, .int 0, [], []),
  (2, .iload_n 2, 1, 0, .int 0, [], []),
  (3, .bipush 100, 2, 0, .int (100), [], []),
  (5, .if_icmp .ge 20, 3, 14, .int 0, [], []),
  (8, .aload_n 0, 1, 0, .int 0, [], []),
  (9, .iload_n 2, 1, 0, .int 0, [], []),
  (10, .iload_n 1, 1, 0, .int 0, [], []),
  (11, .invokevirtual 31, 3, 55, .int 0, [2, 4, 286], []),
  (14, .ifCond .eq 5, 3, 12, .int 0, [], []),
  (17, .iload_n 2, 1, 0, .int 0, [], []),
  (18, .ireturn, 1, 0, .int 0, [], []),
  (19, .iinc 2 1, 3, 0, .int (1), [], []),
  (22, .goto (-20), 3, 2, .int 0, [], []),
  (25, .bipush (-9), 2, 0, .int (-9), [], []),
  (27, .ireturn, 1, 0, .int 0, [], [])]
def tX4_firstLine : pm_M := (({ cls := "AntLease$Said", name := "firstLine", desc := "(I)I" } : Jvm.MethodName), prog_6_method_7_code, 3, (Option.some Jvm.ClassFile.FieldType.int), [], oX4_firstLine, [290, 271, 291, 292])
def oX5_forget : List pm_OP := [(0, .aload_n 0, 1, 0, .int 0, [], []),
  (1, .iconst 0, 1, 0, .int (0), [], []),
  (2, .putfield 17, 3, 1, .int 0, [5, 293], []),
  (5, .return_, 1, 0, .int 0, [], [])]
def tX5_forget : pm_M := (({ cls := "AntLease$Slots", name := "forget", desc := "()V" } : Jvm.MethodName), prog_7_method_2_code, 1, (Option.none : Option Jvm.ClassFile.FieldType), [], oX5_forget, [294, 295, 296, 297])
def oX5_isSlot : List pm_OP := [(0, .iload_n 0, 1, 0, .int 0, [], []),
  (1, .ifCond .lt 12, 3, 7, .int 0, [], []),
  (4, .iload_n 0, 1, 0, .int 0, [], []),
  (5, .iconst 2, 1, 0, .int (2), [], []),
  (6, .if_icmp .ge 7, 3, 7, .int 0, [], []),
  (9, .iconst 1, 1, 0, .int (1), [], []),
  (10, .goto 4, 3, 8, .int 0, [], []),
  (13, .iconst 0, 1, 0, .int (0), [], []),
  (14, .ireturn, 1, 0, .int 0, [], [])]
def tX5_isSlot : pm_M := (({ cls := "AntLease$Slots", name := "isSlot", desc := "(I)Z" } : Jvm.MethodName), prog_7_method_3_code, 1, (Option.some Jvm.ClassFile.FieldType.boolean), [], oX5_isSlot, [298, 295, 299])
def oX5_take : List pm_OP := [(0, .iload_n 1, 1, 0, .int 0, [], []),
  (1, .invokestatic 21, 3, 59, .int 0, [1, 300], []),
  (4, .ifCond .ne 5, 3, 5, .int 0, [], []),
  (7, .iconst (-1), 1, 0, .int (-1), [], []),
  (8, .ireturn, 1, 0, .int 0, [], []),
  (9, .aload_n 2, 1, 0, .int 0, [], []),
  (10, .aload_n 0, 1, 0, .int 0, [], []),
  (11, .getfield 13, 3, 0, .int 0, [5, 301], []),
  (14, .iload_n 1, 1, 0, .int 0, [], []),
  (15, .invokevirtual 25, 3, 4, .int 0, [2, 0, 302], []),
  (18, .aload_n 0, 1, 0, .int 0, [], []),
  (19, .dup, 1, 0, .int 0, [], []),
  (20, .getfield 17, 3, 1, .int 0, [5, 293], []),
  (23, .iconst 1, 1, 0, .int (1), [], []),
  (24, .iload_n 1, 1, 0, .int 0, [], []),
  (25, .ishl, 1, 0, .int 0, [], []),
  (26, .ior, 1, 0, .int 0, [], []),
  (27, .putfield 17, 3, 1, .int 0, [5, 293], []),
  (30, .aload_n 2, 1, 0, .int 0, [], []),
  (31, .invokevirtual 29, 3, 13, .int 0, [0, 0, 303], []),
  (34, .ireturn, 1, 0, .int 0, [], [])]
def tX5_take : pm_M := (({ cls := "AntLease$Slots", name := "take", desc := "(ILAntLease$House;)I" } : Jvm.MethodName), prog_7_method_4_code, 3, (Option.some Jvm.ClassFile.FieldType.int), [], oX5_take, [304, 295, 305, 306])
def oX5_giveBack : List pm_OP := [(0, .iload_n 1, 1, 0, .int 0, [], []),
  (1, .invokestatic 21, 3, 59, .int 0, [1, 300], []),
  (4, .ifCond .ne 5, 3, 5, .int 0, [], []),
  (7, .iconst (-1), 1, 0, .int (-1), [], []),
  (8, .ireturn, 1, 0, .int 0, [], []),
  (9, .aload_n 0, 1, 0, .int 0, [], []),
  (10, .getfield 17, 3, 1, .int 0, [5, 293], []),
  (13, .iload_n 1, 1, 0, .int 0, [], []),
  (14, .ishr, 1, 0, .int 0, [], []),
  (15, .iconst 1, 1, 0, .int (1), [], []),
  (16, .iand, 1, 0, .int 0, [], []),
  (17, .ifCond .ne 6, 3, 14, .int 0, [], []),
  (20, .bipush (-3), 2, 0, .int (-3), [], []),
  (22, .ireturn, 1, 0, .int 0, [], []),
  (23, .aload_n 2, 1, 0, .int 0, [], []),
  (24, .aload_n 0, 1, 0, .int 0, [], []),
  (25, .getfield 13, 3, 0, .int 0, [5, 301], []),
  (28, .iload_n 1, 1, 0, .int 0, [], []),
  (29, .invokevirtual 33, 3, 5, .int 0, [2, 0, 307], []),
  (32, .aload_n 2, 1, 0, .int 0, [], []),
  (33, .invokevirtual 29, 3, 13, .int 0, [0, 0, 303], []),
  (36, .ireturn, 1, 0, .int 0, [], [])]
def tX5_giveBack : pm_M := (({ cls := "AntLease$Slots", name := "giveBack", desc := "(ILAntLease$House;)I" } : Jvm.MethodName), prog_7_method_5_code, 3, (Option.some Jvm.ClassFile.FieldType.int), [], oX5_giveBack, [308, 295, 309, 310])
def oX6_length : List pm_OP := [(0, .aload_n 0, 1, 0, .int 0, [], []),
  (1, .getfield 15, 3, 1, .int 0, [6, 311], []),
  (4, .ireturn, 1, 0, .int 0, [], [])]
def tX6_length : pm_M := (({ cls := "AntLease$Text", name := "length", desc := "()I" } : Jvm.MethodName), prog_8_method_2_code, 1, (Option.some Jvm.ClassFile.FieldType.int), [], oX6_length, [312, 313, 314, 315])
def oX6_add : List pm_OP := [(0, .iload_n 1, 1, 0, .int 0, [], []),
  (1, .ifCond .lt 10, 3, 5, .int 0, [], []),
  (4, .iload_n 1, 1, 0, .int 0, [], []),
  (5, .sipush 255, 3, 0, .int (255), [], []),
  (8, .if_icmp .le 6, 3, 7, .int 0, [], []),
  (11, .bipush (-2), 2, 0, .int (-2), [], []),
  (13, .ireturn, 1, 0, .int 0, [], []),
  (14, .aload_n 0, 1, 0, .int 0, [], []),
  (15, .getfield 15, 3, 1, .int 0, [6, 311], []),
  (18, .bipush 48, 2, 0, .int (48), [], []),
  (20, .if_icmp .lt 6, 3, 13, .int 0, [], []),
  (23, .bipush (-4), 2, 0, .int (-4), [], []),
  (25, .ireturn, 1, 0, .int 0, [], []),
  (26, .aload_n 0, 1, 0, .int 0, [], []),
  (27, .getfield 11, 3, 0, .int 0, [6, 316], []),
  (30, .aload_n 0, 1, 0, .int 0, [], []),
  (31, .getfield 15, 3, 1, .int 0, [6, 311], []),
  (34, .iload_n 1, 1, 0, .int 0, [], []),
  (35, .iastore, 1, 0, .int 0, [], []),
  (36, .aload_n 0, 1, 0, .int 0, [], []),
  (37, .dup, 1, 0, .int 0, [], []),
  (38, .getfield 15, 3, 1, .int 0, [6, 311], []),
  (41, .iconst 1, 1, 0, .int (1), [], []),
  (42, .iadd, 1, 0, .int 0, [], []),
  (43, .putfield 15, 3, 1, .int 0, [6, 311], []),
  (46, .aload_n 0, 1, 0, .int 0, [], []),
  (47, .getfield 15, 3, 1, .int 0, [6, 311], []),
  (50, .ireturn, 1, 0, .int 0, [], [])]
def tX6_add : pm_M := (({ cls := "AntLease$Text", name := "add", desc := "(I)I" } : Jvm.MethodName), prog_8_method_3_code, 2, (Option.some Jvm.ClassFile.FieldType.int), [], oX6_add, [317, 313, 318, 319])
def oX6_empty : List pm_OP := [(0, .aload_n 0, 1, 0, .int 0, [], []),
  (1, .getfield 15, 3, 1, .int 0, [6, 311], []),
  (4, .istore_n 1, 1, 0, .int 0, [], []),
  (5, .aload_n 0, 1, 0, .int 0, [], []),
  (6, .iconst 0, 1, 0, .int (0), [], []),
  (7, .putfield 15, 3, 1, .int 0, [6, 311], []),
  (10, .iload_n 1, 1, 0, .int 0, [], []),
  (11, .ireturn, 1, 0, .int 0, [], [])]
def tX6_empty : pm_M := (({ cls := "AntLease$Text", name := "empty", desc := "()I" } : Jvm.MethodName), prog_8_method_4_code, 2, (Option.some Jvm.ClassFile.FieldType.int), [], oX6_empty, [320, 313, 321, 322])
def oX6_byteAt : List pm_OP := [(0, .iload_n 1, 1, 0, .int 0, [], []),
  (1, .ifCond .lt 20, 3, 11, .int 0, [], []),
  (4, .iload_n 1, 1, 0, .int 0, [], []),
  (5, .aload_n 0, 1, 0, .int 0, [], []),
  (6, .getfield 15, 3, 1, .int 0, [6, 311], []),
  (9, .if_icmp .ge 12, 3, 11, .int 0, [], []),
  (12, .aload_n 0, 1, 0, .int 0, [], []),
  (13, .getfield 11, 3, 0, .int 0, [6, 316], []),
  (16, .iload_n 1, 1, 0, .int 0, [], []),
  (17, .iaload, 1, 0, .int 0, [], []),
  (18, .goto 4, 3, 12, .int 0, [], []),
  (21, .iconst 0, 1, 0, .int (0), [], []),
  (22, .ireturn, 1, 0, .int 0, [], [])]
def tX6_byteAt : pm_M := (({ cls := "AntLease$Text", name := "byteAt", desc := "(I)I" } : Jvm.MethodName), prog_8_method_5_code, 2, (Option.some Jvm.ClassFile.FieldType.int), [], oX6_byteAt, [323, 313, 324, 325])
def oX6_figureAt : List pm_OP := [(0, .aload_n 0, 1, 0, .int 0, [], []),
  (1, .iload_n 1, 1, 0, .int 0, [], []),
  (2, .invokevirtual 19, 3, 65, .int 0, [1, 6, 326], []),
  (5, .bipush 48, 2, 0, .int (48), [], []),
  (7, .isub, 1, 0, .int 0, [], []),
  (8, .ireturn, 1, 0, .int 0, [], [])]
def tX6_figureAt : pm_M := (({ cls := "AntLease$Text", name := "figureAt", desc := "(I)I" } : Jvm.MethodName), prog_8_method_6_code, 2, (Option.some Jvm.ClassFile.FieldType.int), [], oX6_figureAt, [327, 313, 328, 329])
def oX6_firstFault : List pm_OP := [(0, .iconst 0, 1, 0, .int (0), [], []),
  (1, .istore_n 1, 1, 0, .int 0, [], []),
  (2, .iconst 0, 1, 0, .int (0), [], []),
  (3, .istore_n 2, 1, 0, .int 0, [], []),
  (4, .iconst 0, 1, 0, .int (0), [], []),
  (5, .istore_n 3, 1, 0, .int 0, [], []),
  (6, .iconst 0, 1, 0, .int (0), [], []),
  (7, .istore 4, 2, 0, .int 0, [], []),
  (9, .iload 4, 2, 0, .int 0, [], []),
  (11, .aload_n 0, 1, 0, .int 0, [], []),
  (12, .getfield 15, 3, 1, .int 0, [6, 311], []),
  (15, .if_icmp .ge 85, 3, 58, .int 0, [], []),
  (18, .aload_n 0, 1, 0, .int 0, [], []),
  (19, .getfield 11, 3, 0, .int 0, [6, 316], []),
  (22, .iload 4, 2, 0, .int 0, [], []),
  (24, .iaload, 1, 0, .int 0, [], []),
  (25, .istore 5, 2, 0, .int 0, [], []),
  (27, .iload 5, 2, 0, .int 0, [], []),
  (29, .iload_n 1, 1, 0, .int 0, [], []),
  (30, .invokestatic 23, 3, 68, .int 0, [2, 330], []),
  (33, .ifCond .ne 6, 3, 23, .int 0, [], []),
  (36, .iload 4, 2, 0, .int 0, [], []),
  (38, .ireturn, 1, 0, .int 0, [], []),
  (39, .iload_n 1, 1, 0, .int 0, [], []),
  (40, .iconst 3, 1, 0, .int (3), [], []),
  (41, .if_icmp .ne 33, 3, 44, .int 0, [], []),
  (44, .iload_n 2, 1, 0, .int 0, [], []),
  (45, .iload 5, 2, 0, .int 0, [], []),
  (47, .bipush 70, 2, 0, .int (70), [], []),
  (49, .if_icmp .ne 7, 3, 32, .int 0, [], []),
  (52, .iconst 1, 1, 0, .int (1), [], []),
  (53, .goto 4, 3, 33, .int 0, [], []),
  (56, .iconst 0, 1, 0, .int (0), [], []),
  (57, .iadd, 1, 0, .int 0, [], []),
  (58, .istore_n 2, 1, 0, .int 0, [], []),
  (59, .iload_n 3, 1, 0, .int 0, [], []),
  (60, .iload 5, 2, 0, .int 0, [], []),
  (62, .bipush 84, 2, 0, .int (84), [], []),
  (64, .if_icmp .ne 7, 3, 41, .int 0, [], []),
  (67, .iconst 1, 1, 0, .int (1), [], []),
  (68, .goto 4, 3, 42, .int 0, [], []),
  (71, .iconst 0, 1, 0, .int (0), [], []),
  (72, .iadd, 1, 0, .int 0, [], []),
  (73, .istore_n 3, 1, 0, .int 0, [], []),
  (74, .iload_n 2, 1, 0, .int 0, [], []),
  (75, .iconst 4, 1, 0, .int (4), [], []),
  (76, .if_icmp .gt 8, 3, 50, .int 0, [], []),
  (79, .iload_n 3, 1, 0, .int 0, [], []),
  (80, .iconst 5, 1, 0, .int (5), [], []),
  (81, .if_icmp .le 6, 3, 52, .int 0, [], []),
  (84, .iload 4, 2, 0, .int 0, [], []),
  (86, .ireturn, 1, 0, .int 0, [], []),
  (87, .iload_n 1, 1, 0, .int 0, [], []),
  (88, .iload 5, 2, 0, .int 0, [], []),
  (90, .invokestatic 27, 3, 69, .int 0, [2, 331], []),
  (93, .istore_n 1, 1, 0, .int 0, [], []),
  (94, .iinc 4 1, 3, 0, .int (1), [], []),
  (97, .goto (-88), 3, 8, .int 0, [], []),
  (100, .iload_n 1, 1, 0, .int 0, [], []),
  (101, .iconst 3, 1, 0, .int (3), [], []),
  (102, .if_icmp .ne 8, 3, 63, .int 0, [], []),
  (105, .bipush (-9), 2, 0, .int (-9), [], []),
  (107, .goto 7, 3, 65, .int 0, [], []),
  (110, .aload_n 0, 1, 0, .int 0, [], []),
  (111, .getfield 15, 3, 1, .int 0, [6, 311], []),
  (114, .ireturn, 1, 0, .int 0, [], [])]
def tX6_firstFault : pm_M := (({ cls := "AntLease$Text", name := "firstFault", desc := "()I" } : Jvm.MethodName), prog_8_method_7_code, 6, (Option.some Jvm.ClassFile.FieldType.int), [], oX6_firstFault, [332, 313, 333, 334])
def oX6_fits : List pm_OP := [(0, .iload_n 1, 1, 0, .int 0, [], []),
  (1, .lookupswitch 83 #[(0, 35), (3, 47), (5, 65)], 35, 29, .int 0, [], [((0), 2), ((3), 9), ((5), 19)]),
  (36, .iload_n 0, 1, 0, .int 0, [], []),
  (37, .bipush 76, 2, 0, .int (76), [], []),
  (39, .if_icmp .ne 7, 3, 7, .int 0, [], []),
  (42, .iconst 1, 1, 0, .int (1), [], []),
  (43, .goto 4, 3, 8, .int 0, [], []),
  (46, .iconst 0, 1, 0, .int (0), [], []),
  (47, .ireturn, 1, 0, .int 0, [], []),
  (48, .iload_n 0, 1, 0, .int 0, [], []),
  (49, .bipush 70, 2, 0, .int (70), [], []),
  (51, .if_icmp .eq 9, 3, 15, .int 0, [], []),
  (54, .iload_n 0, 1, 0, .int 0, [], []),
  (55, .bipush 84, 2, 0, .int (84), [], []),
  (57, .if_icmp .ne 7, 3, 17, .int 0, [], []),
  (60, .iconst 1, 1, 0, .int (1), [], []),
  (61, .goto 4, 3, 18, .int 0, [], []),
  (64, .iconst 0, 1, 0, .int (0), [], []),
  (65, .ireturn, 1, 0, .int 0, [], []),
  (66, .iload_n 0, 1, 0, .int 0, [], []),
  (67, .bipush 48, 2, 0, .int (48), [], []),
  (69, .if_icmp .lt 13, 3, 27, .int 0, [], []),
  (72, .iload_n 0, 1, 0, .int 0, [], []),
  (73, .bipush 51, 2, 0, .int (51), [], []),
  (75, .if_icmp .gt 7, 3, 27, .int 0, [], []),
  (78, .iconst 1, 1, 0, .int (1), [], []),
  (79, .goto 4, 3, 28, .int 0, [], []),
  (82, .iconst 0, 1, 0, .int (0), [], []),
  (83, .ireturn, 1, 0, .int 0, [], []),
  (84, .iload_n 0, 1, 0, .int 0, [], []),
  (85, .bipush 48, 2, 0, .int (48), [], []),
  (87, .if_icmp .lt 13, 3, 37, .int 0, [], []),
  (90, .iload_n 0, 1, 0, .int 0, [], []),
  (91, .bipush 57, 2, 0, .int (57), [], []),
  (93, .if_icmp .gt 7, 3, 37, .int 0, [], []),
  (96, .iconst 1, 1, 0, .int (1), [], []),
  (97, .goto 4, 3, 38, .int 0, [], []),
  (100, .iconst 0, 1, 0, .int (0), [], []),
  (101, .ireturn, 1, 0, .int 0, [], [])]
def tX6_fits : pm_M := (({ cls := "AntLease$Text", name := "fits", desc := "(II)Z" } : Jvm.MethodName), prog_8_method_8_code, 2, (Option.some Jvm.ClassFile.FieldType.boolean), [], oX6_fits, [335, 313, 336])
def oX6_wantedAfter : List pm_OP := [(0, .iload_n 0, 1, 0, .int 0, [], []),
  (1, .tableswitch 54 0 4 #[35, 37, 54, 39, 52], 35, 15, .int 0, [], [((0), 2), ((1), 4), ((2), 15), ((3), 6), ((4), 13)]),
  (36, .iconst 1, 1, 0, .int (1), [], []),
  (37, .ireturn, 1, 0, .int 0, [], []),
  (38, .iconst 2, 1, 0, .int (2), [], []),
  (39, .ireturn, 1, 0, .int 0, [], []),
  (40, .iload_n 1, 1, 0, .int 0, [], []),
  (41, .bipush 70, 2, 0, .int (70), [], []),
  (43, .if_icmp .ne 7, 3, 11, .int 0, [], []),
  (46, .iconst 4, 1, 0, .int (4), [], []),
  (47, .goto 5, 3, 12, .int 0, [], []),
  (50, .bipush 6, 2, 0, .int (6), [], []),
  (52, .ireturn, 1, 0, .int 0, [], []),
  (53, .iconst 5, 1, 0, .int (5), [], []),
  (54, .ireturn, 1, 0, .int 0, [], []),
  (55, .iconst 3, 1, 0, .int (3), [], []),
  (56, .ireturn, 1, 0, .int 0, [], [])]
def tX6_wantedAfter : pm_M := (({ cls := "AntLease$Text", name := "wantedAfter", desc := "(II)I" } : Jvm.MethodName), prog_8_method_9_code, 2, (Option.some Jvm.ClassFile.FieldType.int), [], oX6_wantedAfter, [337, 313, 338])
def oX7_write : List pm_OP := [(0, .aload_n 0, 1, 0, .int 0, [], []),
  (1, .getfield 10, 3, 0, .int 0, [7, 339], []),
  (4, .iload_n 1, 1, 0, .int 0, [], []),
  (5, .invokevirtual 65, 3, 63, .int 0, [1, 6, 340], []),
  (8, .ireturn, 1, 0, .int 0, [], [])]
def tX7_write : pm_M := (({ cls := "AntLease", name := "write", desc := "(I)I" } : Jvm.MethodName), prog_1_method_2_code, 2, (Option.some Jvm.ClassFile.FieldType.int), [], oX7_write, [341, 342, 343, 344])
def oX7_wipe : List pm_OP := [(0, .aload_n 0, 1, 0, .int 0, [], []),
  (1, .getfield 10, 3, 0, .int 0, [7, 339], []),
  (4, .invokevirtual 69, 3, 64, .int 0, [0, 6, 345], []),
  (7, .ireturn, 1, 0, .int 0, [], [])]
def tX7_wipe : pm_M := (({ cls := "AntLease", name := "wipe", desc := "()I" } : Jvm.MethodName), prog_1_method_3_code, 1, (Option.some Jvm.ClassFile.FieldType.int), [], oX7_wipe, [346, 342, 347, 348])
def oX7_fault : List pm_OP := [(0, .aload_n 0, 1, 0, .int 0, [], []),
  (1, .getfield 10, 3, 0, .int 0, [7, 339], []),
  (4, .invokevirtual 73, 3, 67, .int 0, [0, 6, 349], []),
  (7, .ireturn, 1, 0, .int 0, [], [])]
def tX7_fault : pm_M := (({ cls := "AntLease", name := "fault", desc := "()I" } : Jvm.MethodName), prog_1_method_4_code, 1, (Option.some Jvm.ClassFile.FieldType.int), [], oX7_fault, [350, 342, 351, 352])
def oX7_manor : List pm_OP := [(0, .aload_n 0, 1, 0, .int 0, [], []),
  (1, .getfield 10, 3, 0, .int 0, [7, 339], []),
  (4, .invokevirtual 73, 3, 67, .int 0, [0, 6, 349], []),
  (7, .bipush (-9), 2, 0, .int (-9), [], []),
  (9, .if_icmp .eq 6, 3, 7, .int 0, [], []),
  (12, .bipush (-3), 2, 0, .int (-3), [], []),
  (14, .ireturn, 1, 0, .int 0, [], []),
  (15, .aload_n 0, 1, 0, .int 0, [], []),
  (16, .getfield 19, 3, 1, .int 0, [7, 353], []),
  (19, .aload_n 0, 1, 0, .int 0, [], []),
  (20, .getfield 10, 3, 0, .int 0, [7, 339], []),
  (23, .invokevirtual 76, 3, 6, .int 0, [1, 0, 354], []),
  (26, .aload_n 0, 1, 0, .int 0, [], []),
  (27, .getfield 29, 3, 3, .int 0, [7, 355], []),
  (30, .invokevirtual 80, 3, 42, .int 0, [0, 2, 356], []),
  (33, .aload_n 0, 1, 0, .int 0, [], []),
  (34, .getfield 36, 3, 4, .int 0, [7, 357], []),
  (37, .invokevirtual 83, 3, 58, .int 0, [0, 5, 358], []),
  (40, .bipush 10, 2, 0, .int (10), [], []),
  (42, .aload_n 0, 1, 0, .int 0, [], []),
  (43, .getfield 19, 3, 1, .int 0, [7, 353], []),
  (46, .invokevirtual 84, 3, 7, .int 0, [0, 0, 359], []),
  (49, .imul, 1, 0, .int 0, [], []),
  (50, .aload_n 0, 1, 0, .int 0, [], []),
  (51, .getfield 19, 3, 1, .int 0, [7, 353], []),
  (54, .invokevirtual 87, 3, 8, .int 0, [0, 0, 360], []),
  (57, .iadd, 1, 0, .int 0, [], []),
  (58, .ireturn, 1, 0, .int 0, [], [])]
def tX7_manor : pm_M := (({ cls := "AntLease", name := "manor", desc := "()I" } : Jvm.MethodName), prog_1_method_5_code, 1, (Option.some Jvm.ClassFile.FieldType.int), [], oX7_manor, [361, 342, 362, 363])
def oX7_about : List pm_OP := [(0, .iload_n 1, 1, 0, .int 0, [], []),
  (1, .tableswitch 183 0 13 #[71, 79, 87, 95, 103, 111, 119, 127, 135, 143, 151, 159, 167, 175], 71, 58, .int 0, [], [((0), 2), ((1), 6), ((2), 10), ((3), 14), ((4), 18), ((5), 22), ((6), 26), ((7), 30), ((8), 34), ((9), 38), ((10), 42), ((11), 46), ((12), 50), ((13), 54)]),
  (72, .aload_n 0, 1, 0, .int 0, [], []),
  (73, .getfield 19, 3, 1, .int 0, [7, 353], []),
  (76, .invokevirtual 84, 3, 7, .int 0, [0, 0, 359], []),
  (79, .ireturn, 1, 0, .int 0, [], []),
  (80, .aload_n 0, 1, 0, .int 0, [], []),
  (81, .getfield 19, 3, 1, .int 0, [7, 353], []),
  (84, .invokevirtual 87, 3, 8, .int 0, [0, 0, 360], []),
  (87, .ireturn, 1, 0, .int 0, [], []),
  (88, .aload_n 0, 1, 0, .int 0, [], []),
  (89, .getfield 19, 3, 1, .int 0, [7, 353], []),
  (92, .invokevirtual 90, 3, 9, .int 0, [0, 0, 364], []),
  (95, .ireturn, 1, 0, .int 0, [], []),
  (96, .aload_n 0, 1, 0, .int 0, [], []),
  (97, .getfield 19, 3, 1, .int 0, [7, 353], []),
  (100, .invokevirtual 93, 3, 10, .int 0, [0, 0, 365], []),
  (103, .ireturn, 1, 0, .int 0, [], []),
  (104, .aload_n 0, 1, 0, .int 0, [], []),
  (105, .getfield 19, 3, 1, .int 0, [7, 353], []),
  (108, .invokevirtual 96, 3, 13, .int 0, [0, 0, 366], []),
  (111, .ireturn, 1, 0, .int 0, [], []),
  (112, .aload_n 0, 1, 0, .int 0, [], []),
  (113, .getfield 19, 3, 1, .int 0, [7, 353], []),
  (116, .invokevirtual 99, 3, 11, .int 0, [0, 0, 367], []),
  (119, .ireturn, 1, 0, .int 0, [], []),
  (120, .aload_n 0, 1, 0, .int 0, [], []),
  (121, .getfield 19, 3, 1, .int 0, [7, 353], []),
  (124, .invokevirtual 102, 3, 24, .int 0, [0, 0, 368], []),
  (127, .ireturn, 1, 0, .int 0, [], []),
  (128, .aload_n 0, 1, 0, .int 0, [], []),
  (129, .getfield 19, 3, 1, .int 0, [7, 353], []),
  (132, .invokevirtual 105, 3, 25, .int 0, [0, 0, 369], []),
  (135, .ireturn, 1, 0, .int 0, [], []),
  (136, .aload_n 0, 1, 0, .int 0, [], []),
  (137, .getfield 19, 3, 1, .int 0, [7, 353], []),
  (140, .invokevirtual 108, 3, 12, .int 0, [0, 0, 370], []),
  (143, .ireturn, 1, 0, .int 0, [], []),
  (144, .aload_n 0, 1, 0, .int 0, [], []),
  (145, .getfield 19, 3, 1, .int 0, [7, 353], []),
  (148, .invokevirtual 111, 3, 26, .int 0, [0, 0, 371], []),
  (151, .ireturn, 1, 0, .int 0, [], []),
  (152, .aload_n 0, 1, 0, .int 0, [], []),
  (153, .getfield 19, 3, 1, .int 0, [7, 353], []),
  (156, .invokevirtual 114, 3, 28, .int 0, [0, 0, 372], []),
  (159, .ireturn, 1, 0, .int 0, [], []),
  (160, .aload_n 0, 1, 0, .int 0, [], []),
  (161, .getfield 29, 3, 3, .int 0, [7, 355], []),
  (164, .invokevirtual 117, 3, 41, .int 0, [0, 2, 373], []),
  (167, .ireturn, 1, 0, .int 0, [], []),
  (168, .aload_n 0, 1, 0, .int 0, [], []),
  (169, .getfield 43, 3, 5, .int 0, [7, 374], []),
  (172, .invokevirtual 120, 3, 52, .int 0, [0, 4, 375], []),
  (175, .ireturn, 1, 0, .int 0, [], []),
  (176, .aload_n 0, 1, 0, .int 0, [], []),
  (177, .getfield 10, 3, 0, .int 0, [7, 339], []),
  (180, .invokevirtual 121, 3, 62, .int 0, [0, 6, 376], []),
  (183, .ireturn, 1, 0, .int 0, [], []),
  (184, .bipush (-2), 2, 0, .int (-2), [], []),
  (186, .ireturn, 1, 0, .int 0, [], [])]
def tX7_about : pm_M := (({ cls := "AntLease", name := "about", desc := "(I)I" } : Jvm.MethodName), prog_1_method_6_code, 2, (Option.some Jvm.ClassFile.FieldType.int), [], oX7_about, [377, 342, 378, 379])
def oX7_food : List pm_OP := [(0, .aload_n 0, 1, 0, .int 0, [], []),
  (1, .getfield 19, 3, 1, .int 0, [7, 353], []),
  (4, .iload_n 1, 1, 0, .int 0, [], []),
  (5, .invokevirtual 124, 3, 14, .int 0, [1, 0, 380], []),
  (8, .ifCond .ne 5, 3, 7, .int 0, [], []),
  (11, .iconst (-1), 1, 0, .int (-1), [], []),
  (12, .ireturn, 1, 0, .int 0, [], []),
  (13, .iload_n 2, 1, 0, .int 0, [], []),
  (14, .tableswitch 79 0 4 #[34, 43, 52, 61, 70], 34, 34, .int 0, [], [((0), 9), ((1), 14), ((2), 19), ((3), 24), ((4), 29)]),
  (48, .aload_n 0, 1, 0, .int 0, [], []),
  (49, .getfield 19, 3, 1, .int 0, [7, 353], []),
  (52, .iload_n 1, 1, 0, .int 0, [], []),
  (53, .invokevirtual 128, 3, 16, .int 0, [1, 0, 381], []),
  (56, .ireturn, 1, 0, .int 0, [], []),
  (57, .aload_n 0, 1, 0, .int 0, [], []),
  (58, .getfield 19, 3, 1, .int 0, [7, 353], []),
  (61, .iload_n 1, 1, 0, .int 0, [], []),
  (62, .invokevirtual 131, 3, 17, .int 0, [1, 0, 382], []),
  (65, .ireturn, 1, 0, .int 0, [], []),
  (66, .aload_n 0, 1, 0, .int 0, [], []),
  (67, .getfield 19, 3, 1, .int 0, [7, 353], []),
  (70, .iload_n 1, 1, 0, .int 0, [], []),
  (71, .invokevirtual 134, 3, 18, .int 0, [1, 0, 383], []),
  (74, .ireturn, 1, 0, .int 0, [], []),
  (75, .aload_n 0, 1, 0, .int 0, [], []),
  (76, .getfield 19, 3, 1, .int 0, [7, 353], []),
  (79, .iload_n 1, 1, 0, .int 0, [], []),
  (80, .invokevirtual 137, 3, 19, .int 0, [1, 0, 384], []),
  (83, .ireturn, 1, 0, .int 0, [], []),
  (84, .aload_n 0, 1, 0, .int 0, [], []),
  (85, .getfield 19, 3, 1, .int 0, [7, 353], []),
  (88, .iload_n 1, 1, 0, .int 0, [], []),
  (89, .invokevirtual 140, 3, 21, .int 0, [1, 0, 385], []),
  (92, .ireturn, 1, 0, .int 0, [], []),
  (93, .bipush (-2), 2, 0, .int (-2), [], []),
  (95, .ireturn, 1, 0, .int 0, [], [])]
def tX7_food : pm_M := (({ cls := "AntLease", name := "food", desc := "(II)I" } : Jvm.MethodName), prog_1_method_7_code, 3, (Option.some Jvm.ClassFile.FieldType.int), [], oX7_food, [386, 342, 387, 388])
def oX7_thing : List pm_OP := [(0, .aload_n 0, 1, 0, .int 0, [], []),
  (1, .getfield 19, 3, 1, .int 0, [7, 353], []),
  (4, .iload_n 1, 1, 0, .int 0, [], []),
  (5, .invokevirtual 143, 3, 15, .int 0, [1, 0, 389], []),
  (8, .ifCond .ne 5, 3, 7, .int 0, [], []),
  (11, .iconst (-1), 1, 0, .int (-1), [], []),
  (12, .ireturn, 1, 0, .int 0, [], []),
  (13, .iload_n 2, 1, 0, .int 0, [], []),
  (14, .tableswitch 79 0 2 #[26, 35, 70], 26, 35, .int 0, [], [((0), 9), ((1), 14), ((2), 30)]),
  (40, .aload_n 0, 1, 0, .int 0, [], []),
  (41, .getfield 19, 3, 1, .int 0, [7, 353], []),
  (44, .iload_n 1, 1, 0, .int 0, [], []),
  (45, .invokevirtual 146, 3, 20, .int 0, [1, 0, 390], []),
  (48, .ireturn, 1, 0, .int 0, [], []),
  (49, .aload_n 0, 1, 0, .int 0, [], []),
  (50, .getfield 19, 3, 1, .int 0, [7, 353], []),
  (53, .invokevirtual 111, 3, 26, .int 0, [0, 0, 371], []),
  (56, .aload_n 0, 1, 0, .int 0, [], []),
  (57, .getfield 19, 3, 1, .int 0, [7, 353], []),
  (60, .iload_n 1, 1, 0, .int 0, [], []),
  (61, .invokevirtual 146, 3, 20, .int 0, [1, 0, 390], []),
  (64, .invokestatic 149, 3, 103, .int 0, [2, 391], []),
  (67, .ifCond .eq 14, 3, 28, .int 0, [], []),
  (70, .aload_n 0, 1, 0, .int 0, [], []),
  (71, .getfield 19, 3, 1, .int 0, [7, 353], []),
  (74, .iload_n 1, 1, 0, .int 0, [], []),
  (75, .invokevirtual 146, 3, 20, .int 0, [1, 0, 390], []),
  (78, .goto 5, 3, 29, .int 0, [], []),
  (81, .bipush (-9), 2, 0, .int (-9), [], []),
  (83, .ireturn, 1, 0, .int 0, [], []),
  (84, .aload_n 0, 1, 0, .int 0, [], []),
  (85, .getfield 19, 3, 1, .int 0, [7, 353], []),
  (88, .iload_n 1, 1, 0, .int 0, [], []),
  (89, .invokevirtual 153, 3, 29, .int 0, [1, 0, 392], []),
  (92, .ireturn, 1, 0, .int 0, [], []),
  (93, .bipush (-2), 2, 0, .int (-2), [], []),
  (95, .ireturn, 1, 0, .int 0, [], [])]
def tX7_thing : pm_M := (({ cls := "AntLease", name := "thing", desc := "(II)I" } : Jvm.MethodName), prog_1_method_8_code, 3, (Option.some Jvm.ClassFile.FieldType.int), [], oX7_thing, [393, 342, 394, 395])
def oX7_quarter : List pm_OP := [(0, .aload_n 0, 1, 0, .int 0, [], []),
  (1, .getfield 29, 3, 3, .int 0, [7, 355], []),
  (4, .aload_n 0, 1, 0, .int 0, [], []),
  (5, .getfield 19, 3, 1, .int 0, [7, 353], []),
  (8, .invokevirtual 156, 3, 44, .int 0, [1, 2, 396], []),
  (11, .aload_n 0, 1, 0, .int 0, [], []),
  (12, .getfield 29, 3, 3, .int 0, [7, 355], []),
  (15, .aload_n 0, 1, 0, .int 0, [], []),
  (16, .getfield 19, 3, 1, .int 0, [7, 353], []),
  (19, .invokevirtual 160, 3, 30, .int 0, [0, 0, 397], []),
  (22, .invokevirtual 163, 3, 45, .int 0, [1, 2, 398], []),
  (25, .ireturn, 1, 0, .int 0, [], [])]
def tX7_quarter : pm_M := (({ cls := "AntLease", name := "quarter", desc := "()I" } : Jvm.MethodName), prog_1_method_9_code, 1, (Option.some Jvm.ClassFile.FieldType.int), [], oX7_quarter, [399, 342, 400, 401])
def oX7_put : List pm_OP := [(0, .aload_n 0, 1, 0, .int 0, [], []),
  (1, .getfield 29, 3, 3, .int 0, [7, 355], []),
  (4, .aload_n 0, 1, 0, .int 0, [], []),
  (5, .getfield 19, 3, 1, .int 0, [7, 353], []),
  (8, .invokevirtual 156, 3, 44, .int 0, [1, 2, 396], []),
  (11, .aload_n 0, 1, 0, .int 0, [], []),
  (12, .getfield 29, 3, 3, .int 0, [7, 355], []),
  (15, .aload_n 0, 1, 0, .int 0, [], []),
  (16, .getfield 19, 3, 1, .int 0, [7, 353], []),
  (19, .iload_n 1, 1, 0, .int 0, [], []),
  (20, .iload_n 2, 1, 0, .int 0, [], []),
  (21, .invokevirtual 166, 3, 32, .int 0, [2, 0, 402], []),
  (24, .invokevirtual 163, 3, 45, .int 0, [1, 2, 398], []),
  (27, .ireturn, 1, 0, .int 0, [], [])]
def tX7_put : pm_M := (({ cls := "AntLease", name := "put", desc := "(II)I" } : Jvm.MethodName), prog_1_method_10_code, 3, (Option.some Jvm.ClassFile.FieldType.int), [], oX7_put, [403, 342, 404, 405])
def oX7_eat : List pm_OP := [(0, .aload_n 0, 1, 0, .int 0, [], []),
  (1, .getfield 29, 3, 3, .int 0, [7, 355], []),
  (4, .aload_n 0, 1, 0, .int 0, [], []),
  (5, .getfield 19, 3, 1, .int 0, [7, 353], []),
  (8, .invokevirtual 156, 3, 44, .int 0, [1, 2, 396], []),
  (11, .aload_n 0, 1, 0, .int 0, [], []),
  (12, .getfield 29, 3, 3, .int 0, [7, 355], []),
  (15, .aload_n 0, 1, 0, .int 0, [], []),
  (16, .getfield 19, 3, 1, .int 0, [7, 353], []),
  (19, .iload_n 1, 1, 0, .int 0, [], []),
  (20, .iload_n 2, 1, 0, .int 0, [], []),
  (21, .invokevirtual 170, 3, 33, .int 0, [2, 0, 406], []),
  (24, .invokevirtual 163, 3, 45, .int 0, [1, 2, 398], []),
  (27, .ireturn, 1, 0, .int 0, [], [])]
def tX7_eat : pm_M := (({ cls := "AntLease", name := "eat", desc := "(II)I" } : Jvm.MethodName), prog_1_method_11_code, 3, (Option.some Jvm.ClassFile.FieldType.int), [], oX7_eat, [407, 342, 408, 409])
def oX7_leave : List pm_OP := [(0, .aload_n 0, 1, 0, .int 0, [], []),
  (1, .getfield 29, 3, 3, .int 0, [7, 355], []),
  (4, .aload_n 0, 1, 0, .int 0, [], []),
  (5, .getfield 19, 3, 1, .int 0, [7, 353], []),
  (8, .invokevirtual 156, 3, 44, .int 0, [1, 2, 396], []),
  (11, .aload_n 0, 1, 0, .int 0, [], []),
  (12, .getfield 29, 3, 3, .int 0, [7, 355], []),
  (15, .aload_n 0, 1, 0, .int 0, [], []),
  (16, .getfield 19, 3, 1, .int 0, [7, 353], []),
  (19, .iload_n 1, 1, 0, .int 0, [], []),
  (20, .iload_n 2, 1, 0, .int 0, [], []),
  (21, .invokevirtual 173, 3, 34, .int 0, [2, 0, 410], []),
  (24, .invokevirtual 163, 3, 45, .int 0, [1, 2, 398], []),
  (27, .ireturn, 1, 0, .int 0, [], [])]
def tX7_leave : pm_M := (({ cls := "AntLease", name := "leave", desc := "(II)I" } : Jvm.MethodName), prog_1_method_12_code, 3, (Option.some Jvm.ClassFile.FieldType.int), [], oX7_leave, [411, 342, 412, 413])
def oX7_move : List pm_OP := [(0, .aload_n 0, 1, 0, .int 0, [], []),
  (1, .getfield 29, 3, 3, .int 0, [7, 355], []),
  (4, .aload_n 0, 1, 0, .int 0, [], []),
  (5, .getfield 19, 3, 1, .int 0, [7, 353], []),
  (8, .invokevirtual 156, 3, 44, .int 0, [1, 2, 396], []),
  (11, .aload_n 0, 1, 0, .int 0, [], []),
  (12, .getfield 29, 3, 3, .int 0, [7, 355], []),
  (15, .aload_n 0, 1, 0, .int 0, [], []),
  (16, .getfield 19, 3, 1, .int 0, [7, 353], []),
  (19, .iload_n 1, 1, 0, .int 0, [], []),
  (20, .iload_n 2, 1, 0, .int 0, [], []),
  (21, .invokevirtual 176, 3, 35, .int 0, [2, 0, 414], []),
  (24, .invokevirtual 163, 3, 45, .int 0, [1, 2, 398], []),
  (27, .ireturn, 1, 0, .int 0, [], [])]
def tX7_move : pm_M := (({ cls := "AntLease", name := "move", desc := "(II)I" } : Jvm.MethodName), prog_1_method_13_code, 3, (Option.some Jvm.ClassFile.FieldType.int), [], oX7_move, [415, 342, 416, 417])
def oX7_sprinkle : List pm_OP := [(0, .aload_n 0, 1, 0, .int 0, [], []),
  (1, .getfield 29, 3, 3, .int 0, [7, 355], []),
  (4, .aload_n 0, 1, 0, .int 0, [], []),
  (5, .getfield 19, 3, 1, .int 0, [7, 353], []),
  (8, .invokevirtual 156, 3, 44, .int 0, [1, 2, 396], []),
  (11, .aload_n 0, 1, 0, .int 0, [], []),
  (12, .getfield 29, 3, 3, .int 0, [7, 355], []),
  (15, .aload_n 0, 1, 0, .int 0, [], []),
  (16, .getfield 19, 3, 1, .int 0, [7, 353], []),
  (19, .iload_n 1, 1, 0, .int 0, [], []),
  (20, .invokevirtual 179, 3, 36, .int 0, [1, 0, 418], []),
  (23, .invokevirtual 163, 3, 45, .int 0, [1, 2, 398], []),
  (26, .ireturn, 1, 0, .int 0, [], [])]
def tX7_sprinkle : pm_M := (({ cls := "AntLease", name := "sprinkle", desc := "(I)I" } : Jvm.MethodName), prog_1_method_14_code, 2, (Option.some Jvm.ClassFile.FieldType.int), [], oX7_sprinkle, [419, 342, 420, 421])
def oX7_undo : List pm_OP := [(0, .aload_n 0, 1, 0, .int 0, [], []),
  (1, .getfield 29, 3, 3, .int 0, [7, 355], []),
  (4, .aload_n 0, 1, 0, .int 0, [], []),
  (5, .getfield 19, 3, 1, .int 0, [7, 353], []),
  (8, .invokevirtual 182, 3, 46, .int 0, [1, 2, 422], []),
  (11, .ireturn, 1, 0, .int 0, [], [])]
def tX7_undo : pm_M := (({ cls := "AntLease", name := "undo", desc := "()I" } : Jvm.MethodName), prog_1_method_15_code, 1, (Option.some Jvm.ClassFile.FieldType.int), [], oX7_undo, [423, 342, 424, 425])
def oX7_later : List pm_OP := [(0, .iload_n 1, 1, 0, .int 0, [], []),
  (1, .ifCond .lt 18, 3, 10, .int 0, [], []),
  (4, .iload_n 1, 1, 0, .int 0, [], []),
  (5, .bipush 20, 2, 0, .int (20), [], []),
  (7, .if_icmp .gt 12, 3, 10, .int 0, [], []),
  (10, .iload_n 2, 1, 0, .int 0, [], []),
  (11, .ifCond .lt 8, 3, 10, .int 0, [], []),
  (14, .iload_n 2, 1, 0, .int 0, [], []),
  (15, .iconst 2, 1, 0, .int (2), [], []),
  (16, .if_icmp .le 6, 3, 12, .int 0, [], []),
  (19, .bipush (-2), 2, 0, .int (-2), [], []),
  (21, .ireturn, 1, 0, .int 0, [], []),
  (22, .aload_n 0, 1, 0, .int 0, [], []),
  (23, .getfield 23, 3, 2, .int 0, [7, 426], []),
  (26, .aload_n 0, 1, 0, .int 0, [], []),
  (27, .getfield 19, 3, 1, .int 0, [7, 353], []),
  (30, .invokevirtual 186, 3, 3, .int 0, [1, 0, 427], []),
  (33, .iconst 0, 1, 0, .int (0), [], []),
  (34, .istore_n 3, 1, 0, .int 0, [], []),
  (35, .iload_n 3, 1, 0, .int 0, [], []),
  (36, .iload_n 1, 1, 0, .int 0, [], []),
  (37, .if_icmp .ge 17, 3, 28, .int 0, [], []),
  (40, .aload_n 0, 1, 0, .int 0, [], []),
  (41, .getfield 23, 3, 2, .int 0, [7, 426], []),
  (44, .invokevirtual 160, 3, 30, .int 0, [0, 0, 397], []),
  (47, .pop, 1, 0, .int 0, [], []),
  (48, .iinc 3 1, 3, 0, .int (1), [], []),
  (51, .goto (-16), 3, 19, .int 0, [], []),
  (54, .iload_n 2, 1, 0, .int 0, [], []),
  (55, .lookupswitch 41 #[(0, 25), (1, 33)], 25, 38, .int 0, [], [((0), 30), ((1), 34)]),
  (80, .aload_n 0, 1, 0, .int 0, [], []),
  (81, .getfield 23, 3, 2, .int 0, [7, 426], []),
  (84, .invokevirtual 93, 3, 10, .int 0, [0, 0, 365], []),
  (87, .ireturn, 1, 0, .int 0, [], []),
  (88, .aload_n 0, 1, 0, .int 0, [], []),
  (89, .getfield 23, 3, 2, .int 0, [7, 426], []),
  (92, .invokevirtual 99, 3, 11, .int 0, [0, 0, 367], []),
  (95, .ireturn, 1, 0, .int 0, [], []),
  (96, .aload_n 0, 1, 0, .int 0, [], []),
  (97, .getfield 23, 3, 2, .int 0, [7, 426], []),
  (100, .invokevirtual 114, 3, 28, .int 0, [0, 0, 372], []),
  (103, .ireturn, 1, 0, .int 0, [], [])]
def tX7_later : pm_M := (({ cls := "AntLease", name := "later", desc := "(II)I" } : Jvm.MethodName), prog_1_method_16_code, 4, (Option.some Jvm.ClassFile.FieldType.int), [], oX7_later, [428, 342, 429, 430])
def oX7_least : List pm_OP := [(0, .iload_n 1, 1, 0, .int 0, [], []),
  (1, .ifCond .eq 11, 3, 7, .int 0, [], []),
  (4, .iload_n 1, 1, 0, .int 0, [], []),
  (5, .iconst 1, 1, 0, .int (1), [], []),
  (6, .if_icmp .eq 6, 3, 7, .int 0, [], []),
  (9, .bipush (-2), 2, 0, .int (-2), [], []),
  (11, .ireturn, 1, 0, .int 0, [], []),
  (12, .aload_n 0, 1, 0, .int 0, [], []),
  (13, .getfield 50, 3, 6, .int 0, [7, 431], []),
  (16, .aload_n 0, 1, 0, .int 0, [], []),
  (17, .getfield 19, 3, 1, .int 0, [7, 353], []),
  (20, .invokevirtual 189, 3, 39, .int 0, [1, 1, 432], []),
  (23, .iload_n 1, 1, 0, .int 0, [], []),
  (24, .ifCond .ne 13, 3, 18, .int 0, [], []),
  (27, .aload_n 0, 1, 0, .int 0, [], []),
  (28, .getfield 50, 3, 6, .int 0, [7, 431], []),
  (31, .invokevirtual 192, 3, 37, .int 0, [0, 1, 433], []),
  (34, .goto 10, 3, 21, .int 0, [], []),
  (37, .aload_n 0, 1, 0, .int 0, [], []),
  (38, .getfield 50, 3, 6, .int 0, [7, 431], []),
  (41, .invokevirtual 195, 3, 38, .int 0, [0, 1, 434], []),
  (44, .ireturn, 1, 0, .int 0, [], [])]
def tX7_least : pm_M := (({ cls := "AntLease", name := "least", desc := "(I)I" } : Jvm.MethodName), prog_1_method_17_code, 2, (Option.some Jvm.ClassFile.FieldType.int), [], oX7_least, [435, 342, 436, 437])
def oX7_judge : List pm_OP := [(0, .iload_n 1, 1, 0, .int 0, [], []),
  (1, .iconst 1, 1, 0, .int (1), [], []),
  (2, .if_icmp .lt 14, 3, 10, .int 0, [], []),
  (5, .iload_n 1, 1, 0, .int 0, [], []),
  (6, .iconst 4, 1, 0, .int (4), [], []),
  (7, .if_icmp .gt 9, 3, 10, .int 0, [], []),
  (10, .lload_n 2, 1, 0, .int 0, [], []),
  (11, .lconst 0, 1, 0, .long (0), [], []),
  (12, .lcmp, 1, 0, .int 0, [], []),
  (13, .ifCond .ge 6, 3, 12, .int 0, [], []),
  (16, .bipush (-2), 2, 0, .int (-2), [], []),
  (18, .ireturn, 1, 0, .int 0, [], []),
  (19, .lload_n 2, 1, 0, .int 0, [], []),
  (20, .lstore 4, 2, 0, .int 0, [], []),
  (22, .iload_n 1, 1, 0, .int 0, [], []),
  (23, .iconst 1, 1, 0, .int (1), [], []),
  (24, .isub, 1, 0, .int 0, [], []),
  (25, .istore 6, 2, 0, .int 0, [], []),
  (27, .iload 6, 2, 0, .int 0, [], []),
  (29, .ifCond .lt 31, 3, 34, .int 0, [], []),
  (32, .aload_n 0, 1, 0, .int 0, [], []),
  (33, .getfield 54, 3, 7, .int 0, [7, 438], []),
  (36, .iload 6, 2, 0, .int 0, [], []),
  (38, .lload 4, 2, 0, .int 0, [], []),
  (40, .ldc2_w 198, 3, 0, .long (1000), [439], []),
  (43, .lrem, 1, 0, .int 0, [], []),
  (44, .l2i, 1, 0, .int 0, [], []),
  (45, .iastore, 1, 0, .int 0, [], []),
  (46, .lload 4, 2, 0, .int 0, [], []),
  (48, .ldc2_w 198, 3, 0, .long (1000), [439], []),
  (51, .ldiv, 1, 0, .int 0, [], []),
  (52, .lstore 4, 2, 0, .int 0, [], []),
  (54, .iinc 6 (-1), 3, 0, .int (-1), [], []),
  (57, .goto (-30), 3, 18, .int 0, [], []),
  (60, .lload 4, 2, 0, .int 0, [], []),
  (62, .lconst 0, 1, 0, .long (0), [], []),
  (63, .lcmp, 1, 0, .int 0, [], []),
  (64, .ifCond .eq 6, 3, 40, .int 0, [], []),
  (67, .bipush (-2), 2, 0, .int (-2), [], []),
  (69, .ireturn, 1, 0, .int 0, [], []),
  (70, .aload_n 0, 1, 0, .int 0, [], []),
  (71, .getfield 23, 3, 2, .int 0, [7, 426], []),
  (74, .aload_n 0, 1, 0, .int 0, [], []),
  (75, .getfield 19, 3, 1, .int 0, [7, 353], []),
  (78, .invokevirtual 186, 3, 3, .int 0, [1, 0, 427], []),
  (81, .iconst 0, 1, 0, .int (0), [], []),
  (82, .istore 6, 2, 0, .int 0, [], []),
  (84, .iload 6, 2, 0, .int 0, [], []),
  (86, .iload_n 1, 1, 0, .int 0, [], []),
  (87, .if_icmp .ge 29, 3, 62, .int 0, [], []),
  (90, .aload_n 0, 1, 0, .int 0, [], []),
  (91, .getfield 23, 3, 2, .int 0, [7, 426], []),
  (94, .aload_n 0, 1, 0, .int 0, [], []),
  (95, .getfield 54, 3, 7, .int 0, [7, 438], []),
  (98, .iload 6, 2, 0, .int 0, [], []),
  (100, .iaload, 1, 0, .int 0, [], []),
  (101, .invokestatic 200, 3, 97, .int 0, [2, 440], []),
  (104, .ifCond .ne 6, 3, 60, .int 0, [], []),
  (107, .iload 6, 2, 0, .int 0, [], []),
  (109, .ireturn, 1, 0, .int 0, [], []),
  (110, .iinc 6 1, 3, 0, .int (1), [], []),
  (113, .goto (-29), 3, 47, .int 0, [], []),
  (116, .bipush (-9), 2, 0, .int (-9), [], []),
  (118, .ireturn, 1, 0, .int 0, [], [])]
def tX7_judge : pm_M := (({ cls := "AntLease", name := "judge", desc := "(IJ)I" } : Jvm.MethodName), prog_1_method_18_code, 7, (Option.some Jvm.ClassFile.FieldType.int), [2, 4], oX7_judge, [441, 342, 442, 443])
def oX7_share : List pm_OP := [(0, .aload_n 0, 1, 0, .int 0, [], []),
  (1, .getfield 19, 3, 1, .int 0, [7, 353], []),
  (4, .iload_n 1, 1, 0, .int 0, [], []),
  (5, .invokevirtual 124, 3, 14, .int 0, [1, 0, 380], []),
  (8, .ifCond .ne 5, 3, 7, .int 0, [], []),
  (11, .iconst (-1), 1, 0, .int (-1), [], []),
  (12, .ireturn, 1, 0, .int 0, [], []),
  (13, .aload_n 0, 1, 0, .int 0, [], []),
  (14, .getfield 19, 3, 1, .int 0, [7, 353], []),
  (17, .invokevirtual 84, 3, 7, .int 0, [0, 0, 359], []),
  (20, .istore_n 3, 1, 0, .int 0, [], []),
  (21, .iconst 0, 1, 0, .int (0), [], []),
  (22, .istore 4, 2, 0, .int 0, [], []),
  (24, .iconst 0, 1, 0, .int (0), [], []),
  (25, .istore 5, 2, 0, .int 0, [], []),
  (27, .iload 5, 2, 0, .int 0, [], []),
  (29, .iconst 1, 1, 0, .int (1), [], []),
  (30, .iload_n 3, 1, 0, .int 0, [], []),
  (31, .ishl, 1, 0, .int 0, [], []),
  (32, .if_icmp .ge 96, 3, 68, .int 0, [], []),
  (35, .iload 5, 2, 0, .int 0, [], []),
  (37, .iload_n 1, 1, 0, .int 0, [], []),
  (38, .ishr, 1, 0, .int 0, [], []),
  (39, .iconst 1, 1, 0, .int (1), [], []),
  (40, .iand, 1, 0, .int 0, [], []),
  (41, .ifCond .ne 81, 3, 66, .int 0, [], []),
  (44, .iload 5, 2, 0, .int 0, [], []),
  (46, .invokestatic 204, 3, 168, .int 0, [1, 444], []),
  (49, .istore 6, 2, 0, .int 0, [], []),
  (51, .iload 6, 2, 0, .int 0, [], []),
  (53, .invokestatic 209, 3, 104, .int 0, [1, 445], []),
  (56, .iload_n 3, 1, 0, .int 0, [], []),
  (57, .iconst 1, 1, 0, .int (1), [], []),
  (58, .isub, 1, 0, .int 0, [], []),
  (59, .iload 6, 2, 0, .int 0, [], []),
  (61, .isub, 1, 0, .int 0, [], []),
  (62, .invokestatic 209, 3, 104, .int 0, [1, 445], []),
  (65, .imul, 1, 0, .int 0, [], []),
  (66, .istore 7, 2, 0, .int 0, [], []),
  (68, .aload_n 0, 1, 0, .int 0, [], []),
  (69, .iload 5, 2, 0, .int 0, [], []),
  (71, .invokevirtual 212, 3, 99, .int 0, [1, 7, 446], []),
  (74, .istore 8, 2, 0, .int 0, [], []),
  (76, .aload_n 0, 1, 0, .int 0, [], []),
  (77, .getfield 19, 3, 1, .int 0, [7, 353], []),
  (80, .invokevirtual 102, 3, 24, .int 0, [0, 0, 368], []),
  (83, .iload 8, 2, 0, .int 0, [], []),
  (85, .aload_n 0, 1, 0, .int 0, [], []),
  (86, .getfield 19, 3, 1, .int 0, [7, 353], []),
  (89, .iload_n 1, 1, 0, .int 0, [], []),
  (90, .invokevirtual 140, 3, 21, .int 0, [1, 0, 385], []),
  (93, .iadd, 1, 0, .int 0, [], []),
  (94, .invokestatic 215, 3, 0, .ref 2, [447, 176, 151, 177], []),
  (97, .aload_n 0, 1, 0, .int 0, [], []),
  (98, .getfield 19, 3, 1, .int 0, [7, 353], []),
  (101, .invokevirtual 102, 3, 24, .int 0, [0, 0, 368], []),
  (104, .iload 8, 2, 0, .int 0, [], []),
  (106, .invokestatic 215, 3, 0, .ref 2, [447, 176, 151, 177], []),
  (109, .isub, 1, 0, .int 0, [], []),
  (110, .istore 9, 2, 0, .int 0, [], []),
  (112, .iload 4, 2, 0, .int 0, [], []),
  (114, .iload 7, 2, 0, .int 0, [], []),
  (116, .iload 9, 2, 0, .int 0, [], []),
  (118, .imul, 1, 0, .int 0, [], []),
  (119, .iadd, 1, 0, .int 0, [], []),
  (120, .istore 4, 2, 0, .int 0, [], []),
  (122, .iinc 5 1, 3, 0, .int (1), [], []),
  (125, .goto (-98), 3, 15, .int 0, [], []),
  (128, .iload 4, 2, 0, .int 0, [], []),
  (130, .iload_n 3, 1, 0, .int 0, [], []),
  (131, .invokestatic 209, 3, 104, .int 0, [1, 445], []),
  (134, .iload_n 2, 1, 0, .int 0, [], []),
  (135, .invokestatic 220, 3, 105, .int 0, [3, 448], []),
  (138, .ireturn, 1, 0, .int 0, [], [])]
def tX7_share : pm_M := (({ cls := "AntLease", name := "share", desc := "(IZ)I" } : Jvm.MethodName), prog_1_method_19_code, 10, (Option.some Jvm.ClassFile.FieldType.int), [], oX7_share, [449, 342, 450, 451])
def oX7_say : List pm_OP := [(0, .aload_n 0, 1, 0, .int 0, [], []),
  (1, .getfield 43, 3, 5, .int 0, [7, 374], []),
  (4, .iload_n 1, 1, 0, .int 0, [], []),
  (5, .iload_n 2, 1, 0, .int 0, [], []),
  (6, .invokevirtual 224, 3, 53, .int 0, [2, 4, 452], []),
  (9, .ireturn, 1, 0, .int 0, [], [])]
def tX7_say : pm_M := (({ cls := "AntLease", name := "say", desc := "(II)I" } : Jvm.MethodName), prog_1_method_20_code, 3, (Option.some Jvm.ClassFile.FieldType.int), [], oX7_say, [453, 342, 454, 455])
def oX7_unsay : List pm_OP := [(0, .aload_n 0, 1, 0, .int 0, [], []),
  (1, .getfield 43, 3, 5, .int 0, [7, 374], []),
  (4, .invokevirtual 226, 3, 54, .int 0, [0, 4, 456], []),
  (7, .ireturn, 1, 0, .int 0, [], [])]
def tX7_unsay : pm_M := (({ cls := "AntLease", name := "unsay", desc := "()I" } : Jvm.MethodName), prog_1_method_21_code, 1, (Option.some Jvm.ClassFile.FieldType.int), [], oX7_unsay, [457, 342, 458, 459])
def oX7_lines : List pm_OP := [(0, .iload_n 1, 1, 0, .int 0, [], []),
  (1, .lookupswitch 57 #[(0, 27), (1, 42)], 27, 16, .int 0, [], [((0), 2), ((1), 9)]),
  (28, .aload_n 0, 1, 0, .int 0, [], []),
  (29, .getfield 43, 3, 5, .int 0, [7, 374], []),
  (32, .aload_n 0, 1, 0, .int 0, [], []),
  (33, .getfield 19, 3, 1, .int 0, [7, 353], []),
  (36, .invokevirtual 108, 3, 12, .int 0, [0, 0, 370], []),
  (39, .invokevirtual 228, 3, 56, .int 0, [1, 4, 460], []),
  (42, .ireturn, 1, 0, .int 0, [], []),
  (43, .aload_n 0, 1, 0, .int 0, [], []),
  (44, .getfield 43, 3, 5, .int 0, [7, 374], []),
  (47, .aload_n 0, 1, 0, .int 0, [], []),
  (48, .getfield 19, 3, 1, .int 0, [7, 353], []),
  (51, .invokevirtual 108, 3, 12, .int 0, [0, 0, 370], []),
  (54, .invokevirtual 231, 3, 57, .int 0, [1, 4, 461], []),
  (57, .ireturn, 1, 0, .int 0, [], []),
  (58, .bipush (-2), 2, 0, .int (-2), [], []),
  (60, .ireturn, 1, 0, .int 0, [], [])]
def tX7_lines : pm_M := (({ cls := "AntLease", name := "lines", desc := "(I)I" } : Jvm.MethodName), prog_1_method_22_code, 2, (Option.some Jvm.ClassFile.FieldType.int), [], oX7_lines, [462, 342, 463, 464])
def oX7_rests : List pm_OP := [(0, .aload_n 0, 1, 0, .int 0, [], []),
  (1, .getfield 19, 3, 1, .int 0, [7, 353], []),
  (4, .iload_n 1, 1, 0, .int 0, [], []),
  (5, .invokevirtual 124, 3, 14, .int 0, [1, 0, 380], []),
  (8, .ifCond .eq 14, 3, 10, .int 0, [], []),
  (11, .aload_n 0, 1, 0, .int 0, [], []),
  (12, .getfield 19, 3, 1, .int 0, [7, 353], []),
  (15, .iload_n 2, 1, 0, .int 0, [], []),
  (16, .invokevirtual 124, 3, 14, .int 0, [1, 0, 380], []),
  (19, .ifCond .ne 5, 3, 12, .int 0, [], []),
  (22, .iconst (-1), 1, 0, .int (-1), [], []),
  (23, .ireturn, 1, 0, .int 0, [], []),
  (24, .iload_n 1, 1, 0, .int 0, [], []),
  (25, .iload_n 2, 1, 0, .int 0, [], []),
  (26, .if_icmp .eq 12, 3, 20, .int 0, [], []),
  (29, .iload_n 3, 1, 0, .int 0, [], []),
  (30, .ifCond .lt 8, 3, 20, .int 0, [], []),
  (33, .iload_n 3, 1, 0, .int 0, [], []),
  (34, .iconst 1, 1, 0, .int (1), [], []),
  (35, .if_icmp .le 6, 3, 22, .int 0, [], []),
  (38, .bipush (-2), 2, 0, .int (-2), [], []),
  (40, .ireturn, 1, 0, .int 0, [], []),
  (41, .aload_n 0, 1, 0, .int 0, [], []),
  (42, .iload_n 1, 1, 0, .int 0, [], []),
  (43, .iload_n 2, 1, 0, .int 0, [], []),
  (44, .invokevirtual 234, 3, 100, .int 0, [2, 7, 465], []),
  (47, .istore 4, 2, 0, .int 0, [], []),
  (49, .iload_n 3, 1, 0, .int 0, [], []),
  (50, .ifCond .ne 11, 3, 32, .int 0, [], []),
  (53, .iload 4, 2, 0, .int 0, [], []),
  (55, .invokestatic 237, 3, 48, .int 0, [1, 466], []),
  (58, .goto 8, 3, 34, .int 0, [], []),
  (61, .iload 4, 2, 0, .int 0, [], []),
  (63, .invokestatic 242, 3, 49, .int 0, [1, 467], []),
  (66, .ireturn, 1, 0, .int 0, [], [])]
def tX7_rests : pm_M := (({ cls := "AntLease", name := "rests", desc := "(III)I" } : Jvm.MethodName), prog_1_method_23_code, 5, (Option.some Jvm.ClassFile.FieldType.int), [], oX7_rests, [468, 342, 469, 470])
def oX7_stray : List pm_OP := [(0, .iload_n 1, 1, 0, .int 0, [], []),
  (1, .ifCond .lt 18, 3, 10, .int 0, [], []),
  (4, .iload_n 1, 1, 0, .int 0, [], []),
  (5, .iconst 5, 1, 0, .int (5), [], []),
  (6, .if_icmp .gt 13, 3, 10, .int 0, [], []),
  (9, .iload_n 2, 1, 0, .int 0, [], []),
  (10, .ifCond .lt 9, 3, 10, .int 0, [], []),
  (13, .iload_n 2, 1, 0, .int 0, [], []),
  (14, .bipush 10, 2, 0, .int (10), [], []),
  (16, .if_icmp .le 6, 3, 12, .int 0, [], []),
  (19, .bipush (-2), 2, 0, .int (-2), [], []),
  (21, .ireturn, 1, 0, .int 0, [], []),
  (22, .aload_n 0, 1, 0, .int 0, [], []),
  (23, .iload_n 2, 1, 0, .int 0, [], []),
  (24, .invokevirtual 245, 3, 101, .int 0, [1, 7, 471], []),
  (27, .iconst 0, 1, 0, .int (0), [], []),
  (28, .istore 4, 2, 0, .int 0, [], []),
  (30, .iload_n 1, 1, 0, .int 0, [], []),
  (31, .istore 5, 2, 0, .int 0, [], []),
  (33, .iload 5, 2, 0, .int 0, [], []),
  (35, .iconst 5, 1, 0, .int (5), [], []),
  (36, .if_icmp .gt 21, 3, 31, .int 0, [], []),
  (39, .iload 4, 2, 0, .int 0, [], []),
  (41, .aload_n 0, 1, 0, .int 0, [], []),
  (42, .getfield 58, 3, 8, .int 0, [7, 472], []),
  (45, .iload 5, 2, 0, .int 0, [], []),
  (47, .iaload, 1, 0, .int 0, [], []),
  (48, .iadd, 1, 0, .int 0, [], []),
  (49, .istore 4, 2, 0, .int 0, [], []),
  (51, .iinc 5 1, 3, 0, .int (1), [], []),
  (54, .goto (-21), 3, 19, .int 0, [], []),
  (57, .iconst 0, 1, 0, .int (0), [], []),
  (58, .istore 5, 2, 0, .int 0, [], []),
  (60, .iconst 0, 1, 0, .int (0), [], []),
  (61, .istore 6, 2, 0, .int 0, [], []),
  (63, .iload 6, 2, 0, .int 0, [], []),
  (65, .iconst 5, 1, 0, .int (5), [], []),
  (66, .if_icmp .gt 21, 3, 47, .int 0, [], []),
  (69, .iload 5, 2, 0, .int 0, [], []),
  (71, .aload_n 0, 1, 0, .int 0, [], []),
  (72, .getfield 58, 3, 8, .int 0, [7, 472], []),
  (75, .iload 6, 2, 0, .int 0, [], []),
  (77, .iaload, 1, 0, .int 0, [], []),
  (78, .iadd, 1, 0, .int 0, [], []),
  (79, .istore 5, 2, 0, .int 0, [], []),
  (81, .iinc 6 1, 3, 0, .int (1), [], []),
  (84, .goto (-21), 3, 35, .int 0, [], []),
  (87, .iload 4, 2, 0, .int 0, [], []),
  (89, .iload 5, 2, 0, .int 0, [], []),
  (91, .iload_n 3, 1, 0, .int 0, [], []),
  (92, .invokestatic 220, 3, 105, .int 0, [3, 448], []),
  (95, .ireturn, 1, 0, .int 0, [], [])]
def tX7_stray : pm_M := (({ cls := "AntLease", name := "stray", desc := "(IIZ)I" } : Jvm.MethodName), prog_1_method_24_code, 7, (Option.some Jvm.ClassFile.FieldType.int), [], oX7_stray, [473, 342, 474, 475])
def oX7_seed : List pm_OP := [(0, .aload_n 0, 1, 0, .int 0, [], []),
  (1, .getfield 61, 3, 9, .int 0, [7, 476], []),
  (4, .lstore_n 3, 1, 0, .int 0, [], []),
  (5, .aload_n 0, 1, 0, .int 0, [], []),
  (6, .lload_n 1, 1, 0, .int 0, [], []),
  (7, .putfield 61, 3, 9, .long 0, [7, 476], []),
  (10, .lload_n 3, 1, 0, .int 0, [], []),
  (11, .lreturn, 1, 0, .int 0, [], [])]
def tX7_seed : pm_M := (({ cls := "AntLease", name := "seed", desc := "(J)J" } : Jvm.MethodName), prog_1_method_25_code, 5, (Option.some Jvm.ClassFile.FieldType.long), [1, 3], oX7_seed, [477, 342, 478, 479])
def oX7_years : List pm_OP := [(0, .iload_n 1, 1, 0, .int 0, [], []),
  (1, .iconst 1, 1, 0, .int (1), [], []),
  (2, .if_icmp .lt 9, 3, 6, .int 0, [], []),
  (5, .iload_n 1, 1, 0, .int 0, [], []),
  (6, .bipush 30, 2, 0, .int (30), [], []),
  (8, .if_icmp .le 6, 3, 8, .int 0, [], []),
  (11, .bipush (-2), 2, 0, .int (-2), [], []),
  (13, .ireturn, 1, 0, .int 0, [], []),
  (14, .aload_n 0, 1, 0, .int 0, [], []),
  (15, .getfield 23, 3, 2, .int 0, [7, 426], []),
  (18, .aload_n 0, 1, 0, .int 0, [], []),
  (19, .getfield 19, 3, 1, .int 0, [7, 353], []),
  (22, .invokevirtual 186, 3, 3, .int 0, [1, 0, 427], []),
  (25, .iconst 0, 1, 0, .int (0), [], []),
  (26, .istore_n 2, 1, 0, .int 0, [], []),
  (27, .iconst 0, 1, 0, .int (0), [], []),
  (28, .istore_n 3, 1, 0, .int 0, [], []),
  (29, .iload_n 3, 1, 0, .int 0, [], []),
  (30, .iload_n 1, 1, 0, .int 0, [], []),
  (31, .if_icmp .ge 53, 3, 46, .int 0, [], []),
  (34, .aload_n 0, 1, 0, .int 0, [], []),
  (35, .aload_n 0, 1, 0, .int 0, [], []),
  (36, .getfield 61, 3, 9, .int 0, [7, 476], []),
  (39, .ldc2_w 249, 3, 0, .long (6364136223846793005), [480], []),
  (42, .lmul, 1, 0, .int 0, [], []),
  (43, .ldc2_w 251, 3, 0, .long (1442695040888963407), [481], []),
  (46, .ladd, 1, 0, .int 0, [], []),
  (47, .putfield 61, 3, 9, .long 0, [7, 476], []),
  (50, .aload_n 0, 1, 0, .int 0, [], []),
  (51, .getfield 23, 3, 2, .int 0, [7, 426], []),
  (54, .aload_n 0, 1, 0, .int 0, [], []),
  (55, .getfield 61, 3, 9, .int 0, [7, 476], []),
  (58, .bipush 33, 2, 0, .int (33), [], []),
  (60, .lushr, 1, 0, .int 0, [], []),
  (61, .l2i, 1, 0, .int 0, [], []),
  (62, .bipush 32, 2, 0, .int (32), [], []),
  (64, .irem, 1, 0, .int 0, [], []),
  (65, .invokestatic 253, 3, 98, .int 0, [2, 482], []),
  (68, .iload_n 2, 1, 0, .int 0, [], []),
  (69, .aload_n 0, 1, 0, .int 0, [], []),
  (70, .getfield 23, 3, 2, .int 0, [7, 426], []),
  (73, .invokevirtual 93, 3, 10, .int 0, [0, 0, 365], []),
  (76, .iadd, 1, 0, .int 0, [], []),
  (77, .istore_n 2, 1, 0, .int 0, [], []),
  (78, .iinc 3 1, 3, 0, .int (1), [], []),
  (81, .goto (-52), 3, 17, .int 0, [], []),
  (84, .iload_n 2, 1, 0, .int 0, [], []),
  (85, .ireturn, 1, 0, .int 0, [], [])]
def tX7_years : pm_M := (({ cls := "AntLease", name := "years", desc := "(I)I" } : Jvm.MethodName), prog_1_method_26_code, 4, (Option.some Jvm.ClassFile.FieldType.int), [], oX7_years, [483, 342, 484, 485])
def oX7_keep : List pm_OP := [(0, .aload_n 0, 1, 0, .int 0, [], []),
  (1, .getfield 36, 3, 4, .int 0, [7, 357], []),
  (4, .iload_n 1, 1, 0, .int 0, [], []),
  (5, .aload_n 0, 1, 0, .int 0, [], []),
  (6, .getfield 19, 3, 1, .int 0, [7, 353], []),
  (9, .invokevirtual 257, 3, 60, .int 0, [2, 5, 486], []),
  (12, .ireturn, 1, 0, .int 0, [], [])]
def tX7_keep : pm_M := (({ cls := "AntLease", name := "keep", desc := "(I)I" } : Jvm.MethodName), prog_1_method_27_code, 2, (Option.some Jvm.ClassFile.FieldType.int), [], oX7_keep, [487, 342, 488, 489])
def oX7_again : List pm_OP := [(0, .aload_n 0, 1, 0, .int 0, [], []),
  (1, .getfield 36, 3, 4, .int 0, [7, 357], []),
  (4, .iload_n 1, 1, 0, .int 0, [], []),
  (5, .aload_n 0, 1, 0, .int 0, [], []),
  (6, .getfield 19, 3, 1, .int 0, [7, 353], []),
  (9, .invokevirtual 261, 3, 61, .int 0, [2, 5, 490], []),
  (12, .istore_n 2, 1, 0, .int 0, [], []),
  (13, .iload_n 2, 1, 0, .int 0, [], []),
  (14, .ifCond .lt 10, 3, 12, .int 0, [], []),
  (17, .aload_n 0, 1, 0, .int 0, [], []),
  (18, .getfield 29, 3, 3, .int 0, [7, 355], []),
  (21, .invokevirtual 80, 3, 42, .int 0, [0, 2, 356], []),
  (24, .iload_n 2, 1, 0, .int 0, [], []),
  (25, .ireturn, 1, 0, .int 0, [], [])]
def tX7_again : pm_M := (({ cls := "AntLease", name := "again", desc := "(I)I" } : Jvm.MethodName), prog_1_method_28_code, 3, (Option.some Jvm.ClassFile.FieldType.int), [], oX7_again, [491, 342, 492, 493])
def oX7_canBe : List pm_OP := [(0, .iload_n 1, 1, 0, .int 0, [], []),
  (1, .bipush 10, 2, 0, .int (10), [], []),
  (3, .idiv, 1, 0, .int 0, [], []),
  (4, .bipush 10, 2, 0, .int (10), [], []),
  (6, .irem, 1, 0, .int 0, [], []),
  (7, .istore_n 2, 1, 0, .int 0, [], []),
  (8, .iload_n 1, 1, 0, .int 0, [], []),
  (9, .bipush 10, 2, 0, .int (10), [], []),
  (11, .irem, 1, 0, .int 0, [], []),
  (12, .istore_n 3, 1, 0, .int 0, [], []),
  (13, .iload_n 1, 1, 0, .int 0, [], []),
  (14, .bipush 100, 2, 0, .int (100), [], []),
  (16, .idiv, 1, 0, .int 0, [], []),
  (17, .tableswitch 174 0 6 #[43, 64, 79, 94, 109, 127, 156], 43, 87, .int 0, [], [((0), 14), ((1), 25), ((2), 34), ((3), 43), ((4), 52), ((5), 62), ((6), 77)]),
  (60, .iload_n 2, 1, 0, .int 0, [], []),
  (61, .ifCond .ne 18, 3, 23, .int 0, [], []),
  (64, .iload_n 3, 1, 0, .int 0, [], []),
  (65, .ifCond .ne 14, 3, 23, .int 0, [], []),
  (68, .aload_n 0, 1, 0, .int 0, [], []),
  (69, .invokevirtual 160, 3, 30, .int 0, [0, 0, 397], []),
  (72, .ifCond .lt 7, 3, 23, .int 0, [], []),
  (75, .iconst 1, 1, 0, .int (1), [], []),
  (76, .goto 4, 3, 24, .int 0, [], []),
  (79, .iconst 0, 1, 0, .int (0), [], []),
  (80, .ireturn, 1, 0, .int 0, [], []),
  (81, .aload_n 0, 1, 0, .int 0, [], []),
  (82, .iload_n 2, 1, 0, .int 0, [], []),
  (83, .iload_n 3, 1, 0, .int 0, [], []),
  (84, .invokevirtual 166, 3, 32, .int 0, [2, 0, 402], []),
  (87, .ifCond .lt 7, 3, 32, .int 0, [], []),
  (90, .iconst 1, 1, 0, .int (1), [], []),
  (91, .goto 4, 3, 33, .int 0, [], []),
  (94, .iconst 0, 1, 0, .int (0), [], []),
  (95, .ireturn, 1, 0, .int 0, [], []),
  (96, .aload_n 0, 1, 0, .int 0, [], []),
  (97, .iload_n 2, 1, 0, .int 0, [], []),
  (98, .iload_n 3, 1, 0, .int 0, [], []),
  (99, .invokevirtual 173, 3, 34, .int 0, [2, 0, 410], []),
  (102, .ifCond .lt 7, 3, 41, .int 0, [], []),
  (105, .iconst 1, 1, 0, .int (1), [], []),
  (106, .goto 4, 3, 42, .int 0, [], []),
  (109, .iconst 0, 1, 0, .int (0), [], []),
  (110, .ireturn, 1, 0, .int 0, [], []),
  (111, .aload_n 0, 1, 0, .int 0, [], []),
  (112, .iload_n 2, 1, 0, .int 0, [], []),
  (113, .iload_n 3, 1, 0, .int 0, [], []),
  (114, .invokevirtual 176, 3, 35, .int 0, [2, 0, 414], []),
  (117, .ifCond .lt 7, 3, 50, .int 0, [], []),
  (120, .iconst 1, 1, 0, .int (1), [], []),
  (121, .goto 4, 3, 51, .int 0, [], []),
  (124, .iconst 0, 1, 0, .int (0), [], []),
  (125, .ireturn, 1, 0, .int 0, [], []),
  (126, .iload_n 2, 1, 0, .int 0, [], []),
  (127, .ifCond .ne 15, 3, 60, .int 0, [], []),
  (130, .aload_n 0, 1, 0, .int 0, [], []),
  (131, .iload_n 3, 1, 0, .int 0, [], []),
  (132, .invokevirtual 179, 3, 36, .int 0, [1, 0, 418], []),
  (135, .ifCond .lt 7, 3, 60, .int 0, [], []),
  (138, .iconst 1, 1, 0, .int (1), [], []),
  (139, .goto 4, 3, 61, .int 0, [], []),
  (142, .iconst 0, 1, 0, .int (0), [], []),
  (143, .ireturn, 1, 0, .int 0, [], []),
  (144, .iload_n 2, 1, 0, .int 0, [], []),
  (145, .ifCond .ne 26, 3, 75, .int 0, [], []),
  (148, .aload_n 0, 1, 0, .int 0, [], []),
  (149, .iload_n 3, 1, 0, .int 0, [], []),
  (150, .invokevirtual 143, 3, 15, .int 0, [1, 0, 389], []),
  (153, .ifCond .eq 18, 3, 75, .int 0, [], []),
  (156, .aload_n 0, 1, 0, .int 0, [], []),
  (157, .invokevirtual 114, 3, 28, .int 0, [0, 0, 372], []),
  (160, .iload_n 3, 1, 0, .int 0, [], []),
  (161, .invokestatic 149, 3, 103, .int 0, [2, 391], []),
  (164, .ifCond .eq 7, 3, 75, .int 0, [], []),
  (167, .iconst 1, 1, 0, .int (1), [], []),
  (168, .goto 4, 3, 76, .int 0, [], []),
  (171, .iconst 0, 1, 0, .int (0), [], []),
  (172, .ireturn, 1, 0, .int 0, [], []),
  (173, .iload_n 2, 1, 0, .int 0, [], []),
  (174, .ifCond .ne 15, 3, 85, .int 0, [], []),
  (177, .aload_n 0, 1, 0, .int 0, [], []),
  (178, .invokevirtual 93, 3, 10, .int 0, [0, 0, 365], []),
  (181, .iload_n 3, 1, 0, .int 0, [], []),
  (182, .if_icmp .lt 7, 3, 85, .int 0, [], []),
  (185, .iconst 1, 1, 0, .int (1), [], []),
  (186, .goto 4, 3, 86, .int 0, [], []),
  (189, .iconst 0, 1, 0, .int (0), [], []),
  (190, .ireturn, 1, 0, .int 0, [], []),
  (191, .iconst 0, 1, 0, .int (0), [], []),
  (192, .ireturn, 1, 0, .int 0, [], [])]
def tX7_canBe : pm_M := (({ cls := "AntLease", name := "canBe", desc := "(LAntLease$House;I)Z" } : Jvm.MethodName), prog_1_method_29_code, 4, (Option.some Jvm.ClassFile.FieldType.boolean), [], oX7_canBe, [494, 342, 495])
def oX7_doByChance : List pm_OP := [(0, .iload_n 1, 1, 0, .int 0, [], []),
  (1, .bipush 8, 2, 0, .int (8), [], []),
  (3, .if_icmp .ge 16, 3, 11, .int 0, [], []),
  (6, .aload_n 0, 1, 0, .int 0, [], []),
  (7, .iload_n 1, 1, 0, .int 0, [], []),
  (8, .iconst 2, 1, 0, .int (2), [], []),
  (9, .idiv, 1, 0, .int 0, [], []),
  (10, .bipush 9, 2, 0, .int (9), [], []),
  (12, .invokevirtual 166, 3, 32, .int 0, [2, 0, 402], []),
  (15, .pop, 1, 0, .int 0, [], []),
  (16, .goto 47, 3, 37, .int 0, [], []),
  (19, .iload_n 1, 1, 0, .int 0, [], []),
  (20, .bipush 16, 2, 0, .int (16), [], []),
  (22, .if_icmp .ge 18, 3, 24, .int 0, [], []),
  (25, .aload_n 0, 1, 0, .int 0, [], []),
  (26, .iload_n 1, 1, 0, .int 0, [], []),
  (27, .bipush 8, 2, 0, .int (8), [], []),
  (29, .isub, 1, 0, .int 0, [], []),
  (30, .iconst 2, 1, 0, .int (2), [], []),
  (31, .idiv, 1, 0, .int 0, [], []),
  (32, .iconst 1, 1, 0, .int (1), [], []),
  (33, .invokevirtual 173, 3, 34, .int 0, [2, 0, 410], []),
  (36, .pop, 1, 0, .int 0, [], []),
  (37, .goto 26, 3, 37, .int 0, [], []),
  (40, .iload_n 1, 1, 0, .int 0, [], []),
  (41, .bipush 26, 2, 0, .int (26), [], []),
  (43, .if_icmp .ge 15, 3, 34, .int 0, [], []),
  (46, .aload_n 0, 1, 0, .int 0, [], []),
  (47, .iload_n 1, 1, 0, .int 0, [], []),
  (48, .bipush 16, 2, 0, .int (16), [], []),
  (50, .isub, 1, 0, .int 0, [], []),
  (51, .invokevirtual 179, 3, 36, .int 0, [1, 0, 418], []),
  (54, .pop, 1, 0, .int 0, [], []),
  (55, .goto 8, 3, 37, .int 0, [], []),
  (58, .aload_n 0, 1, 0, .int 0, [], []),
  (59, .invokevirtual 160, 3, 30, .int 0, [0, 0, 397], []),
  (62, .pop, 1, 0, .int 0, [], []),
  (63, .return_, 1, 0, .int 0, [], [])]
def tX7_doByChance : pm_M := (({ cls := "AntLease", name := "doByChance", desc := "(LAntLease$House;I)V" } : Jvm.MethodName), prog_1_method_30_code, 2, (Option.none : Option Jvm.ClassFile.FieldType), [], oX7_doByChance, [496, 342, 497])
def oX7_worthOfThose : List pm_OP := [(0, .iconst 0, 1, 0, .int (0), [], []),
  (1, .istore_n 2, 1, 0, .int 0, [], []),
  (2, .iconst 0, 1, 0, .int (0), [], []),
  (3, .istore_n 3, 1, 0, .int 0, [], []),
  (4, .iload_n 3, 1, 0, .int 0, [], []),
  (5, .aload_n 0, 1, 0, .int 0, [], []),
  (6, .getfield 19, 3, 1, .int 0, [7, 353], []),
  (9, .invokevirtual 84, 3, 7, .int 0, [0, 0, 359], []),
  (12, .if_icmp .ge 28, 3, 24, .int 0, [], []),
  (15, .iload_n 1, 1, 0, .int 0, [], []),
  (16, .iload_n 3, 1, 0, .int 0, [], []),
  (17, .ishr, 1, 0, .int 0, [], []),
  (18, .iconst 1, 1, 0, .int (1), [], []),
  (19, .iand, 1, 0, .int 0, [], []),
  (20, .ifCond .eq 14, 3, 22, .int 0, [], []),
  (23, .iload_n 2, 1, 0, .int 0, [], []),
  (24, .aload_n 0, 1, 0, .int 0, [], []),
  (25, .getfield 19, 3, 1, .int 0, [7, 353], []),
  (28, .iload_n 3, 1, 0, .int 0, [], []),
  (29, .invokevirtual 140, 3, 21, .int 0, [1, 0, 385], []),
  (32, .iadd, 1, 0, .int 0, [], []),
  (33, .istore_n 2, 1, 0, .int 0, [], []),
  (34, .iinc 3 1, 3, 0, .int (1), [], []),
  (37, .goto (-33), 3, 4, .int 0, [], []),
  (40, .iload_n 2, 1, 0, .int 0, [], []),
  (41, .ireturn, 1, 0, .int 0, [], [])]
def tX7_worthOfThose : pm_M := (({ cls := "AntLease", name := "worthOfThose", desc := "(I)I" } : Jvm.MethodName), prog_1_method_31_code, 4, (Option.some Jvm.ClassFile.FieldType.int), [], oX7_worthOfThose, [498, 342, 499, 500])
def oX7_pairsThatKeep : List pm_OP := [(0, .iconst 0, 1, 0, .int (0), [], []),
  (1, .istore_n 3, 1, 0, .int 0, [], []),
  (2, .iconst 0, 1, 0, .int (0), [], []),
  (3, .istore 4, 2, 0, .int 0, [], []),
  (5, .iload 4, 2, 0, .int 0, [], []),
  (7, .iconst 3, 1, 0, .int (3), [], []),
  (8, .if_icmp .ge 77, 3, 43, .int 0, [], []),
  (11, .iconst 0, 1, 0, .int (0), [], []),
  (12, .istore 5, 2, 0, .int 0, [], []),
  (14, .iload 5, 2, 0, .int 0, [], []),
  (16, .iconst 3, 1, 0, .int (3), [], []),
  (17, .if_icmp .ge 62, 3, 41, .int 0, [], []),
  (20, .aload_n 0, 1, 0, .int 0, [], []),
  (21, .getfield 23, 3, 2, .int 0, [7, 426], []),
  (24, .aload_n 0, 1, 0, .int 0, [], []),
  (25, .getfield 19, 3, 1, .int 0, [7, 353], []),
  (28, .invokevirtual 186, 3, 3, .int 0, [1, 0, 427], []),
  (31, .aload_n 0, 1, 0, .int 0, [], []),
  (32, .getfield 23, 3, 2, .int 0, [7, 426], []),
  (35, .iload_n 1, 1, 0, .int 0, [], []),
  (36, .iload 4, 2, 0, .int 0, [], []),
  (38, .invokevirtual 173, 3, 34, .int 0, [2, 0, 410], []),
  (41, .pop, 1, 0, .int 0, [], []),
  (42, .aload_n 0, 1, 0, .int 0, [], []),
  (43, .getfield 23, 3, 2, .int 0, [7, 426], []),
  (46, .iload_n 2, 1, 0, .int 0, [], []),
  (47, .iload 5, 2, 0, .int 0, [], []),
  (49, .invokevirtual 173, 3, 34, .int 0, [2, 0, 410], []),
  (52, .pop, 1, 0, .int 0, [], []),
  (53, .aload_n 0, 1, 0, .int 0, [], []),
  (54, .getfield 23, 3, 2, .int 0, [7, 426], []),
  (57, .invokevirtual 105, 3, 25, .int 0, [0, 0, 369], []),
  (60, .ifCond .ne 13, 3, 39, .int 0, [], []),
  (63, .iload_n 3, 1, 0, .int 0, [], []),
  (64, .iload 4, 2, 0, .int 0, [], []),
  (66, .iload 5, 2, 0, .int 0, [], []),
  (68, .invokestatic 264, 3, 47, .int 0, [2, 501], []),
  (71, .ior, 1, 0, .int 0, [], []),
  (72, .istore_n 3, 1, 0, .int 0, [], []),
  (73, .iinc 5 1, 3, 0, .int (1), [], []),
  (76, .goto (-62), 3, 9, .int 0, [], []),
  (79, .iinc 4 1, 3, 0, .int (1), [], []),
  (82, .goto (-77), 3, 4, .int 0, [], []),
  (85, .iload_n 3, 1, 0, .int 0, [], []),
  (86, .ireturn, 1, 0, .int 0, [], [])]
def tX7_pairsThatKeep : pm_M := (({ cls := "AntLease", name := "pairsThatKeep", desc := "(II)I" } : Jvm.MethodName), prog_1_method_32_code, 6, (Option.some Jvm.ClassFile.FieldType.int), [], oX7_pairsThatKeep, [502, 342, 503, 504])
def oX7_weighKnown : List pm_OP := [(0, .iconst 0, 1, 0, .int (0), [], []),
  (1, .istore_n 2, 1, 0, .int 0, [], []),
  (2, .iload_n 2, 1, 0, .int 0, [], []),
  (3, .iconst 5, 1, 0, .int (5), [], []),
  (4, .if_icmp .gt 24, 3, 16, .int 0, [], []),
  (7, .aload_n 0, 1, 0, .int 0, [], []),
  (8, .getfield 58, 3, 8, .int 0, [7, 472], []),
  (11, .iload_n 2, 1, 0, .int 0, [], []),
  (12, .iload_n 2, 1, 0, .int 0, [], []),
  (13, .ifCond .ne 7, 3, 12, .int 0, [], []),
  (16, .iconst 1, 1, 0, .int (1), [], []),
  (17, .goto 4, 3, 13, .int 0, [], []),
  (20, .iconst 0, 1, 0, .int (0), [], []),
  (21, .iastore, 1, 0, .int 0, [], []),
  (22, .iinc 2 1, 3, 0, .int (1), [], []),
  (25, .goto (-23), 3, 2, .int 0, [], []),
  (28, .aload_n 0, 1, 0, .int 0, [], []),
  (29, .getfield 19, 3, 1, .int 0, [7, 353], []),
  (32, .invokevirtual 111, 3, 26, .int 0, [0, 0, 371], []),
  (35, .istore_n 2, 1, 0, .int 0, [], []),
  (36, .iconst 0, 1, 0, .int (0), [], []),
  (37, .istore_n 3, 1, 0, .int 0, [], []),
  (38, .iload_n 3, 1, 0, .int 0, [], []),
  (39, .aload_n 0, 1, 0, .int 0, [], []),
  (40, .getfield 19, 3, 1, .int 0, [7, 353], []),
  (43, .invokevirtual 87, 3, 8, .int 0, [0, 0, 360], []),
  (46, .if_icmp .ge 125, 3, 95, .int 0, [], []),
  (49, .aload_n 0, 1, 0, .int 0, [], []),
  (50, .getfield 19, 3, 1, .int 0, [7, 353], []),
  (53, .iload_n 3, 1, 0, .int 0, [], []),
  (54, .invokevirtual 146, 3, 20, .int 0, [1, 0, 390], []),
  (57, .istore 4, 2, 0, .int 0, [], []),
  (59, .iload 4, 2, 0, .int 0, [], []),
  (61, .iconst 1, 1, 0, .int (1), [], []),
  (62, .iadd, 1, 0, .int 0, [], []),
  (63, .bipush 9, 2, 0, .int (9), [], []),
  (65, .invokestatic 215, 3, 0, .ref 2, [447, 176, 151, 177], []),
  (68, .istore 5, 2, 0, .int 0, [], []),
  (70, .iload_n 2, 1, 0, .int 0, [], []),
  (71, .iload 4, 2, 0, .int 0, [], []),
  (73, .invokestatic 149, 3, 103, .int 0, [2, 391], []),
  (76, .ifCond .eq 10, 3, 46, .int 0, [], []),
  (79, .bipush 10, 2, 0, .int (10), [], []),
  (81, .iload_n 1, 1, 0, .int 0, [], []),
  (82, .isub, 1, 0, .int 0, [], []),
  (83, .goto 4, 3, 47, .int 0, [], []),
  (86, .iconst 0, 1, 0, .int (0), [], []),
  (87, .iload_n 2, 1, 0, .int 0, [], []),
  (88, .iload 5, 2, 0, .int 0, [], []),
  (90, .invokestatic 149, 3, 103, .int 0, [2, 391], []),
  (93, .ifCond .eq 7, 3, 53, .int 0, [], []),
  (96, .iload_n 1, 1, 0, .int 0, [], []),
  (97, .goto 4, 3, 54, .int 0, [], []),
  (100, .iconst 0, 1, 0, .int (0), [], []),
  (101, .iadd, 1, 0, .int 0, [], []),
  (102, .istore 6, 2, 0, .int 0, [], []),
  (104, .iconst 5, 1, 0, .int (5), [], []),
  (105, .istore 7, 2, 0, .int 0, [], []),
  (107, .iload 7, 2, 0, .int 0, [], []),
  (109, .ifCond .le 42, 3, 83, .int 0, [], []),
  (112, .aload_n 0, 1, 0, .int 0, [], []),
  (113, .getfield 58, 3, 8, .int 0, [7, 472], []),
  (116, .iload 7, 2, 0, .int 0, [], []),
  (118, .aload_n 0, 1, 0, .int 0, [], []),
  (119, .getfield 58, 3, 8, .int 0, [7, 472], []),
  (122, .iload 7, 2, 0, .int 0, [], []),
  (124, .iaload, 1, 0, .int 0, [], []),
  (125, .bipush 10, 2, 0, .int (10), [], []),
  (127, .iload 6, 2, 0, .int 0, [], []),
  (129, .isub, 1, 0, .int 0, [], []),
  (130, .imul, 1, 0, .int 0, [], []),
  (131, .aload_n 0, 1, 0, .int 0, [], []),
  (132, .getfield 58, 3, 8, .int 0, [7, 472], []),
  (135, .iload 7, 2, 0, .int 0, [], []),
  (137, .iconst 1, 1, 0, .int (1), [], []),
  (138, .isub, 1, 0, .int 0, [], []),
  (139, .iaload, 1, 0, .int 0, [], []),
  (140, .iload 6, 2, 0, .int 0, [], []),
  (142, .imul, 1, 0, .int 0, [], []),
  (143, .iadd, 1, 0, .int 0, [], []),
  (144, .iastore, 1, 0, .int 0, [], []),
  (145, .iinc 7 (-1), 3, 0, .int (-1), [], []),
  (148, .goto (-41), 3, 58, .int 0, [], []),
  (151, .aload_n 0, 1, 0, .int 0, [], []),
  (152, .getfield 58, 3, 8, .int 0, [7, 472], []),
  (155, .iconst 0, 1, 0, .int (0), [], []),
  (156, .dup2, 1, 0, .int 0, [], []),
  (157, .iaload, 1, 0, .int 0, [], []),
  (158, .bipush 10, 2, 0, .int (10), [], []),
  (160, .iload 6, 2, 0, .int 0, [], []),
  (162, .isub, 1, 0, .int 0, [], []),
  (163, .imul, 1, 0, .int 0, [], []),
  (164, .iastore, 1, 0, .int 0, [], []),
  (165, .iinc 3 1, 3, 0, .int (1), [], []),
  (168, .goto (-130), 3, 22, .int 0, [], []),
  (171, .return_, 1, 0, .int 0, [], [])]
def tX7_weighKnown : pm_M := (({ cls := "AntLease", name := "weighKnown", desc := "(I)V" } : Jvm.MethodName), prog_1_method_33_code, 8, (Option.none : Option Jvm.ClassFile.FieldType), [], oX7_weighKnown, [505, 342, 506, 507])
def oX7_isPlace : List pm_OP := [(0, .iload_n 0, 1, 0, .int 0, [], []),
  (1, .ifCond .lt 13, 3, 7, .int 0, [], []),
  (4, .iload_n 0, 1, 0, .int 0, [], []),
  (5, .bipush 10, 2, 0, .int (10), [], []),
  (7, .if_icmp .ge 7, 3, 7, .int 0, [], []),
  (10, .iconst 1, 1, 0, .int (1), [], []),
  (11, .goto 4, 3, 8, .int 0, [], []),
  (14, .iconst 0, 1, 0, .int (0), [], []),
  (15, .ireturn, 1, 0, .int 0, [], [])]
def tX7_isPlace : pm_M := (({ cls := "AntLease", name := "isPlace", desc := "(I)Z" } : Jvm.MethodName), prog_1_method_34_code, 1, (Option.some Jvm.ClassFile.FieldType.boolean), [], oX7_isPlace, [508, 342, 509])
def oX7_has : List pm_OP := [(0, .iload_n 1, 1, 0, .int 0, [], []),
  (1, .invokestatic 267, 3, 102, .int 0, [1, 510], []),
  (4, .ifCond .eq 15, 3, 11, .int 0, [], []),
  (7, .iload_n 0, 1, 0, .int 0, [], []),
  (8, .iload_n 1, 1, 0, .int 0, [], []),
  (9, .ishr, 1, 0, .int 0, [], []),
  (10, .iconst 1, 1, 0, .int (1), [], []),
  (11, .iand, 1, 0, .int 0, [], []),
  (12, .ifCond .eq 7, 3, 11, .int 0, [], []),
  (15, .iconst 1, 1, 0, .int (1), [], []),
  (16, .goto 4, 3, 12, .int 0, [], []),
  (19, .iconst 0, 1, 0, .int (0), [], []),
  (20, .ireturn, 1, 0, .int 0, [], [])]
def tX7_has : pm_M := (({ cls := "AntLease", name := "has", desc := "(II)Z" } : Jvm.MethodName), prog_1_method_35_code, 2, (Option.some Jvm.ClassFile.FieldType.boolean), [], oX7_has, [511, 342, 512])
def oX7_factorial : List pm_OP := [(0, .iconst 1, 1, 0, .int (1), [], []),
  (1, .istore_n 1, 1, 0, .int 0, [], []),
  (2, .iconst 2, 1, 0, .int (2), [], []),
  (3, .istore_n 2, 1, 0, .int 0, [], []),
  (4, .iload_n 2, 1, 0, .int 0, [], []),
  (5, .iload_n 0, 1, 0, .int 0, [], []),
  (6, .if_icmp .gt 13, 3, 13, .int 0, [], []),
  (9, .iload_n 1, 1, 0, .int 0, [], []),
  (10, .iload_n 2, 1, 0, .int 0, [], []),
  (11, .imul, 1, 0, .int 0, [], []),
  (12, .istore_n 1, 1, 0, .int 0, [], []),
  (13, .iinc 2 1, 3, 0, .int (1), [], []),
  (16, .goto (-12), 3, 4, .int 0, [], []),
  (19, .iload_n 1, 1, 0, .int 0, [], []),
  (20, .ireturn, 1, 0, .int 0, [], [])]
def tX7_factorial : pm_M := (({ cls := "AntLease", name := "factorial", desc := "(I)I" } : Jvm.MethodName), prog_1_method_36_code, 3, (Option.some Jvm.ClassFile.FieldType.int), [], oX7_factorial, [513, 342, 514])
def oX7_told : List pm_OP := [(0, .iload_n 0, 1, 0, .int 0, [], []),
  (1, .istore_n 3, 1, 0, .int 0, [], []),
  (2, .iload_n 1, 1, 0, .int 0, [], []),
  (3, .istore 4, 2, 0, .int 0, [], []),
  (5, .iconst 0, 1, 0, .int (0), [], []),
  (6, .istore 5, 2, 0, .int 0, [], []),
  (8, .iload 5, 2, 0, .int 0, [], []),
  (10, .bipush 64, 2, 0, .int (64), [], []),
  (12, .if_icmp .ge 27, 3, 21, .int 0, [], []),
  (15, .iload 4, 2, 0, .int 0, [], []),
  (17, .ifCond .le 22, 3, 21, .int 0, [], []),
  (20, .iload_n 3, 1, 0, .int 0, [], []),
  (21, .iload 4, 2, 0, .int 0, [], []),
  (23, .irem, 1, 0, .int 0, [], []),
  (24, .istore 6, 2, 0, .int 0, [], []),
  (26, .iload 4, 2, 0, .int 0, [], []),
  (28, .istore_n 3, 1, 0, .int 0, [], []),
  (29, .iload 6, 2, 0, .int 0, [], []),
  (31, .istore 4, 2, 0, .int 0, [], []),
  (33, .iinc 5 1, 3, 0, .int (1), [], []),
  (36, .goto (-28), 3, 6, .int 0, [], []),
  (39, .iload_n 3, 1, 0, .int 0, [], []),
  (40, .ifCond .gt 5, 3, 25, .int 0, [], []),
  (43, .iconst 0, 1, 0, .int (0), [], []),
  (44, .ireturn, 1, 0, .int 0, [], []),
  (45, .iload_n 2, 1, 0, .int 0, [], []),
  (46, .ifCond .eq 9, 3, 31, .int 0, [], []),
  (49, .iload_n 0, 1, 0, .int 0, [], []),
  (50, .iload_n 3, 1, 0, .int 0, [], []),
  (51, .idiv, 1, 0, .int 0, [], []),
  (52, .goto 6, 3, 34, .int 0, [], []),
  (55, .iload_n 1, 1, 0, .int 0, [], []),
  (56, .iload_n 3, 1, 0, .int 0, [], []),
  (57, .idiv, 1, 0, .int 0, [], []),
  (58, .ireturn, 1, 0, .int 0, [], [])]
def tX7_told : pm_M := (({ cls := "AntLease", name := "told", desc := "(IIZ)I" } : Jvm.MethodName), prog_1_method_37_code, 7, (Option.some Jvm.ClassFile.FieldType.int), [], oX7_told, [515, 342, 516])
def oX8_in : List pm_OP := [(0, .lload_n 0, 1, 0, .int 0, [], []),
  (1, .lload_n 2, 1, 0, .int 0, [], []),
  (2, .lcmp, 1, 0, .int 0, [], []),
  (3, .ifCond .lt 14, 3, 10, .int 0, [], []),
  (6, .lload_n 0, 1, 0, .int 0, [], []),
  (7, .lload 4, 2, 0, .int 0, [], []),
  (9, .lcmp, 1, 0, .int 0, [], []),
  (10, .ifCond .gt 7, 3, 10, .int 0, [], []),
  (13, .iconst 1, 1, 0, .int (1), [], []),
  (14, .goto 4, 3, 11, .int 0, [], []),
  (17, .iconst 0, 1, 0, .int (0), [], []),
  (18, .ireturn, 1, 0, .int 0, [], [])]
def tX8_in : pm_M := (({ cls := "AntLeaseModel", name := "in", desc := "(JJJ)Z" } : Jvm.MethodName), prog_10_method_3_code, 6, (Option.some Jvm.ClassFile.FieldType.boolean), [0, 2, 4], oX8_in, [517, 518, 519])
def oX8_has : List pm_OP := [(0, .iload_n 0, 1, 0, .int 0, [], []),
  (1, .iload_n 1, 1, 0, .int 0, [], []),
  (2, .ishr, 1, 0, .int 0, [], []),
  (3, .iconst 1, 1, 0, .int (1), [], []),
  (4, .iand, 1, 0, .int 0, [], []),
  (5, .iconst 1, 1, 0, .int (1), [], []),
  (6, .if_icmp .ne 7, 3, 9, .int 0, [], []),
  (9, .iconst 1, 1, 0, .int (1), [], []),
  (10, .goto 4, 3, 10, .int 0, [], []),
  (13, .iconst 0, 1, 0, .int (0), [], []),
  (14, .ireturn, 1, 0, .int 0, [], [])]
def tX8_has : pm_M := (({ cls := "AntLeaseModel", name := "has", desc := "(II)Z" } : Jvm.MethodName), prog_10_method_4_code, 2, (Option.some Jvm.ClassFile.FieldType.boolean), [], oX8_has, [520, 518, 521])
def oX8_many : List pm_OP := [(0, .iconst 0, 1, 0, .int (0), [], []),
  (1, .istore_n 1, 1, 0, .int 0, [], []),
  (2, .iconst 0, 1, 0, .int (0), [], []),
  (3, .istore_n 2, 1, 0, .int 0, [], []),
  (4, .iload_n 2, 1, 0, .int 0, [], []),
  (5, .bipush 10, 2, 0, .int (10), [], []),
  (7, .if_icmp .ge 17, 3, 17, .int 0, [], []),
  (10, .iload_n 1, 1, 0, .int 0, [], []),
  (11, .iload_n 0, 1, 0, .int 0, [], []),
  (12, .iload_n 2, 1, 0, .int 0, [], []),
  (13, .ishr, 1, 0, .int 0, [], []),
  (14, .iconst 1, 1, 0, .int (1), [], []),
  (15, .iand, 1, 0, .int 0, [], []),
  (16, .iadd, 1, 0, .int 0, [], []),
  (17, .istore_n 1, 1, 0, .int 0, [], []),
  (18, .iinc 2 1, 3, 0, .int (1), [], []),
  (21, .goto (-17), 3, 4, .int 0, [], []),
  (24, .iload_n 1, 1, 0, .int 0, [], []),
  (25, .ireturn, 1, 0, .int 0, [], [])]
def tX8_many : pm_M := (({ cls := "AntLeaseModel", name := "many", desc := "(I)I" } : Jvm.MethodName), prog_10_method_5_code, 3, (Option.some Jvm.ClassFile.FieldType.int), [], oX8_many, [522, 518, 523])
def oX8_power : List pm_OP := [(0, .iconst 1, 1, 0, .int (1), [], []),
  (1, .istore_n 2, 1, 0, .int 0, [], []),
  (2, .iconst 0, 1, 0, .int (0), [], []),
  (3, .istore_n 3, 1, 0, .int 0, [], []),
  (4, .iload_n 3, 1, 0, .int 0, [], []),
  (5, .iload_n 1, 1, 0, .int 0, [], []),
  (6, .if_icmp .ge 13, 3, 13, .int 0, [], []),
  (9, .iload_n 2, 1, 0, .int 0, [], []),
  (10, .iload_n 0, 1, 0, .int 0, [], []),
  (11, .imul, 1, 0, .int 0, [], []),
  (12, .istore_n 2, 1, 0, .int 0, [], []),
  (13, .iinc 3 1, 3, 0, .int (1), [], []),
  (16, .goto (-12), 3, 4, .int 0, [], []),
  (19, .iload_n 2, 1, 0, .int 0, [], []),
  (20, .ireturn, 1, 0, .int 0, [], [])]
def tX8_power : pm_M := (({ cls := "AntLeaseModel", name := "power", desc := "(II)I" } : Jvm.MethodName), prog_10_method_6_code, 4, (Option.some Jvm.ClassFile.FieldType.int), [], oX8_power, [524, 518, 525])
def oX8_apart : List pm_OP := [(0, .iload_n 0, 1, 0, .int 0, [], []),
  (1, .iload_n 1, 1, 0, .int 0, [], []),
  (2, .if_icmp .ge 9, 3, 7, .int 0, [], []),
  (5, .iload_n 1, 1, 0, .int 0, [], []),
  (6, .iload_n 0, 1, 0, .int 0, [], []),
  (7, .isub, 1, 0, .int 0, [], []),
  (8, .goto 6, 3, 10, .int 0, [], []),
  (11, .iload_n 0, 1, 0, .int 0, [], []),
  (12, .iload_n 1, 1, 0, .int 0, [], []),
  (13, .isub, 1, 0, .int 0, [], []),
  (14, .ireturn, 1, 0, .int 0, [], [])]
def tX8_apart : pm_M := (({ cls := "AntLeaseModel", name := "apart", desc := "(II)I" } : Jvm.MethodName), prog_10_method_7_code, 2, (Option.some Jvm.ClassFile.FieldType.int), [], oX8_apart, [526, 518, 527])
def oX8_noFood : List pm_OP := [(0, .iload_n 1, 1, 0, .int 0, [], []),
  (1, .i2l, 1, 0, .int 0, [], []),
  (2, .lconst 0, 1, 0, .long (0), [], []),
  (3, .aload_n 0, 1, 0, .int 0, [], []),
  (4, .getfield 54, 3, 5, .int 0, [8, 528], []),
  (7, .iconst 1, 1, 0, .int (1), [], []),
  (8, .isub, 1, 0, .int 0, [], []),
  (9, .i2l, 1, 0, .int 0, [], []),
  (10, .invokestatic 57, 3, 106, .int 0, [3, 529], []),
  (13, .ifCond .ne 7, 3, 12, .int 0, [], []),
  (16, .iconst 1, 1, 0, .int (1), [], []),
  (17, .goto 4, 3, 13, .int 0, [], []),
  (20, .iconst 0, 1, 0, .int (0), [], []),
  (21, .ireturn, 1, 0, .int 0, [], [])]
def tX8_noFood : pm_M := (({ cls := "AntLeaseModel", name := "noFood", desc := "(I)Z" } : Jvm.MethodName), prog_10_method_8_code, 2, (Option.some Jvm.ClassFile.FieldType.boolean), [], oX8_noFood, [530, 518, 531, 532])
def oX8_noThing : List pm_OP := [(0, .iload_n 1, 1, 0, .int 0, [], []),
  (1, .i2l, 1, 0, .int 0, [], []),
  (2, .lconst 0, 1, 0, .long (0), [], []),
  (3, .aload_n 0, 1, 0, .int 0, [], []),
  (4, .getfield 61, 3, 7, .int 0, [8, 533], []),
  (7, .iconst 1, 1, 0, .int (1), [], []),
  (8, .isub, 1, 0, .int 0, [], []),
  (9, .i2l, 1, 0, .int 0, [], []),
  (10, .invokestatic 57, 3, 106, .int 0, [3, 529], []),
  (13, .ifCond .ne 7, 3, 12, .int 0, [], []),
  (16, .iconst 1, 1, 0, .int (1), [], []),
  (17, .goto 4, 3, 13, .int 0, [], []),
  (20, .iconst 0, 1, 0, .int (0), [], []),
  (21, .ireturn, 1, 0, .int 0, [], [])]
def tX8_noThing : pm_M := (({ cls := "AntLeaseModel", name := "noThing", desc := "(I)Z" } : Jvm.MethodName), prog_10_method_9_code, 2, (Option.some Jvm.ClassFile.FieldType.boolean), [], oX8_noThing, [534, 518, 535, 536])
def oX8_noPlace : List pm_OP := [(0, .iload_n 0, 1, 0, .int 0, [], []),
  (1, .i2l, 1, 0, .int 0, [], []),
  (2, .lconst 0, 1, 0, .long (0), [], []),
  (3, .ldc2_w 64, 3, 0, .long (9), [537], []),
  (6, .invokestatic 57, 3, 106, .int 0, [3, 529], []),
  (9, .ifCond .ne 7, 3, 8, .int 0, [], []),
  (12, .iconst 1, 1, 0, .int (1), [], []),
  (13, .goto 4, 3, 9, .int 0, [], []),
  (16, .iconst 0, 1, 0, .int (0), [], []),
  (17, .ireturn, 1, 0, .int 0, [], [])]
def tX8_noPlace : pm_M := (({ cls := "AntLeaseModel", name := "noPlace", desc := "(I)Z" } : Jvm.MethodName), prog_10_method_10_code, 1, (Option.some Jvm.ClassFile.FieldType.boolean), [], oX8_noPlace, [538, 518, 539])
def oX8_write : List pm_OP := [(0, .aload_n 0, 1, 0, .int 0, [], []),
  (1, .iconst 0, 1, 0, .int (0), [], []),
  (2, .putfield 50, 3, 0, .int 0, [8, 540], []),
  (5, .iload_n 1, 1, 0, .int 0, [], []),
  (6, .i2l, 1, 0, .int 0, [], []),
  (7, .lconst 0, 1, 0, .long (0), [], []),
  (8, .ldc2_w 66, 3, 0, .long (255), [541], []),
  (11, .invokestatic 57, 3, 106, .int 0, [3, 529], []),
  (14, .ifCond .ne 6, 3, 11, .int 0, [], []),
  (17, .bipush (-2), 2, 0, .int (-2), [], []),
  (19, .ireturn, 1, 0, .int 0, [], []),
  (20, .aload_n 0, 1, 0, .int 0, [], []),
  (21, .getfield 68, 3, 2, .int 0, [8, 542], []),
  (24, .bipush 48, 2, 0, .int (48), [], []),
  (26, .if_icmp .ne 6, 3, 17, .int 0, [], []),
  (29, .bipush (-4), 2, 0, .int (-4), [], []),
  (31, .ireturn, 1, 0, .int 0, [], []),
  (32, .aload_n 0, 1, 0, .int 0, [], []),
  (33, .getfield 7, 3, 1, .int 0, [8, 543], []),
  (36, .aload_n 0, 1, 0, .int 0, [], []),
  (37, .getfield 68, 3, 2, .int 0, [8, 542], []),
  (40, .iload_n 1, 1, 0, .int 0, [], []),
  (41, .iastore, 1, 0, .int 0, [], []),
  (42, .aload_n 0, 1, 0, .int 0, [], []),
  (43, .dup, 1, 0, .int 0, [], []),
  (44, .getfield 68, 3, 2, .int 0, [8, 542], []),
  (47, .iconst 1, 1, 0, .int (1), [], []),
  (48, .iadd, 1, 0, .int 0, [], []),
  (49, .putfield 68, 3, 2, .int 0, [8, 542], []),
  (52, .aload_n 0, 1, 0, .int 0, [], []),
  (53, .getfield 68, 3, 2, .int 0, [8, 542], []),
  (56, .ireturn, 1, 0, .int 0, [], [])]
def tX8_write : pm_M := (({ cls := "AntLeaseModel", name := "write", desc := "(I)I" } : Jvm.MethodName), prog_10_method_11_code, 2, (Option.some Jvm.ClassFile.FieldType.int), [], oX8_write, [544, 518, 545, 546])
def oX8_wipe : List pm_OP := [(0, .aload_n 0, 1, 0, .int 0, [], []),
  (1, .iconst 0, 1, 0, .int (0), [], []),
  (2, .putfield 50, 3, 0, .int 0, [8, 540], []),
  (5, .aload_n 0, 1, 0, .int 0, [], []),
  (6, .getfield 68, 3, 2, .int 0, [8, 542], []),
  (9, .istore_n 1, 1, 0, .int 0, [], []),
  (10, .aload_n 0, 1, 0, .int 0, [], []),
  (11, .iconst 0, 1, 0, .int (0), [], []),
  (12, .putfield 68, 3, 2, .int 0, [8, 542], []),
  (15, .iload_n 1, 1, 0, .int 0, [], []),
  (16, .ireturn, 1, 0, .int 0, [], [])]
def tX8_wipe : pm_M := (({ cls := "AntLeaseModel", name := "wipe", desc := "()I" } : Jvm.MethodName), prog_10_method_12_code, 2, (Option.some Jvm.ClassFile.FieldType.int), [], oX8_wipe, [547, 518, 548, 549])
def oX8_figure : List pm_OP := [(0, .aload_n 0, 1, 0, .int 0, [], []),
  (1, .getfield 71, 3, 3, .int 0, [8, 550], []),
  (4, .aload_n 0, 1, 0, .int 0, [], []),
  (5, .getfield 68, 3, 2, .int 0, [8, 542], []),
  (8, .if_icmp .eq 25, 3, 18, .int 0, [], []),
  (11, .aload_n 0, 1, 0, .int 0, [], []),
  (12, .getfield 7, 3, 1, .int 0, [8, 543], []),
  (15, .aload_n 0, 1, 0, .int 0, [], []),
  (16, .getfield 71, 3, 3, .int 0, [8, 550], []),
  (19, .iaload, 1, 0, .int 0, [], []),
  (20, .bipush 48, 2, 0, .int (48), [], []),
  (22, .isub, 1, 0, .int 0, [], []),
  (23, .i2l, 1, 0, .int 0, [], []),
  (24, .lconst 0, 1, 0, .long (0), [], []),
  (25, .iload_n 1, 1, 0, .int 0, [], []),
  (26, .i2l, 1, 0, .int 0, [], []),
  (27, .invokestatic 57, 3, 106, .int 0, [3, 529], []),
  (30, .ifCond .ne 6, 3, 20, .int 0, [], []),
  (33, .bipush (-9), 2, 0, .int (-9), [], []),
  (35, .ireturn, 1, 0, .int 0, [], []),
  (36, .aload_n 0, 1, 0, .int 0, [], []),
  (37, .dup, 1, 0, .int 0, [], []),
  (38, .getfield 71, 3, 3, .int 0, [8, 550], []),
  (41, .iconst 1, 1, 0, .int (1), [], []),
  (42, .iadd, 1, 0, .int 0, [], []),
  (43, .putfield 71, 3, 3, .int 0, [8, 550], []),
  (46, .aload_n 0, 1, 0, .int 0, [], []),
  (47, .getfield 7, 3, 1, .int 0, [8, 543], []),
  (50, .aload_n 0, 1, 0, .int 0, [], []),
  (51, .getfield 71, 3, 3, .int 0, [8, 550], []),
  (54, .iconst 1, 1, 0, .int (1), [], []),
  (55, .isub, 1, 0, .int 0, [], []),
  (56, .iaload, 1, 0, .int 0, [], []),
  (57, .bipush 48, 2, 0, .int (48), [], []),
  (59, .isub, 1, 0, .int 0, [], []),
  (60, .ireturn, 1, 0, .int 0, [], [])]
def tX8_figure : pm_M := (({ cls := "AntLeaseModel", name := "figure", desc := "(I)I" } : Jvm.MethodName), prog_10_method_13_code, 2, (Option.some Jvm.ClassFile.FieldType.int), [], oX8_figure, [551, 518, 552, 553])
def oX8_readOneFood : List pm_OP := [(0, .aload_n 0, 1, 0, .int 0, [], []),
  (1, .bipush 9, 2, 0, .int (9), [], []),
  (3, .invokevirtual 74, 3, 116, .int 0, [1, 8, 554], []),
  (6, .istore_n 1, 1, 0, .int 0, [], []),
  (7, .iload_n 1, 1, 0, .int 0, [], []),
  (8, .bipush (-9), 2, 0, .int (-9), [], []),
  (10, .if_icmp .ne 8, 3, 9, .int 0, [], []),
  (13, .bipush (-9), 2, 0, .int (-9), [], []),
  (15, .goto 8, 3, 12, .int 0, [], []),
  (18, .aload_n 0, 1, 0, .int 0, [], []),
  (19, .iconst 3, 1, 0, .int (3), [], []),
  (20, .invokevirtual 74, 3, 116, .int 0, [1, 8, 554], []),
  (23, .istore_n 2, 1, 0, .int 0, [], []),
  (24, .iload_n 2, 1, 0, .int 0, [], []),
  (25, .bipush (-9), 2, 0, .int (-9), [], []),
  (27, .if_icmp .ne 5, 3, 18, .int 0, [], []),
  (30, .iconst 0, 1, 0, .int (0), [], []),
  (31, .ireturn, 1, 0, .int 0, [], []),
  (32, .aload_n 0, 1, 0, .int 0, [], []),
  (33, .getfield 16, 3, 11, .int 0, [8, 555], []),
  (36, .iconst 2, 1, 0, .int (2), [], []),
  (37, .aload_n 0, 1, 0, .int 0, [], []),
  (38, .getfield 78, 3, 10, .int 0, [8, 556], []),
  (41, .imul, 1, 0, .int 0, [], []),
  (42, .bipush 10, 2, 0, .int (10), [], []),
  (44, .iload_n 1, 1, 0, .int 0, [], []),
  (45, .imul, 1, 0, .int 0, [], []),
  (46, .iastore, 1, 0, .int 0, [], []),
  (47, .aload_n 0, 1, 0, .int 0, [], []),
  (48, .getfield 16, 3, 11, .int 0, [8, 555], []),
  (51, .iconst 2, 1, 0, .int (2), [], []),
  (52, .aload_n 0, 1, 0, .int 0, [], []),
  (53, .getfield 78, 3, 10, .int 0, [8, 556], []),
  (56, .imul, 1, 0, .int 0, [], []),
  (57, .iconst 1, 1, 0, .int (1), [], []),
  (58, .iadd, 1, 0, .int 0, [], []),
  (59, .iload_n 2, 1, 0, .int 0, [], []),
  (60, .iastore, 1, 0, .int 0, [], []),
  (61, .aload_n 0, 1, 0, .int 0, [], []),
  (62, .dup, 1, 0, .int 0, [], []),
  (63, .getfield 78, 3, 10, .int 0, [8, 556], []),
  (66, .iconst 1, 1, 0, .int (1), [], []),
  (67, .iadd, 1, 0, .int 0, [], []),
  (68, .putfield 78, 3, 10, .int 0, [8, 556], []),
  (71, .iconst 1, 1, 0, .int (1), [], []),
  (72, .ireturn, 1, 0, .int 0, [], [])]
def tX8_readOneFood : pm_M := (({ cls := "AntLeaseModel", name := "readOneFood", desc := "()Z" } : Jvm.MethodName), prog_10_method_14_code, 3, (Option.some Jvm.ClassFile.FieldType.boolean), [], oX8_readOneFood, [557, 518, 558, 559])
def oX8_readOneThing : List pm_OP := [(0, .aload_n 0, 1, 0, .int 0, [], []),
  (1, .bipush 9, 2, 0, .int (9), [], []),
  (3, .invokevirtual 74, 3, 116, .int 0, [1, 8, 554], []),
  (6, .istore_n 1, 1, 0, .int 0, [], []),
  (7, .iload_n 1, 1, 0, .int 0, [], []),
  (8, .bipush (-9), 2, 0, .int (-9), [], []),
  (10, .if_icmp .ne 5, 3, 9, .int 0, [], []),
  (13, .iconst 0, 1, 0, .int (0), [], []),
  (14, .ireturn, 1, 0, .int 0, [], []),
  (15, .aload_n 0, 1, 0, .int 0, [], []),
  (16, .getfield 19, 3, 13, .int 0, [8, 560], []),
  (19, .aload_n 0, 1, 0, .int 0, [], []),
  (20, .getfield 81, 3, 12, .int 0, [8, 561], []),
  (23, .iload_n 1, 1, 0, .int 0, [], []),
  (24, .iastore, 1, 0, .int 0, [], []),
  (25, .aload_n 0, 1, 0, .int 0, [], []),
  (26, .dup, 1, 0, .int 0, [], []),
  (27, .getfield 81, 3, 12, .int 0, [8, 561], []),
  (30, .iconst 1, 1, 0, .int (1), [], []),
  (31, .iadd, 1, 0, .int 0, [], []),
  (32, .putfield 81, 3, 12, .int 0, [8, 561], []),
  (35, .iconst 1, 1, 0, .int (1), [], []),
  (36, .ireturn, 1, 0, .int 0, [], [])]
def tX8_readOneThing : pm_M := (({ cls := "AntLeaseModel", name := "readOneThing", desc := "()Z" } : Jvm.MethodName), prog_10_method_15_code, 2, (Option.some Jvm.ClassFile.FieldType.boolean), [], oX8_readOneThing, [562, 518, 563, 564])
def oX8_readPart : List pm_OP := [(0, .aload_n 0, 1, 0, .int 0, [], []),
  (1, .getfield 7, 3, 1, .int 0, [8, 543], []),
  (4, .aload_n 0, 1, 0, .int 0, [], []),
  (5, .getfield 71, 3, 3, .int 0, [8, 550], []),
  (8, .iaload, 1, 0, .int 0, [], []),
  (9, .istore_n 1, 1, 0, .int 0, [], []),
  (10, .aload_n 0, 1, 0, .int 0, [], []),
  (11, .dup, 1, 0, .int 0, [], []),
  (12, .getfield 71, 3, 3, .int 0, [8, 550], []),
  (15, .iconst 1, 1, 0, .int (1), [], []),
  (16, .iadd, 1, 0, .int 0, [], []),
  (17, .putfield 71, 3, 3, .int 0, [8, 550], []),
  (20, .iload_n 1, 1, 0, .int 0, [], []),
  (21, .bipush 70, 2, 0, .int (70), [], []),
  (23, .if_icmp .ne 16, 3, 22, .int 0, [], []),
  (26, .aload_n 0, 1, 0, .int 0, [], []),
  (27, .getfield 78, 3, 10, .int 0, [8, 556], []),
  (30, .iconst 4, 1, 0, .int (4), [], []),
  (31, .if_icmp .ge 8, 3, 22, .int 0, [], []),
  (34, .aload_n 0, 1, 0, .int 0, [], []),
  (35, .invokevirtual 84, 3, 117, .int 0, [0, 8, 565], []),
  (38, .ireturn, 1, 0, .int 0, [], []),
  (39, .iload_n 1, 1, 0, .int 0, [], []),
  (40, .bipush 84, 2, 0, .int (84), [], []),
  (42, .if_icmp .ne 16, 3, 32, .int 0, [], []),
  (45, .aload_n 0, 1, 0, .int 0, [], []),
  (46, .getfield 81, 3, 12, .int 0, [8, 561], []),
  (49, .iconst 5, 1, 0, .int (5), [], []),
  (50, .if_icmp .ge 8, 3, 32, .int 0, [], []),
  (53, .aload_n 0, 1, 0, .int 0, [], []),
  (54, .invokevirtual 88, 3, 118, .int 0, [0, 8, 566], []),
  (57, .ireturn, 1, 0, .int 0, [], []),
  (58, .aload_n 0, 1, 0, .int 0, [], []),
  (59, .dup, 1, 0, .int 0, [], []),
  (60, .getfield 71, 3, 3, .int 0, [8, 550], []),
  (63, .iconst 1, 1, 0, .int (1), [], []),
  (64, .isub, 1, 0, .int 0, [], []),
  (65, .putfield 71, 3, 3, .int 0, [8, 550], []),
  (68, .iconst 0, 1, 0, .int (0), [], []),
  (69, .ireturn, 1, 0, .int 0, [], [])]
def tX8_readPart : pm_M := (({ cls := "AntLeaseModel", name := "readPart", desc := "()Z" } : Jvm.MethodName), prog_10_method_16_code, 2, (Option.some Jvm.ClassFile.FieldType.boolean), [], oX8_readPart, [567, 518, 568, 569])
def oX8_readManor : List pm_OP := [(0, .aload_n 0, 1, 0, .int 0, [], []),
  (1, .iconst 0, 1, 0, .int (0), [], []),
  (2, .putfield 71, 3, 3, .int 0, [8, 550], []),
  (5, .aload_n 0, 1, 0, .int 0, [], []),
  (6, .iconst 0, 1, 0, .int (0), [], []),
  (7, .putfield 78, 3, 10, .int 0, [8, 556], []),
  (10, .aload_n 0, 1, 0, .int 0, [], []),
  (11, .iconst 0, 1, 0, .int (0), [], []),
  (12, .putfield 81, 3, 12, .int 0, [8, 561], []),
  (15, .aload_n 0, 1, 0, .int 0, [], []),
  (16, .getfield 68, 3, 2, .int 0, [8, 542], []),
  (19, .ifCond .eq 14, 3, 18, .int 0, [], []),
  (22, .aload_n 0, 1, 0, .int 0, [], []),
  (23, .getfield 7, 3, 1, .int 0, [8, 543], []),
  (26, .iconst 0, 1, 0, .int (0), [], []),
  (27, .iaload, 1, 0, .int 0, [], []),
  (28, .bipush 76, 2, 0, .int (76), [], []),
  (30, .if_icmp .eq 5, 3, 20, .int 0, [], []),
  (33, .iconst 0, 1, 0, .int (0), [], []),
  (34, .ireturn, 1, 0, .int 0, [], []),
  (35, .aload_n 0, 1, 0, .int 0, [], []),
  (36, .iconst 1, 1, 0, .int (1), [], []),
  (37, .putfield 71, 3, 3, .int 0, [8, 550], []),
  (40, .aload_n 0, 1, 0, .int 0, [], []),
  (41, .aload_n 0, 1, 0, .int 0, [], []),
  (42, .bipush 9, 2, 0, .int (9), [], []),
  (44, .invokevirtual 74, 3, 116, .int 0, [1, 8, 554], []),
  (47, .putfield 91, 3, 8, .int 0, [8, 570], []),
  (50, .aload_n 0, 1, 0, .int 0, [], []),
  (51, .aload_n 0, 1, 0, .int 0, [], []),
  (52, .getfield 91, 3, 8, .int 0, [8, 570], []),
  (55, .bipush (-9), 2, 0, .int (-9), [], []),
  (57, .if_icmp .ne 8, 3, 35, .int 0, [], []),
  (60, .bipush (-9), 2, 0, .int (-9), [], []),
  (62, .goto 9, 3, 38, .int 0, [], []),
  (65, .aload_n 0, 1, 0, .int 0, [], []),
  (66, .bipush 9, 2, 0, .int (9), [], []),
  (68, .invokevirtual 74, 3, 116, .int 0, [1, 8, 554], []),
  (71, .putfield 94, 3, 9, .int 0, [8, 571], []),
  (74, .aload_n 0, 1, 0, .int 0, [], []),
  (75, .getfield 94, 3, 9, .int 0, [8, 571], []),
  (78, .bipush (-9), 2, 0, .int (-9), [], []),
  (80, .if_icmp .ne 8, 3, 46, .int 0, [], []),
  (83, .aload_n 0, 1, 0, .int 0, [], []),
  (84, .getfield 71, 3, 3, .int 0, [8, 550], []),
  (87, .ireturn, 1, 0, .int 0, [], []),
  (88, .aload_n 0, 1, 0, .int 0, [], []),
  (89, .getfield 71, 3, 3, .int 0, [8, 550], []),
  (92, .aload_n 0, 1, 0, .int 0, [], []),
  (93, .getfield 68, 3, 2, .int 0, [8, 542], []),
  (96, .if_icmp .ge 15, 3, 57, .int 0, [], []),
  (99, .aload_n 0, 1, 0, .int 0, [], []),
  (100, .invokevirtual 97, 3, 119, .int 0, [0, 8, 572], []),
  (103, .ifCond .ne (-15), 3, 46, .int 0, [], []),
  (106, .aload_n 0, 1, 0, .int 0, [], []),
  (107, .getfield 71, 3, 3, .int 0, [8, 550], []),
  (110, .ireturn, 1, 0, .int 0, [], []),
  (111, .bipush (-9), 2, 0, .int (-9), [], []),
  (113, .ireturn, 1, 0, .int 0, [], [])]
def tX8_readManor : pm_M := (({ cls := "AntLeaseModel", name := "readManor", desc := "()I" } : Jvm.MethodName), prog_10_method_17_code, 1, (Option.some Jvm.ClassFile.FieldType.int), [], oX8_readManor, [573, 518, 574, 575])
def oX8_fault : List pm_OP := [(0, .aload_n 0, 1, 0, .int 0, [], []),
  (1, .iconst 0, 1, 0, .int (0), [], []),
  (2, .putfield 50, 3, 0, .int 0, [8, 540], []),
  (5, .aload_n 0, 1, 0, .int 0, [], []),
  (6, .invokevirtual 100, 3, 120, .int 0, [0, 8, 576], []),
  (9, .ireturn, 1, 0, .int 0, [], [])]
def tX8_fault : pm_M := (({ cls := "AntLeaseModel", name := "fault", desc := "()I" } : Jvm.MethodName), prog_10_method_18_code, 1, (Option.some Jvm.ClassFile.FieldType.int), [], oX8_fault, [577, 518, 578, 579])
def oX8_manor : List pm_OP := [(0, .aload_n 0, 1, 0, .int 0, [], []),
  (1, .iconst 0, 1, 0, .int (0), [], []),
  (2, .putfield 50, 3, 0, .int 0, [8, 540], []),
  (5, .aload_n 0, 1, 0, .int 0, [], []),
  (6, .invokevirtual 100, 3, 120, .int 0, [0, 8, 576], []),
  (9, .bipush (-9), 2, 0, .int (-9), [], []),
  (11, .if_icmp .eq 6, 3, 9, .int 0, [], []),
  (14, .bipush (-3), 2, 0, .int (-3), [], []),
  (16, .ireturn, 1, 0, .int 0, [], []),
  (17, .aload_n 0, 1, 0, .int 0, [], []),
  (18, .aload_n 0, 1, 0, .int 0, [], []),
  (19, .getfield 91, 3, 8, .int 0, [8, 570], []),
  (22, .putfield 104, 3, 4, .int 0, [8, 580], []),
  (25, .aload_n 0, 1, 0, .int 0, [], []),
  (26, .aload_n 0, 1, 0, .int 0, [], []),
  (27, .getfield 78, 3, 10, .int 0, [8, 556], []),
  (30, .putfield 54, 3, 5, .int 0, [8, 528], []),
  (33, .aload_n 0, 1, 0, .int 0, [], []),
  (34, .aload_n 0, 1, 0, .int 0, [], []),
  (35, .getfield 81, 3, 12, .int 0, [8, 561], []),
  (38, .putfield 61, 3, 7, .int 0, [8, 533], []),
  (41, .iconst 0, 1, 0, .int (0), [], []),
  (42, .istore_n 1, 1, 0, .int 0, [], []),
  (43, .iload_n 1, 1, 0, .int 0, [], []),
  (44, .bipush 21, 2, 0, .int (21), [], []),
  (46, .if_icmp .ge 16, 3, 33, .int 0, [], []),
  (49, .aload_n 0, 1, 0, .int 0, [], []),
  (50, .getfield 22, 3, 14, .int 0, [8, 581], []),
  (53, .iload_n 1, 1, 0, .int 0, [], []),
  (54, .iconst 0, 1, 0, .int (0), [], []),
  (55, .iastore, 1, 0, .int 0, [], []),
  (56, .iinc 1 1, 3, 0, .int (1), [], []),
  (59, .goto (-16), 3, 23, .int 0, [], []),
  (62, .iconst 0, 1, 0, .int (0), [], []),
  (63, .istore_n 1, 1, 0, .int 0, [], []),
  (64, .iload_n 1, 1, 0, .int 0, [], []),
  (65, .aload_n 0, 1, 0, .int 0, [], []),
  (66, .getfield 54, 3, 5, .int 0, [8, 528], []),
  (69, .if_icmp .ge 39, 3, 63, .int 0, [], []),
  (72, .aload_n 0, 1, 0, .int 0, [], []),
  (73, .getfield 22, 3, 14, .int 0, [8, 581], []),
  (76, .iload_n 1, 1, 0, .int 0, [], []),
  (77, .aload_n 0, 1, 0, .int 0, [], []),
  (78, .getfield 16, 3, 11, .int 0, [8, 555], []),
  (81, .iconst 2, 1, 0, .int (2), [], []),
  (82, .iload_n 1, 1, 0, .int 0, [], []),
  (83, .imul, 1, 0, .int 0, [], []),
  (84, .iaload, 1, 0, .int 0, [], []),
  (85, .iastore, 1, 0, .int 0, [], []),
  (86, .aload_n 0, 1, 0, .int 0, [], []),
  (87, .getfield 13, 3, 6, .int 0, [8, 582], []),
  (90, .iload_n 1, 1, 0, .int 0, [], []),
  (91, .aload_n 0, 1, 0, .int 0, [], []),
  (92, .getfield 16, 3, 11, .int 0, [8, 555], []),
  (95, .iconst 2, 1, 0, .int (2), [], []),
  (96, .iload_n 1, 1, 0, .int 0, [], []),
  (97, .imul, 1, 0, .int 0, [], []),
  (98, .iconst 1, 1, 0, .int (1), [], []),
  (99, .iadd, 1, 0, .int 0, [], []),
  (100, .iaload, 1, 0, .int 0, [], []),
  (101, .iastore, 1, 0, .int 0, [], []),
  (102, .iinc 1 1, 3, 0, .int (1), [], []),
  (105, .goto (-41), 3, 35, .int 0, [], []),
  (108, .iconst 0, 1, 0, .int (0), [], []),
  (109, .istore_n 1, 1, 0, .int 0, [], []),
  (110, .iload_n 1, 1, 0, .int 0, [], []),
  (111, .aload_n 0, 1, 0, .int 0, [], []),
  (112, .getfield 61, 3, 7, .int 0, [8, 533], []),
  (115, .if_icmp .ge 24, 3, 81, .int 0, [], []),
  (118, .aload_n 0, 1, 0, .int 0, [], []),
  (119, .getfield 22, 3, 14, .int 0, [8, 581], []),
  (122, .bipush 12, 2, 0, .int (12), [], []),
  (124, .iload_n 1, 1, 0, .int 0, [], []),
  (125, .iadd, 1, 0, .int 0, [], []),
  (126, .aload_n 0, 1, 0, .int 0, [], []),
  (127, .getfield 19, 3, 13, .int 0, [8, 560], []),
  (130, .iload_n 1, 1, 0, .int 0, [], []),
  (131, .iaload, 1, 0, .int 0, [], []),
  (132, .iastore, 1, 0, .int 0, [], []),
  (133, .iinc 1 1, 3, 0, .int (1), [], []),
  (136, .goto (-26), 3, 65, .int 0, [], []),
  (139, .aload_n 0, 1, 0, .int 0, [], []),
  (140, .getfield 22, 3, 14, .int 0, [8, 581], []),
  (143, .bipush 19, 2, 0, .int (19), [], []),
  (145, .aload_n 0, 1, 0, .int 0, [], []),
  (146, .getfield 94, 3, 9, .int 0, [8, 571], []),
  (149, .iastore, 1, 0, .int 0, [], []),
  (150, .aload_n 0, 1, 0, .int 0, [], []),
  (151, .iconst 0, 1, 0, .int (0), [], []),
  (152, .putfield 107, 3, 17, .int 0, [8, 583], []),
  (155, .aload_n 0, 1, 0, .int 0, [], []),
  (156, .getfield 34, 3, 19, .int 0, [8, 584], []),
  (159, .iconst 0, 1, 0, .int (0), [], []),
  (160, .iconst 0, 1, 0, .int (0), [], []),
  (161, .bastore, 1, 0, .int 0, [], []),
  (162, .aload_n 0, 1, 0, .int 0, [], []),
  (163, .getfield 34, 3, 19, .int 0, [8, 584], []),
  (166, .iconst 1, 1, 0, .int (1), [], []),
  (167, .iconst 0, 1, 0, .int (0), [], []),
  (168, .bastore, 1, 0, .int 0, [], []),
  (169, .bipush 10, 2, 0, .int (10), [], []),
  (171, .aload_n 0, 1, 0, .int 0, [], []),
  (172, .getfield 54, 3, 5, .int 0, [8, 528], []),
  (175, .imul, 1, 0, .int 0, [], []),
  (176, .aload_n 0, 1, 0, .int 0, [], []),
  (177, .getfield 61, 3, 7, .int 0, [8, 533], []),
  (180, .iadd, 1, 0, .int 0, [], []),
  (181, .ireturn, 1, 0, .int 0, [], [])]
def tX8_manor : pm_M := (({ cls := "AntLeaseModel", name := "manor", desc := "()I" } : Jvm.MethodName), prog_10_method_19_code, 2, (Option.some Jvm.ClassFile.FieldType.int), [], oX8_manor, [585, 518, 586, 587])
def oX8_worth : List pm_OP := [(0, .aload_n 1, 1, 0, .int 0, [], []),
  (1, .iconst 4, 1, 0, .int (4), [], []),
  (2, .iload_n 2, 1, 0, .int 0, [], []),
  (3, .iadd, 1, 0, .int 0, [], []),
  (4, .iaload, 1, 0, .int 0, [], []),
  (5, .istore_n 3, 1, 0, .int 0, [], []),
  (6, .aload_n 0, 1, 0, .int 0, [], []),
  (7, .getfield 13, 3, 6, .int 0, [8, 582], []),
  (10, .iload_n 2, 1, 0, .int 0, [], []),
  (11, .iaload, 1, 0, .int 0, [], []),
  (12, .iconst 1, 1, 0, .int (1), [], []),
  (13, .if_icmp .ne 9, 3, 16, .int 0, [], []),
  (16, .iconst 2, 1, 0, .int (2), [], []),
  (17, .iload_n 3, 1, 0, .int 0, [], []),
  (18, .imul, 1, 0, .int 0, [], []),
  (19, .goto 20, 3, 27, .int 0, [], []),
  (22, .aload_n 0, 1, 0, .int 0, [], []),
  (23, .getfield 13, 3, 6, .int 0, [8, 582], []),
  (26, .iload_n 2, 1, 0, .int 0, [], []),
  (27, .iaload, 1, 0, .int 0, [], []),
  (28, .iconst 2, 1, 0, .int (2), [], []),
  (29, .if_icmp .ne 9, 3, 26, .int 0, [], []),
  (32, .iload_n 3, 1, 0, .int 0, [], []),
  (33, .iconst 2, 1, 0, .int (2), [], []),
  (34, .idiv, 1, 0, .int 0, [], []),
  (35, .goto 4, 3, 27, .int 0, [], []),
  (38, .iload_n 3, 1, 0, .int 0, [], []),
  (39, .ireturn, 1, 0, .int 0, [], [])]
def tX8_worth : pm_M := (({ cls := "AntLeaseModel", name := "worth", desc := "([II)I" } : Jvm.MethodName), prog_10_method_20_code, 4, (Option.some Jvm.ClassFile.FieldType.int), [], oX8_worth, [588, 518, 589, 590])
def oX8_worthOf : List pm_OP := [(0, .iconst 0, 1, 0, .int (0), [], []),
  (1, .istore_n 3, 1, 0, .int 0, [], []),
  (2, .iconst 0, 1, 0, .int (0), [], []),
  (3, .istore 4, 2, 0, .int 0, [], []),
  (5, .iload 4, 2, 0, .int 0, [], []),
  (7, .aload_n 0, 1, 0, .int 0, [], []),
  (8, .getfield 54, 3, 5, .int 0, [8, 528], []),
  (11, .if_icmp .ge 32, 3, 23, .int 0, [], []),
  (14, .iload_n 3, 1, 0, .int 0, [], []),
  (15, .iload_n 2, 1, 0, .int 0, [], []),
  (16, .iload 4, 2, 0, .int 0, [], []),
  (18, .invokestatic 110, 3, 107, .int 0, [2, 591], []),
  (21, .ifCond .eq 13, 3, 18, .int 0, [], []),
  (24, .aload_n 0, 1, 0, .int 0, [], []),
  (25, .aload_n 1, 1, 0, .int 0, [], []),
  (26, .iload 4, 2, 0, .int 0, [], []),
  (28, .invokevirtual 114, 3, 123, .int 0, [2, 8, 592], []),
  (31, .goto 4, 3, 19, .int 0, [], []),
  (34, .iconst 0, 1, 0, .int (0), [], []),
  (35, .iadd, 1, 0, .int 0, [], []),
  (36, .istore_n 3, 1, 0, .int 0, [], []),
  (37, .iinc 4 1, 3, 0, .int (1), [], []),
  (40, .goto (-35), 3, 4, .int 0, [], []),
  (43, .iload_n 3, 1, 0, .int 0, [], []),
  (44, .ireturn, 1, 0, .int 0, [], [])]
def tX8_worthOf : pm_M := (({ cls := "AntLeaseModel", name := "worthOf", desc := "([II)I" } : Jvm.MethodName), prog_10_method_21_code, 5, (Option.some Jvm.ClassFile.FieldType.int), [], oX8_worthOf, [593, 518, 594, 595])
def oX8_due : List pm_OP := [(0, .aload_n 0, 1, 0, .int 0, [], []),
  (1, .bipush 8, 2, 0, .int (8), [], []),
  (3, .iaload, 1, 0, .int 0, [], []),
  (4, .aload_n 0, 1, 0, .int 0, [], []),
  (5, .bipush 9, 2, 0, .int (9), [], []),
  (7, .iaload, 1, 0, .int 0, [], []),
  (8, .iadd, 1, 0, .int 0, [], []),
  (9, .aload_n 0, 1, 0, .int 0, [], []),
  (10, .bipush 10, 2, 0, .int (10), [], []),
  (12, .iaload, 1, 0, .int 0, [], []),
  (13, .iadd, 1, 0, .int 0, [], []),
  (14, .aload_n 0, 1, 0, .int 0, [], []),
  (15, .bipush 11, 2, 0, .int (11), [], []),
  (17, .iaload, 1, 0, .int 0, [], []),
  (18, .iadd, 1, 0, .int 0, [], []),
  (19, .bipush 10, 2, 0, .int (10), [], []),
  (21, .idiv, 1, 0, .int 0, [], []),
  (22, .ireturn, 1, 0, .int 0, [], [])]
def tX8_due : pm_M := (({ cls := "AntLeaseModel", name := "due", desc := "([I)I" } : Jvm.MethodName), prog_10_method_22_code, 1, (Option.some Jvm.ClassFile.FieldType.int), [], oX8_due, [596, 518, 597])
def oX8_shortOf : List pm_OP := [(0, .aload_n 1, 1, 0, .int 0, [], []),
  (1, .invokestatic 118, 3, 125, .int 0, [1, 598], []),
  (4, .aload_n 0, 1, 0, .int 0, [], []),
  (5, .aload_n 1, 1, 0, .int 0, [], []),
  (6, .bipush 15, 2, 0, .int (15), [], []),
  (8, .invokevirtual 122, 3, 124, .int 0, [2, 8, 599], []),
  (11, .isub, 1, 0, .int 0, [], []),
  (12, .istore_n 2, 1, 0, .int 0, [], []),
  (13, .iload_n 2, 1, 0, .int 0, [], []),
  (14, .ifCond .le 7, 3, 12, .int 0, [], []),
  (17, .iload_n 2, 1, 0, .int 0, [], []),
  (18, .goto 4, 3, 13, .int 0, [], []),
  (21, .iconst 0, 1, 0, .int (0), [], []),
  (22, .ireturn, 1, 0, .int 0, [], [])]
def tX8_shortOf : pm_M := (({ cls := "AntLeaseModel", name := "shortOf", desc := "([I)I" } : Jvm.MethodName), prog_10_method_23_code, 3, (Option.some Jvm.ClassFile.FieldType.int), [], oX8_shortOf, [600, 518, 601, 602])
def oX8_reach : List pm_OP := [(0, .iload_n 2, 1, 0, .int 0, [], []),
  (1, .iload_n 0, 1, 0, .int 0, [], []),
  (2, .invokestatic 110, 3, 107, .int 0, [2, 591], []),
  (5, .ifCond .eq 5, 3, 6, .int 0, [], []),
  (8, .iconst 0, 1, 0, .int (0), [], []),
  (9, .ireturn, 1, 0, .int 0, [], []),
  (10, .iconst 1, 1, 0, .int (1), [], []),
  (11, .iload_n 0, 1, 0, .int 0, [], []),
  (12, .ishl, 1, 0, .int 0, [], []),
  (13, .istore_n 3, 1, 0, .int 0, [], []),
  (14, .iconst 1, 1, 0, .int (1), [], []),
  (15, .istore 4, 2, 0, .int 0, [], []),
  (17, .iconst 1, 1, 0, .int (1), [], []),
  (18, .istore 5, 2, 0, .int 0, [], []),
  (20, .iconst 1, 1, 0, .int (1), [], []),
  (21, .istore 6, 2, 0, .int 0, [], []),
  (23, .iload 6, 2, 0, .int 0, [], []),
  (25, .iload_n 1, 1, 0, .int 0, [], []),
  (26, .if_icmp .gt 107, 3, 78, .int 0, [], []),
  (29, .iload 4, 2, 0, .int 0, [], []),
  (31, .ifCond .eq 25, 3, 33, .int 0, [], []),
  (34, .iload_n 0, 1, 0, .int 0, [], []),
  (35, .iload 6, 2, 0, .int 0, [], []),
  (37, .isub, 1, 0, .int 0, [], []),
  (38, .ifCond .lt 18, 3, 33, .int 0, [], []),
  (41, .iload_n 2, 1, 0, .int 0, [], []),
  (42, .iload_n 0, 1, 0, .int 0, [], []),
  (43, .iload 6, 2, 0, .int 0, [], []),
  (45, .isub, 1, 0, .int 0, [], []),
  (46, .invokestatic 110, 3, 107, .int 0, [2, 591], []),
  (49, .ifCond .ne 7, 3, 33, .int 0, [], []),
  (52, .iconst 1, 1, 0, .int (1), [], []),
  (53, .goto 4, 3, 34, .int 0, [], []),
  (56, .iconst 0, 1, 0, .int (0), [], []),
  (57, .istore 4, 2, 0, .int 0, [], []),
  (59, .iload 5, 2, 0, .int 0, [], []),
  (61, .ifCond .eq 27, 3, 50, .int 0, [], []),
  (64, .iload_n 0, 1, 0, .int 0, [], []),
  (65, .iload 6, 2, 0, .int 0, [], []),
  (67, .iadd, 1, 0, .int 0, [], []),
  (68, .bipush 10, 2, 0, .int (10), [], []),
  (70, .if_icmp .ge 18, 3, 50, .int 0, [], []),
  (73, .iload_n 2, 1, 0, .int 0, [], []),
  (74, .iload_n 0, 1, 0, .int 0, [], []),
  (75, .iload 6, 2, 0, .int 0, [], []),
  (77, .iadd, 1, 0, .int 0, [], []),
  (78, .invokestatic 110, 3, 107, .int 0, [2, 591], []),
  (81, .ifCond .ne 7, 3, 50, .int 0, [], []),
  (84, .iconst 1, 1, 0, .int (1), [], []),
  (85, .goto 4, 3, 51, .int 0, [], []),
  (88, .iconst 0, 1, 0, .int (0), [], []),
  (89, .istore 5, 2, 0, .int 0, [], []),
  (91, .iload_n 3, 1, 0, .int 0, [], []),
  (92, .iload 4, 2, 0, .int 0, [], []),
  (94, .ifCond .eq 12, 3, 61, .int 0, [], []),
  (97, .iconst 1, 1, 0, .int (1), [], []),
  (98, .iload_n 0, 1, 0, .int 0, [], []),
  (99, .iload 6, 2, 0, .int 0, [], []),
  (101, .isub, 1, 0, .int 0, [], []),
  (102, .ishl, 1, 0, .int 0, [], []),
  (103, .goto 4, 3, 62, .int 0, [], []),
  (106, .iconst 0, 1, 0, .int (0), [], []),
  (107, .ior, 1, 0, .int 0, [], []),
  (108, .istore_n 3, 1, 0, .int 0, [], []),
  (109, .iload_n 3, 1, 0, .int 0, [], []),
  (110, .iload 5, 2, 0, .int 0, [], []),
  (112, .ifCond .eq 12, 3, 73, .int 0, [], []),
  (115, .iconst 1, 1, 0, .int (1), [], []),
  (116, .iload_n 0, 1, 0, .int 0, [], []),
  (117, .iload 6, 2, 0, .int 0, [], []),
  (119, .iadd, 1, 0, .int 0, [], []),
  (120, .ishl, 1, 0, .int 0, [], []),
  (121, .goto 4, 3, 74, .int 0, [], []),
  (124, .iconst 0, 1, 0, .int (0), [], []),
  (125, .ior, 1, 0, .int 0, [], []),
  (126, .istore_n 3, 1, 0, .int 0, [], []),
  (127, .iinc 6 1, 3, 0, .int (1), [], []),
  (130, .goto (-107), 3, 16, .int 0, [], []),
  (133, .iload_n 3, 1, 0, .int 0, [], []),
  (134, .ireturn, 1, 0, .int 0, [], [])]
def tX8_reach : pm_M := (({ cls := "AntLeaseModel", name := "reach", desc := "(III)I" } : Jvm.MethodName), prog_10_method_24_code, 7, (Option.some Jvm.ClassFile.FieldType.int), [], oX8_reach, [603, 518, 604])
def oX8_antsOf : List pm_OP := [(0, .aload_n 0, 1, 0, .int 0, [], []),
  (1, .getfield 104, 3, 4, .int 0, [8, 580], []),
  (4, .aload_n 1, 1, 0, .int 0, [], []),
  (5, .bipush 19, 2, 0, .int (19), [], []),
  (7, .iaload, 1, 0, .int 0, [], []),
  (8, .aload_n 1, 1, 0, .int 0, [], []),
  (9, .bipush 17, 2, 0, .int (17), [], []),
  (11, .iaload, 1, 0, .int 0, [], []),
  (12, .invokestatic 125, 3, 127, .int 0, [3, 605], []),
  (15, .ireturn, 1, 0, .int 0, [], [])]
def tX8_antsOf : pm_M := (({ cls := "AntLeaseModel", name := "antsOf", desc := "([I)I" } : Jvm.MethodName), prog_10_method_25_code, 2, (Option.some Jvm.ClassFile.FieldType.int), [], oX8_antsOf, [606, 518, 607, 608])
def oX8_known : List pm_OP := [(0, .aload_n 0, 1, 0, .int 0, [], []),
  (1, .aload_n 1, 1, 0, .int 0, [], []),
  (2, .invokevirtual 129, 3, 128, .int 0, [1, 8, 609], []),
  (5, .istore_n 2, 1, 0, .int 0, [], []),
  (6, .iconst 0, 1, 0, .int (0), [], []),
  (7, .istore_n 3, 1, 0, .int 0, [], []),
  (8, .iconst 0, 1, 0, .int (0), [], []),
  (9, .istore 4, 2, 0, .int 0, [], []),
  (11, .iload 4, 2, 0, .int 0, [], []),
  (13, .aload_n 0, 1, 0, .int 0, [], []),
  (14, .getfield 61, 3, 7, .int 0, [8, 533], []),
  (17, .if_icmp .ge 34, 3, 30, .int 0, [], []),
  (20, .iload_n 3, 1, 0, .int 0, [], []),
  (21, .iload_n 2, 1, 0, .int 0, [], []),
  (22, .aload_n 1, 1, 0, .int 0, [], []),
  (23, .bipush 12, 2, 0, .int (12), [], []),
  (25, .iload 4, 2, 0, .int 0, [], []),
  (27, .iadd, 1, 0, .int 0, [], []),
  (28, .iaload, 1, 0, .int 0, [], []),
  (29, .invokestatic 110, 3, 107, .int 0, [2, 591], []),
  (32, .ifCond .eq 10, 3, 25, .int 0, [], []),
  (35, .iconst 1, 1, 0, .int (1), [], []),
  (36, .iload 4, 2, 0, .int 0, [], []),
  (38, .ishl, 1, 0, .int 0, [], []),
  (39, .goto 4, 3, 26, .int 0, [], []),
  (42, .iconst 0, 1, 0, .int (0), [], []),
  (43, .ior, 1, 0, .int 0, [], []),
  (44, .istore_n 3, 1, 0, .int 0, [], []),
  (45, .iinc 4 1, 3, 0, .int (1), [], []),
  (48, .goto (-37), 3, 8, .int 0, [], []),
  (51, .iload_n 3, 1, 0, .int 0, [], []),
  (52, .ireturn, 1, 0, .int 0, [], [])]
def tX8_known : pm_M := (({ cls := "AntLeaseModel", name := "known", desc := "([I)I" } : Jvm.MethodName), prog_10_method_26_code, 5, (Option.some Jvm.ClassFile.FieldType.int), [], oX8_known, [610, 518, 611, 612])
def oX8_goQuarter : List pm_OP := [(0, .aload_n 0, 1, 0, .int 0, [], []),
  (1, .aload_n 1, 1, 0, .int 0, [], []),
  (2, .invokevirtual 132, 3, 126, .int 0, [1, 8, 613], []),
  (5, .istore_n 2, 1, 0, .int 0, [], []),
  (6, .aload_n 1, 1, 0, .int 0, [], []),
  (7, .bipush 19, 2, 0, .int (19), [], []),
  (9, .iaload, 1, 0, .int 0, [], []),
  (10, .iload_n 2, 1, 0, .int 0, [], []),
  (11, .ifCond .le 7, 3, 11, .int 0, [], []),
  (14, .iconst (-1), 1, 0, .int (-1), [], []),
  (15, .goto 4, 3, 12, .int 0, [], []),
  (18, .iconst 1, 1, 0, .int (1), [], []),
  (19, .iadd, 1, 0, .int 0, [], []),
  (20, .aload_n 1, 1, 0, .int 0, [], []),
  (21, .bipush 17, 2, 0, .int (17), [], []),
  (23, .iaload, 1, 0, .int 0, [], []),
  (24, .invokestatic 135, 3, 108, .int 0, [1, 614], []),
  (27, .isub, 1, 0, .int 0, [], []),
  (28, .istore_n 3, 1, 0, .int 0, [], []),
  (29, .aload_n 1, 1, 0, .int 0, [], []),
  (30, .bipush 18, 2, 0, .int (18), [], []),
  (32, .iload_n 2, 1, 0, .int 0, [], []),
  (33, .ifCond .le 12, 3, 29, .int 0, [], []),
  (36, .aload_n 1, 1, 0, .int 0, [], []),
  (37, .bipush 18, 2, 0, .int (18), [], []),
  (39, .iaload, 1, 0, .int 0, [], []),
  (40, .iload_n 2, 1, 0, .int 0, [], []),
  (41, .iadd, 1, 0, .int 0, [], []),
  (42, .goto 4, 3, 30, .int 0, [], []),
  (45, .iconst 0, 1, 0, .int (0), [], []),
  (46, .iastore, 1, 0, .int 0, [], []),
  (47, .aload_n 1, 1, 0, .int 0, [], []),
  (48, .bipush 19, 2, 0, .int (19), [], []),
  (50, .iload_n 3, 1, 0, .int 0, [], []),
  (51, .ifCond .ge 7, 3, 37, .int 0, [], []),
  (54, .iconst 0, 1, 0, .int (0), [], []),
  (55, .goto 15, 3, 43, .int 0, [], []),
  (58, .iload_n 3, 1, 0, .int 0, [], []),
  (59, .bipush 9, 2, 0, .int (9), [], []),
  (61, .if_icmp .le 8, 3, 42, .int 0, [], []),
  (64, .bipush 9, 2, 0, .int (9), [], []),
  (66, .goto 4, 3, 43, .int 0, [], []),
  (69, .iload_n 3, 1, 0, .int 0, [], []),
  (70, .iastore, 1, 0, .int 0, [], []),
  (71, .iconst 0, 1, 0, .int (0), [], []),
  (72, .istore 4, 2, 0, .int 0, [], []),
  (74, .iload 4, 2, 0, .int 0, [], []),
  (76, .iconst 4, 1, 0, .int (4), [], []),
  (77, .if_icmp .ge 24, 3, 63, .int 0, [], []),
  (80, .aload_n 1, 1, 0, .int 0, [], []),
  (81, .iconst 4, 1, 0, .int (4), [], []),
  (82, .iload 4, 2, 0, .int 0, [], []),
  (84, .iadd, 1, 0, .int 0, [], []),
  (85, .iconst 0, 1, 0, .int (0), [], []),
  (86, .iastore, 1, 0, .int 0, [], []),
  (87, .aload_n 1, 1, 0, .int 0, [], []),
  (88, .bipush 8, 2, 0, .int (8), [], []),
  (90, .iload 4, 2, 0, .int 0, [], []),
  (92, .iadd, 1, 0, .int 0, [], []),
  (93, .iconst 0, 1, 0, .int (0), [], []),
  (94, .iastore, 1, 0, .int 0, [], []),
  (95, .iinc 4 1, 3, 0, .int (1), [], []),
  (98, .goto (-24), 3, 46, .int 0, [], []),
  (101, .aload_n 1, 1, 0, .int 0, [], []),
  (102, .bipush 17, 2, 0, .int (17), [], []),
  (104, .iconst 0, 1, 0, .int (0), [], []),
  (105, .iastore, 1, 0, .int 0, [], []),
  (106, .aload_n 1, 1, 0, .int 0, [], []),
  (107, .bipush 20, 2, 0, .int (20), [], []),
  (109, .dup2, 1, 0, .int 0, [], []),
  (110, .iaload, 1, 0, .int 0, [], []),
  (111, .iconst 1, 1, 0, .int (1), [], []),
  (112, .iadd, 1, 0, .int 0, [], []),
  (113, .iastore, 1, 0, .int 0, [], []),
  (114, .aload_n 1, 1, 0, .int 0, [], []),
  (115, .bipush 19, 2, 0, .int (19), [], []),
  (117, .iaload, 1, 0, .int 0, [], []),
  (118, .ireturn, 1, 0, .int 0, [], [])]
def tX8_goQuarter : pm_M := (({ cls := "AntLeaseModel", name := "goQuarter", desc := "([I)I" } : Jvm.MethodName), prog_10_method_27_code, 5, (Option.some Jvm.ClassFile.FieldType.int), [], oX8_goQuarter, [615, 518, 616, 617])
def oX8_about : List pm_OP := [(0, .aload_n 0, 1, 0, .int 0, [], []),
  (1, .iconst 0, 1, 0, .int (0), [], []),
  (2, .putfield 50, 3, 0, .int 0, [8, 540], []),
  (5, .iload_n 1, 1, 0, .int 0, [], []),
  (6, .tableswitch 167 0 13 #[70, 75, 80, 85, 93, 101, 109, 117, 126, 134, 143, 152, 157, 162], 70, 62, .int 0, [], [((0), 5), ((1), 8), ((2), 11), ((3), 14), ((4), 19), ((5), 24), ((6), 29), ((7), 33), ((8), 38), ((9), 43), ((10), 48), ((11), 53), ((12), 56), ((13), 59)]),
  (76, .aload_n 0, 1, 0, .int 0, [], []),
  (77, .getfield 54, 3, 5, .int 0, [8, 528], []),
  (80, .ireturn, 1, 0, .int 0, [], []),
  (81, .aload_n 0, 1, 0, .int 0, [], []),
  (82, .getfield 61, 3, 7, .int 0, [8, 533], []),
  (85, .ireturn, 1, 0, .int 0, [], []),
  (86, .aload_n 0, 1, 0, .int 0, [], []),
  (87, .getfield 104, 3, 4, .int 0, [8, 580], []),
  (90, .ireturn, 1, 0, .int 0, [], []),
  (91, .aload_n 0, 1, 0, .int 0, [], []),
  (92, .getfield 22, 3, 14, .int 0, [8, 581], []),
  (95, .bipush 19, 2, 0, .int (19), [], []),
  (97, .iaload, 1, 0, .int 0, [], []),
  (98, .ireturn, 1, 0, .int 0, [], []),
  (99, .aload_n 0, 1, 0, .int 0, [], []),
  (100, .getfield 22, 3, 14, .int 0, [8, 581], []),
  (103, .bipush 20, 2, 0, .int (20), [], []),
  (105, .iaload, 1, 0, .int 0, [], []),
  (106, .ireturn, 1, 0, .int 0, [], []),
  (107, .aload_n 0, 1, 0, .int 0, [], []),
  (108, .getfield 22, 3, 14, .int 0, [8, 581], []),
  (111, .bipush 18, 2, 0, .int (18), [], []),
  (113, .iaload, 1, 0, .int 0, [], []),
  (114, .ireturn, 1, 0, .int 0, [], []),
  (115, .aload_n 0, 1, 0, .int 0, [], []),
  (116, .getfield 22, 3, 14, .int 0, [8, 581], []),
  (119, .invokestatic 118, 3, 125, .int 0, [1, 598], []),
  (122, .ireturn, 1, 0, .int 0, [], []),
  (123, .aload_n 0, 1, 0, .int 0, [], []),
  (124, .aload_n 0, 1, 0, .int 0, [], []),
  (125, .getfield 22, 3, 14, .int 0, [8, 581], []),
  (128, .invokevirtual 132, 3, 126, .int 0, [1, 8, 613], []),
  (131, .ireturn, 1, 0, .int 0, [], []),
  (132, .aload_n 0, 1, 0, .int 0, [], []),
  (133, .getfield 22, 3, 14, .int 0, [8, 581], []),
  (136, .bipush 17, 2, 0, .int (17), [], []),
  (138, .iaload, 1, 0, .int 0, [], []),
  (139, .ireturn, 1, 0, .int 0, [], []),
  (140, .aload_n 0, 1, 0, .int 0, [], []),
  (141, .aload_n 0, 1, 0, .int 0, [], []),
  (142, .getfield 22, 3, 14, .int 0, [8, 581], []),
  (145, .invokevirtual 129, 3, 128, .int 0, [1, 8, 609], []),
  (148, .ireturn, 1, 0, .int 0, [], []),
  (149, .aload_n 0, 1, 0, .int 0, [], []),
  (150, .aload_n 0, 1, 0, .int 0, [], []),
  (151, .getfield 22, 3, 14, .int 0, [8, 581], []),
  (154, .invokevirtual 138, 3, 129, .int 0, [1, 8, 618], []),
  (157, .ireturn, 1, 0, .int 0, [], []),
  (158, .aload_n 0, 1, 0, .int 0, [], []),
  (159, .getfield 107, 3, 17, .int 0, [8, 583], []),
  (162, .ireturn, 1, 0, .int 0, [], []),
  (163, .aload_n 0, 1, 0, .int 0, [], []),
  (164, .getfield 141, 3, 20, .int 0, [8, 619], []),
  (167, .ireturn, 1, 0, .int 0, [], []),
  (168, .aload_n 0, 1, 0, .int 0, [], []),
  (169, .getfield 68, 3, 2, .int 0, [8, 542], []),
  (172, .ireturn, 1, 0, .int 0, [], []),
  (173, .bipush (-2), 2, 0, .int (-2), [], []),
  (175, .ireturn, 1, 0, .int 0, [], [])]
def tX8_about : pm_M := (({ cls := "AntLeaseModel", name := "about", desc := "(I)I" } : Jvm.MethodName), prog_10_method_28_code, 2, (Option.some Jvm.ClassFile.FieldType.int), [], oX8_about, [620, 518, 621, 622])
def oX8_food : List pm_OP := [(0, .aload_n 0, 1, 0, .int 0, [], []),
  (1, .iconst 0, 1, 0, .int (0), [], []),
  (2, .putfield 50, 3, 0, .int 0, [8, 540], []),
  (5, .aload_n 0, 1, 0, .int 0, [], []),
  (6, .iload_n 1, 1, 0, .int 0, [], []),
  (7, .invokevirtual 144, 3, 111, .int 0, [1, 8, 623], []),
  (10, .ifCond .eq 5, 3, 9, .int 0, [], []),
  (13, .iconst (-1), 1, 0, .int (-1), [], []),
  (14, .ireturn, 1, 0, .int 0, [], []),
  (15, .iload_n 2, 1, 0, .int 0, [], []),
  (16, .tableswitch 79 0 4 #[36, 43, 50, 59, 69], 36, 41, .int 0, [], [((0), 11), ((1), 16), ((2), 21), ((3), 28), ((4), 35)]),
  (52, .aload_n 0, 1, 0, .int 0, [], []),
  (53, .getfield 13, 3, 6, .int 0, [8, 582], []),
  (56, .iload_n 1, 1, 0, .int 0, [], []),
  (57, .iaload, 1, 0, .int 0, [], []),
  (58, .ireturn, 1, 0, .int 0, [], []),
  (59, .aload_n 0, 1, 0, .int 0, [], []),
  (60, .getfield 22, 3, 14, .int 0, [8, 581], []),
  (63, .iload_n 1, 1, 0, .int 0, [], []),
  (64, .iaload, 1, 0, .int 0, [], []),
  (65, .ireturn, 1, 0, .int 0, [], []),
  (66, .aload_n 0, 1, 0, .int 0, [], []),
  (67, .getfield 22, 3, 14, .int 0, [8, 581], []),
  (70, .iconst 4, 1, 0, .int (4), [], []),
  (71, .iload_n 1, 1, 0, .int 0, [], []),
  (72, .iadd, 1, 0, .int 0, [], []),
  (73, .iaload, 1, 0, .int 0, [], []),
  (74, .ireturn, 1, 0, .int 0, [], []),
  (75, .aload_n 0, 1, 0, .int 0, [], []),
  (76, .getfield 22, 3, 14, .int 0, [8, 581], []),
  (79, .bipush 8, 2, 0, .int (8), [], []),
  (81, .iload_n 1, 1, 0, .int 0, [], []),
  (82, .iadd, 1, 0, .int 0, [], []),
  (83, .iaload, 1, 0, .int 0, [], []),
  (84, .ireturn, 1, 0, .int 0, [], []),
  (85, .aload_n 0, 1, 0, .int 0, [], []),
  (86, .aload_n 0, 1, 0, .int 0, [], []),
  (87, .getfield 22, 3, 14, .int 0, [8, 581], []),
  (90, .iload_n 1, 1, 0, .int 0, [], []),
  (91, .invokevirtual 114, 3, 123, .int 0, [2, 8, 592], []),
  (94, .ireturn, 1, 0, .int 0, [], []),
  (95, .bipush (-2), 2, 0, .int (-2), [], []),
  (97, .ireturn, 1, 0, .int 0, [], [])]
def tX8_food : pm_M := (({ cls := "AntLeaseModel", name := "food", desc := "(II)I" } : Jvm.MethodName), prog_10_method_29_code, 3, (Option.some Jvm.ClassFile.FieldType.int), [], oX8_food, [624, 518, 625, 626])
def oX8_astray : List pm_OP := [(0, .aload_n 0, 1, 0, .int 0, [], []),
  (1, .aload_n 0, 1, 0, .int 0, [], []),
  (2, .getfield 22, 3, 14, .int 0, [8, 581], []),
  (5, .invokevirtual 129, 3, 128, .int 0, [1, 8, 609], []),
  (8, .istore_n 2, 1, 0, .int 0, [], []),
  (9, .bipush (-9), 2, 0, .int (-9), [], []),
  (11, .istore_n 3, 1, 0, .int 0, [], []),
  (12, .iconst 0, 1, 0, .int (0), [], []),
  (13, .istore 4, 2, 0, .int 0, [], []),
  (15, .iload 4, 2, 0, .int 0, [], []),
  (17, .bipush 10, 2, 0, .int (10), [], []),
  (19, .if_icmp .ge 57, 3, 38, .int 0, [], []),
  (22, .iload_n 2, 1, 0, .int 0, [], []),
  (23, .iload 4, 2, 0, .int 0, [], []),
  (25, .invokestatic 110, 3, 107, .int 0, [2, 591], []),
  (28, .ifCond .eq 23, 3, 26, .int 0, [], []),
  (31, .iload_n 3, 1, 0, .int 0, [], []),
  (32, .bipush (-9), 2, 0, .int (-9), [], []),
  (34, .if_icmp .eq 13, 3, 24, .int 0, [], []),
  (37, .iload_n 1, 1, 0, .int 0, [], []),
  (38, .iload 4, 2, 0, .int 0, [], []),
  (40, .invokestatic 148, 3, 110, .int 0, [2, 627], []),
  (43, .iload_n 3, 1, 0, .int 0, [], []),
  (44, .if_icmp .ge 7, 3, 26, .int 0, [], []),
  (47, .iconst 1, 1, 0, .int (1), [], []),
  (48, .goto 4, 3, 27, .int 0, [], []),
  (51, .iconst 0, 1, 0, .int (0), [], []),
  (52, .istore 5, 2, 0, .int 0, [], []),
  (54, .iload 5, 2, 0, .int 0, [], []),
  (56, .ifCond .eq 12, 3, 34, .int 0, [], []),
  (59, .iload_n 1, 1, 0, .int 0, [], []),
  (60, .iload 4, 2, 0, .int 0, [], []),
  (62, .invokestatic 148, 3, 110, .int 0, [2, 627], []),
  (65, .goto 4, 3, 35, .int 0, [], []),
  (68, .iload_n 3, 1, 0, .int 0, [], []),
  (69, .istore_n 3, 1, 0, .int 0, [], []),
  (70, .iinc 4 1, 3, 0, .int (1), [], []),
  (73, .goto (-58), 3, 9, .int 0, [], []),
  (76, .iload_n 3, 1, 0, .int 0, [], []),
  (77, .ireturn, 1, 0, .int 0, [], [])]
def tX8_astray : pm_M := (({ cls := "AntLeaseModel", name := "astray", desc := "(I)I" } : Jvm.MethodName), prog_10_method_30_code, 6, (Option.some Jvm.ClassFile.FieldType.int), [], oX8_astray, [628, 518, 629, 630])
def oX8_thing : List pm_OP := [(0, .aload_n 0, 1, 0, .int 0, [], []),
  (1, .iconst 0, 1, 0, .int (0), [], []),
  (2, .putfield 50, 3, 0, .int 0, [8, 540], []),
  (5, .aload_n 0, 1, 0, .int 0, [], []),
  (6, .iload_n 1, 1, 0, .int 0, [], []),
  (7, .invokevirtual 152, 3, 112, .int 0, [1, 8, 631], []),
  (10, .ifCond .eq 5, 3, 9, .int 0, [], []),
  (13, .iconst (-1), 1, 0, .int (-1), [], []),
  (14, .ireturn, 1, 0, .int 0, [], []),
  (15, .iload_n 2, 1, 0, .int 0, [], []),
  (16, .tableswitch 82 0 2 #[28, 38, 68], 28, 43, .int 0, [], [((0), 11), ((1), 18), ((2), 34)]),
  (44, .aload_n 0, 1, 0, .int 0, [], []),
  (45, .getfield 22, 3, 14, .int 0, [8, 581], []),
  (48, .bipush 12, 2, 0, .int (12), [], []),
  (50, .iload_n 1, 1, 0, .int 0, [], []),
  (51, .iadd, 1, 0, .int 0, [], []),
  (52, .iaload, 1, 0, .int 0, [], []),
  (53, .ireturn, 1, 0, .int 0, [], []),
  (54, .aload_n 0, 1, 0, .int 0, [], []),
  (55, .aload_n 0, 1, 0, .int 0, [], []),
  (56, .getfield 22, 3, 14, .int 0, [8, 581], []),
  (59, .invokevirtual 138, 3, 129, .int 0, [1, 8, 618], []),
  (62, .iload_n 1, 1, 0, .int 0, [], []),
  (63, .invokestatic 110, 3, 107, .int 0, [2, 591], []),
  (66, .ifCond .eq 15, 3, 32, .int 0, [], []),
  (69, .aload_n 0, 1, 0, .int 0, [], []),
  (70, .getfield 22, 3, 14, .int 0, [8, 581], []),
  (73, .bipush 12, 2, 0, .int (12), [], []),
  (75, .iload_n 1, 1, 0, .int 0, [], []),
  (76, .iadd, 1, 0, .int 0, [], []),
  (77, .iaload, 1, 0, .int 0, [], []),
  (78, .goto 5, 3, 33, .int 0, [], []),
  (81, .bipush (-9), 2, 0, .int (-9), [], []),
  (83, .ireturn, 1, 0, .int 0, [], []),
  (84, .aload_n 0, 1, 0, .int 0, [], []),
  (85, .aload_n 0, 1, 0, .int 0, [], []),
  (86, .getfield 22, 3, 14, .int 0, [8, 581], []),
  (89, .bipush 12, 2, 0, .int (12), [], []),
  (91, .iload_n 1, 1, 0, .int 0, [], []),
  (92, .iadd, 1, 0, .int 0, [], []),
  (93, .iaload, 1, 0, .int 0, [], []),
  (94, .invokevirtual 155, 3, 133, .int 0, [1, 8, 632], []),
  (97, .ireturn, 1, 0, .int 0, [], []),
  (98, .bipush (-2), 2, 0, .int (-2), [], []),
  (100, .ireturn, 1, 0, .int 0, [], [])]
def tX8_thing : pm_M := (({ cls := "AntLeaseModel", name := "thing", desc := "(II)I" } : Jvm.MethodName), prog_10_method_31_code, 3, (Option.some Jvm.ClassFile.FieldType.int), [], oX8_thing, [633, 518, 634, 635])
def oX8_note : List pm_OP := [(0, .aload_n 0, 1, 0, .int 0, [], []),
  (1, .getfield 107, 3, 17, .int 0, [8, 583], []),
  (4, .bipush 14, 2, 0, .int (14), [], []),
  (6, .if_icmp .ne 43, 3, 27, .int 0, [], []),
  (9, .iconst 0, 1, 0, .int (0), [], []),
  (10, .istore_n 1, 1, 0, .int 0, [], []),
  (11, .iload_n 1, 1, 0, .int 0, [], []),
  (12, .sipush 273, 3, 0, .int (273), [], []),
  (15, .if_icmp .ge 24, 3, 21, .int 0, [], []),
  (18, .aload_n 0, 1, 0, .int 0, [], []),
  (19, .getfield 28, 3, 16, .int 0, [8, 636], []),
  (22, .iload_n 1, 1, 0, .int 0, [], []),
  (23, .aload_n 0, 1, 0, .int 0, [], []),
  (24, .getfield 28, 3, 16, .int 0, [8, 636], []),
  (27, .iload_n 1, 1, 0, .int 0, [], []),
  (28, .bipush 21, 2, 0, .int (21), [], []),
  (30, .iadd, 1, 0, .int 0, [], []),
  (31, .iaload, 1, 0, .int 0, [], []),
  (32, .iastore, 1, 0, .int 0, [], []),
  (33, .iinc 1 1, 3, 0, .int (1), [], []),
  (36, .goto (-25), 3, 6, .int 0, [], []),
  (39, .aload_n 0, 1, 0, .int 0, [], []),
  (40, .dup, 1, 0, .int 0, [], []),
  (41, .getfield 107, 3, 17, .int 0, [8, 583], []),
  (44, .iconst 1, 1, 0, .int (1), [], []),
  (45, .isub, 1, 0, .int 0, [], []),
  (46, .putfield 107, 3, 17, .int 0, [8, 583], []),
  (49, .iconst 0, 1, 0, .int (0), [], []),
  (50, .istore_n 1, 1, 0, .int 0, [], []),
  (51, .iload_n 1, 1, 0, .int 0, [], []),
  (52, .bipush 21, 2, 0, .int (21), [], []),
  (54, .if_icmp .ge 29, 3, 47, .int 0, [], []),
  (57, .aload_n 0, 1, 0, .int 0, [], []),
  (58, .getfield 28, 3, 16, .int 0, [8, 636], []),
  (61, .bipush 21, 2, 0, .int (21), [], []),
  (63, .aload_n 0, 1, 0, .int 0, [], []),
  (64, .getfield 107, 3, 17, .int 0, [8, 583], []),
  (67, .imul, 1, 0, .int 0, [], []),
  (68, .iload_n 1, 1, 0, .int 0, [], []),
  (69, .iadd, 1, 0, .int 0, [], []),
  (70, .aload_n 0, 1, 0, .int 0, [], []),
  (71, .getfield 22, 3, 14, .int 0, [8, 581], []),
  (74, .iload_n 1, 1, 0, .int 0, [], []),
  (75, .iaload, 1, 0, .int 0, [], []),
  (76, .iastore, 1, 0, .int 0, [], []),
  (77, .iinc 1 1, 3, 0, .int (1), [], []),
  (80, .goto (-29), 3, 29, .int 0, [], []),
  (83, .aload_n 0, 1, 0, .int 0, [], []),
  (84, .dup, 1, 0, .int 0, [], []),
  (85, .getfield 107, 3, 17, .int 0, [8, 583], []),
  (88, .iconst 1, 1, 0, .int (1), [], []),
  (89, .iadd, 1, 0, .int 0, [], []),
  (90, .putfield 107, 3, 17, .int 0, [8, 583], []),
  (93, .return_, 1, 0, .int 0, [], [])]
def tX8_note : pm_M := (({ cls := "AntLeaseModel", name := "note", desc := "()V" } : Jvm.MethodName), prog_10_method_32_code, 2, (Option.none : Option Jvm.ClassFile.FieldType), [], oX8_note, [637, 518, 638, 639])
def oX8_quarter : List pm_OP := [(0, .aload_n 0, 1, 0, .int 0, [], []),
  (1, .iconst 0, 1, 0, .int (0), [], []),
  (2, .putfield 50, 3, 0, .int 0, [8, 540], []),
  (5, .aload_n 0, 1, 0, .int 0, [], []),
  (6, .invokevirtual 158, 3, 135, .int 0, [0, 8, 640], []),
  (9, .aload_n 0, 1, 0, .int 0, [], []),
  (10, .aload_n 0, 1, 0, .int 0, [], []),
  (11, .getfield 22, 3, 14, .int 0, [8, 581], []),
  (14, .invokevirtual 161, 3, 130, .int 0, [1, 8, 641], []),
  (17, .ireturn, 1, 0, .int 0, [], [])]
def tX8_quarter : pm_M := (({ cls := "AntLeaseModel", name := "quarter", desc := "()I" } : Jvm.MethodName), prog_10_method_33_code, 1, (Option.some Jvm.ClassFile.FieldType.int), [], oX8_quarter, [642, 518, 643, 644])
def oX8_goPut : List pm_OP := [(0, .aload_n 0, 1, 0, .int 0, [], []),
  (1, .iload_n 1, 1, 0, .int 0, [], []),
  (2, .iaload, 1, 0, .int 0, [], []),
  (3, .iload_n 2, 1, 0, .int 0, [], []),
  (4, .iadd, 1, 0, .int 0, [], []),
  (5, .sipush 999, 3, 0, .int (999), [], []),
  (8, .if_icmp .gt 7, 3, 9, .int 0, [], []),
  (11, .iconst 1, 1, 0, .int (1), [], []),
  (12, .goto 4, 3, 10, .int 0, [], []),
  (15, .iconst 0, 1, 0, .int (0), [], []),
  (16, .istore_n 3, 1, 0, .int 0, [], []),
  (17, .aload_n 0, 1, 0, .int 0, [], []),
  (18, .iload_n 1, 1, 0, .int 0, [], []),
  (19, .dup2, 1, 0, .int 0, [], []),
  (20, .iaload, 1, 0, .int 0, [], []),
  (21, .iload_n 3, 1, 0, .int 0, [], []),
  (22, .ifCond .eq 7, 3, 19, .int 0, [], []),
  (25, .iload_n 2, 1, 0, .int 0, [], []),
  (26, .goto 4, 3, 20, .int 0, [], []),
  (29, .iconst 0, 1, 0, .int (0), [], []),
  (30, .iadd, 1, 0, .int 0, [], []),
  (31, .iastore, 1, 0, .int 0, [], []),
  (32, .aload_n 0, 1, 0, .int 0, [], []),
  (33, .bipush 8, 2, 0, .int (8), [], []),
  (35, .iload_n 1, 1, 0, .int 0, [], []),
  (36, .iadd, 1, 0, .int 0, [], []),
  (37, .dup2, 1, 0, .int 0, [], []),
  (38, .iaload, 1, 0, .int 0, [], []),
  (39, .iload_n 3, 1, 0, .int 0, [], []),
  (40, .ifCond .eq 7, 3, 32, .int 0, [], []),
  (43, .iload_n 2, 1, 0, .int 0, [], []),
  (44, .goto 4, 3, 33, .int 0, [], []),
  (47, .iconst 0, 1, 0, .int (0), [], []),
  (48, .iadd, 1, 0, .int 0, [], []),
  (49, .iastore, 1, 0, .int 0, [], []),
  (50, .iload_n 3, 1, 0, .int 0, [], []),
  (51, .ireturn, 1, 0, .int 0, [], [])]
def tX8_goPut : pm_M := (({ cls := "AntLeaseModel", name := "goPut", desc := "([III)Z" } : Jvm.MethodName), prog_10_method_34_code, 4, (Option.some Jvm.ClassFile.FieldType.boolean), [], oX8_goPut, [645, 518, 646])
def oX8_grains : List pm_OP := [(0, .aload_n 0, 1, 0, .int 0, [], []),
  (1, .getfield 13, 3, 6, .int 0, [8, 582], []),
  (4, .iload_n 1, 1, 0, .int 0, [], []),
  (5, .iaload, 1, 0, .int 0, [], []),
  (6, .iconst 3, 1, 0, .int (3), [], []),
  (7, .if_icmp .ne 10, 3, 10, .int 0, [], []),
  (10, .bipush 10, 2, 0, .int (10), [], []),
  (12, .iload_n 2, 1, 0, .int 0, [], []),
  (13, .imul, 1, 0, .int 0, [], []),
  (14, .goto 4, 3, 11, .int 0, [], []),
  (17, .iload_n 2, 1, 0, .int 0, [], []),
  (18, .ireturn, 1, 0, .int 0, [], [])]
def tX8_grains : pm_M := (({ cls := "AntLeaseModel", name := "grains", desc := "(II)I" } : Jvm.MethodName), prog_10_method_35_code, 3, (Option.some Jvm.ClassFile.FieldType.int), [], oX8_grains, [647, 518, 648, 649])
def oX8_goLeave : List pm_OP := [(0, .aload_n 0, 1, 0, .int 0, [], []),
  (1, .iload_n 2, 1, 0, .int 0, [], []),
  (2, .iload_n 3, 1, 0, .int 0, [], []),
  (3, .invokevirtual 164, 3, 138, .int 0, [2, 8, 650], []),
  (6, .istore 4, 2, 0, .int 0, [], []),
  (8, .aload_n 1, 1, 0, .int 0, [], []),
  (9, .iload_n 2, 1, 0, .int 0, [], []),
  (10, .iaload, 1, 0, .int 0, [], []),
  (11, .iload 4, 2, 0, .int 0, [], []),
  (13, .if_icmp .lt 7, 3, 12, .int 0, [], []),
  (16, .iconst 1, 1, 0, .int (1), [], []),
  (17, .goto 4, 3, 13, .int 0, [], []),
  (20, .iconst 0, 1, 0, .int (0), [], []),
  (21, .istore 5, 2, 0, .int 0, [], []),
  (23, .aload_n 1, 1, 0, .int 0, [], []),
  (24, .iload_n 2, 1, 0, .int 0, [], []),
  (25, .dup2, 1, 0, .int 0, [], []),
  (26, .iaload, 1, 0, .int 0, [], []),
  (27, .iload 5, 2, 0, .int 0, [], []),
  (29, .ifCond .eq 8, 3, 22, .int 0, [], []),
  (32, .iload 4, 2, 0, .int 0, [], []),
  (34, .goto 4, 3, 23, .int 0, [], []),
  (37, .iconst 0, 1, 0, .int (0), [], []),
  (38, .isub, 1, 0, .int 0, [], []),
  (39, .iastore, 1, 0, .int 0, [], []),
  (40, .aload_n 1, 1, 0, .int 0, [], []),
  (41, .iconst 4, 1, 0, .int (4), [], []),
  (42, .iload_n 2, 1, 0, .int 0, [], []),
  (43, .iadd, 1, 0, .int 0, [], []),
  (44, .dup2, 1, 0, .int 0, [], []),
  (45, .iaload, 1, 0, .int 0, [], []),
  (46, .iload 5, 2, 0, .int 0, [], []),
  (48, .ifCond .eq 8, 3, 35, .int 0, [], []),
  (51, .iload 4, 2, 0, .int 0, [], []),
  (53, .goto 4, 3, 36, .int 0, [], []),
  (56, .iconst 0, 1, 0, .int (0), [], []),
  (57, .iadd, 1, 0, .int 0, [], []),
  (58, .iastore, 1, 0, .int 0, [], []),
  (59, .iload 5, 2, 0, .int 0, [], []),
  (61, .ireturn, 1, 0, .int 0, [], [])]
def tX8_goLeave : pm_M := (({ cls := "AntLeaseModel", name := "goLeave", desc := "([III)Z" } : Jvm.MethodName), prog_10_method_36_code, 6, (Option.some Jvm.ClassFile.FieldType.boolean), [], oX8_goLeave, [651, 518, 652, 653])
def oX8_put : List pm_OP := [(0, .aload_n 0, 1, 0, .int 0, [], []),
  (1, .iconst 0, 1, 0, .int (0), [], []),
  (2, .putfield 50, 3, 0, .int 0, [8, 540], []),
  (5, .aload_n 0, 1, 0, .int 0, [], []),
  (6, .iload_n 1, 1, 0, .int 0, [], []),
  (7, .invokevirtual 144, 3, 111, .int 0, [1, 8, 623], []),
  (10, .ifCond .eq 5, 3, 9, .int 0, [], []),
  (13, .iconst (-1), 1, 0, .int (-1), [], []),
  (14, .ireturn, 1, 0, .int 0, [], []),
  (15, .iload_n 2, 1, 0, .int 0, [], []),
  (16, .i2l, 1, 0, .int 0, [], []),
  (17, .lconst 1, 1, 0, .long (1), [], []),
  (18, .ldc2_w 64, 3, 0, .long (9), [537], []),
  (21, .invokestatic 57, 3, 106, .int 0, [3, 529], []),
  (24, .ifCond .ne 6, 3, 17, .int 0, [], []),
  (27, .bipush (-2), 2, 0, .int (-2), [], []),
  (29, .ireturn, 1, 0, .int 0, [], []),
  (30, .aload_n 0, 1, 0, .int 0, [], []),
  (31, .getfield 22, 3, 14, .int 0, [8, 581], []),
  (34, .iload_n 1, 1, 0, .int 0, [], []),
  (35, .iaload, 1, 0, .int 0, [], []),
  (36, .iload_n 2, 1, 0, .int 0, [], []),
  (37, .iadd, 1, 0, .int 0, [], []),
  (38, .sipush 999, 3, 0, .int (999), [], []),
  (41, .if_icmp .le 6, 3, 27, .int 0, [], []),
  (44, .bipush (-4), 2, 0, .int (-4), [], []),
  (46, .ireturn, 1, 0, .int 0, [], []),
  (47, .aload_n 0, 1, 0, .int 0, [], []),
  (48, .invokevirtual 158, 3, 135, .int 0, [0, 8, 640], []),
  (51, .aload_n 0, 1, 0, .int 0, [], []),
  (52, .getfield 22, 3, 14, .int 0, [8, 581], []),
  (55, .iload_n 1, 1, 0, .int 0, [], []),
  (56, .iload_n 2, 1, 0, .int 0, [], []),
  (57, .invokestatic 167, 3, 137, .int 0, [3, 654], []),
  (60, .pop, 1, 0, .int 0, [], []),
  (61, .aload_n 0, 1, 0, .int 0, [], []),
  (62, .getfield 22, 3, 14, .int 0, [8, 581], []),
  (65, .iload_n 1, 1, 0, .int 0, [], []),
  (66, .iaload, 1, 0, .int 0, [], []),
  (67, .ireturn, 1, 0, .int 0, [], [])]
def tX8_put : pm_M := (({ cls := "AntLeaseModel", name := "put", desc := "(II)I" } : Jvm.MethodName), prog_10_method_37_code, 3, (Option.some Jvm.ClassFile.FieldType.int), [], oX8_put, [655, 518, 656, 657])
def oX8_eat : List pm_OP := [(0, .aload_n 0, 1, 0, .int 0, [], []),
  (1, .iconst 0, 1, 0, .int (0), [], []),
  (2, .putfield 50, 3, 0, .int 0, [8, 540], []),
  (5, .aload_n 0, 1, 0, .int 0, [], []),
  (6, .iload_n 1, 1, 0, .int 0, [], []),
  (7, .invokevirtual 144, 3, 111, .int 0, [1, 8, 623], []),
  (10, .ifCond .eq 5, 3, 9, .int 0, [], []),
  (13, .iconst (-1), 1, 0, .int (-1), [], []),
  (14, .ireturn, 1, 0, .int 0, [], []),
  (15, .iload_n 2, 1, 0, .int 0, [], []),
  (16, .i2l, 1, 0, .int 0, [], []),
  (17, .lconst 1, 1, 0, .long (1), [], []),
  (18, .ldc2_w 64, 3, 0, .long (9), [537], []),
  (21, .invokestatic 57, 3, 106, .int 0, [3, 529], []),
  (24, .ifCond .ne 6, 3, 17, .int 0, [], []),
  (27, .bipush (-2), 2, 0, .int (-2), [], []),
  (29, .ireturn, 1, 0, .int 0, [], []),
  (30, .aload_n 0, 1, 0, .int 0, [], []),
  (31, .getfield 22, 3, 14, .int 0, [8, 581], []),
  (34, .iload_n 1, 1, 0, .int 0, [], []),
  (35, .iaload, 1, 0, .int 0, [], []),
  (36, .iload_n 2, 1, 0, .int 0, [], []),
  (37, .if_icmp .ge 6, 3, 25, .int 0, [], []),
  (40, .bipush (-3), 2, 0, .int (-3), [], []),
  (42, .ireturn, 1, 0, .int 0, [], []),
  (43, .aload_n 0, 1, 0, .int 0, [], []),
  (44, .invokevirtual 158, 3, 135, .int 0, [0, 8, 640], []),
  (47, .aload_n 0, 1, 0, .int 0, [], []),
  (48, .getfield 22, 3, 14, .int 0, [8, 581], []),
  (51, .iload_n 1, 1, 0, .int 0, [], []),
  (52, .dup2, 1, 0, .int 0, [], []),
  (53, .iaload, 1, 0, .int 0, [], []),
  (54, .iload_n 2, 1, 0, .int 0, [], []),
  (55, .isub, 1, 0, .int 0, [], []),
  (56, .iastore, 1, 0, .int 0, [], []),
  (57, .aload_n 0, 1, 0, .int 0, [], []),
  (58, .getfield 22, 3, 14, .int 0, [8, 581], []),
  (61, .iload_n 1, 1, 0, .int 0, [], []),
  (62, .iaload, 1, 0, .int 0, [], []),
  (63, .ireturn, 1, 0, .int 0, [], [])]
def tX8_eat : pm_M := (({ cls := "AntLeaseModel", name := "eat", desc := "(II)I" } : Jvm.MethodName), prog_10_method_38_code, 3, (Option.some Jvm.ClassFile.FieldType.int), [], oX8_eat, [658, 518, 659, 660])
def oX8_leave : List pm_OP := [(0, .aload_n 0, 1, 0, .int 0, [], []),
  (1, .iconst 0, 1, 0, .int (0), [], []),
  (2, .putfield 50, 3, 0, .int 0, [8, 540], []),
  (5, .aload_n 0, 1, 0, .int 0, [], []),
  (6, .iload_n 1, 1, 0, .int 0, [], []),
  (7, .invokevirtual 144, 3, 111, .int 0, [1, 8, 623], []),
  (10, .ifCond .eq 5, 3, 9, .int 0, [], []),
  (13, .iconst (-1), 1, 0, .int (-1), [], []),
  (14, .ireturn, 1, 0, .int 0, [], []),
  (15, .iload_n 2, 1, 0, .int 0, [], []),
  (16, .i2l, 1, 0, .int 0, [], []),
  (17, .lconst 1, 1, 0, .long (1), [], []),
  (18, .ldc2_w 64, 3, 0, .long (9), [537], []),
  (21, .invokestatic 57, 3, 106, .int 0, [3, 529], []),
  (24, .ifCond .ne 6, 3, 17, .int 0, [], []),
  (27, .bipush (-2), 2, 0, .int (-2), [], []),
  (29, .ireturn, 1, 0, .int 0, [], []),
  (30, .aload_n 0, 1, 0, .int 0, [], []),
  (31, .getfield 22, 3, 14, .int 0, [8, 581], []),
  (34, .iload_n 1, 1, 0, .int 0, [], []),
  (35, .iaload, 1, 0, .int 0, [], []),
  (36, .aload_n 0, 1, 0, .int 0, [], []),
  (37, .iload_n 1, 1, 0, .int 0, [], []),
  (38, .iload_n 2, 1, 0, .int 0, [], []),
  (39, .invokevirtual 164, 3, 138, .int 0, [2, 8, 650], []),
  (42, .if_icmp .ge 6, 3, 28, .int 0, [], []),
  (45, .bipush (-3), 2, 0, .int (-3), [], []),
  (47, .ireturn, 1, 0, .int 0, [], []),
  (48, .aload_n 0, 1, 0, .int 0, [], []),
  (49, .invokevirtual 158, 3, 135, .int 0, [0, 8, 640], []),
  (52, .aload_n 0, 1, 0, .int 0, [], []),
  (53, .aload_n 0, 1, 0, .int 0, [], []),
  (54, .getfield 22, 3, 14, .int 0, [8, 581], []),
  (57, .iload_n 1, 1, 0, .int 0, [], []),
  (58, .iload_n 2, 1, 0, .int 0, [], []),
  (59, .invokevirtual 171, 3, 139, .int 0, [3, 8, 661], []),
  (62, .pop, 1, 0, .int 0, [], []),
  (63, .aload_n 0, 1, 0, .int 0, [], []),
  (64, .getfield 22, 3, 14, .int 0, [8, 581], []),
  (67, .iconst 4, 1, 0, .int (4), [], []),
  (68, .iload_n 1, 1, 0, .int 0, [], []),
  (69, .iadd, 1, 0, .int 0, [], []),
  (70, .iaload, 1, 0, .int 0, [], []),
  (71, .ireturn, 1, 0, .int 0, [], [])]
def tX8_leave : pm_M := (({ cls := "AntLeaseModel", name := "leave", desc := "(II)I" } : Jvm.MethodName), prog_10_method_39_code, 3, (Option.some Jvm.ClassFile.FieldType.int), [], oX8_leave, [662, 518, 663, 664])
def oX8_move : List pm_OP := [(0, .aload_n 0, 1, 0, .int 0, [], []),
  (1, .iconst 0, 1, 0, .int (0), [], []),
  (2, .putfield 50, 3, 0, .int 0, [8, 540], []),
  (5, .aload_n 0, 1, 0, .int 0, [], []),
  (6, .iload_n 1, 1, 0, .int 0, [], []),
  (7, .invokevirtual 152, 3, 112, .int 0, [1, 8, 631], []),
  (10, .ifCond .ne 10, 3, 10, .int 0, [], []),
  (13, .iload_n 2, 1, 0, .int 0, [], []),
  (14, .invokestatic 174, 3, 113, .int 0, [1, 665], []),
  (17, .ifCond .eq 5, 3, 12, .int 0, [], []),
  (20, .iconst (-1), 1, 0, .int (-1), [], []),
  (21, .ireturn, 1, 0, .int 0, [], []),
  (22, .aload_n 0, 1, 0, .int 0, [], []),
  (23, .getfield 22, 3, 14, .int 0, [8, 581], []),
  (26, .bipush 12, 2, 0, .int (12), [], []),
  (28, .iload_n 1, 1, 0, .int 0, [], []),
  (29, .iadd, 1, 0, .int 0, [], []),
  (30, .iaload, 1, 0, .int 0, [], []),
  (31, .istore_n 3, 1, 0, .int 0, [], []),
  (32, .iload_n 3, 1, 0, .int 0, [], []),
  (33, .iload_n 2, 1, 0, .int 0, [], []),
  (34, .if_icmp .ne 6, 3, 24, .int 0, [], []),
  (37, .bipush (-3), 2, 0, .int (-3), [], []),
  (39, .ireturn, 1, 0, .int 0, [], []),
  (40, .aload_n 0, 1, 0, .int 0, [], []),
  (41, .invokevirtual 158, 3, 135, .int 0, [0, 8, 640], []),
  (44, .aload_n 0, 1, 0, .int 0, [], []),
  (45, .getfield 22, 3, 14, .int 0, [8, 581], []),
  (48, .bipush 12, 2, 0, .int (12), [], []),
  (50, .iload_n 1, 1, 0, .int 0, [], []),
  (51, .iadd, 1, 0, .int 0, [], []),
  (52, .iload_n 2, 1, 0, .int 0, [], []),
  (53, .iastore, 1, 0, .int 0, [], []),
  (54, .iload_n 3, 1, 0, .int 0, [], []),
  (55, .iload_n 2, 1, 0, .int 0, [], []),
  (56, .invokestatic 148, 3, 110, .int 0, [2, 627], []),
  (59, .ireturn, 1, 0, .int 0, [], [])]
def tX8_move : pm_M := (({ cls := "AntLeaseModel", name := "move", desc := "(II)I" } : Jvm.MethodName), prog_10_method_40_code, 4, (Option.some Jvm.ClassFile.FieldType.int), [], oX8_move, [666, 518, 667, 668])
def oX8_sprinkle : List pm_OP := [(0, .aload_n 0, 1, 0, .int 0, [], []),
  (1, .iconst 0, 1, 0, .int (0), [], []),
  (2, .putfield 50, 3, 0, .int 0, [8, 540], []),
  (5, .iload_n 1, 1, 0, .int 0, [], []),
  (6, .invokestatic 174, 3, 113, .int 0, [1, 665], []),
  (9, .ifCond .eq 5, 3, 8, .int 0, [], []),
  (12, .iconst (-1), 1, 0, .int (-1), [], []),
  (13, .ireturn, 1, 0, .int 0, [], []),
  (14, .aload_n 0, 1, 0, .int 0, [], []),
  (15, .getfield 22, 3, 14, .int 0, [8, 581], []),
  (18, .bipush 17, 2, 0, .int (17), [], []),
  (20, .iaload, 1, 0, .int 0, [], []),
  (21, .iload_n 1, 1, 0, .int 0, [], []),
  (22, .invokestatic 110, 3, 107, .int 0, [2, 591], []),
  (25, .ifCond .eq 6, 3, 17, .int 0, [], []),
  (28, .bipush (-3), 2, 0, .int (-3), [], []),
  (30, .ireturn, 1, 0, .int 0, [], []),
  (31, .aload_n 0, 1, 0, .int 0, [], []),
  (32, .invokevirtual 158, 3, 135, .int 0, [0, 8, 640], []),
  (35, .aload_n 0, 1, 0, .int 0, [], []),
  (36, .getfield 22, 3, 14, .int 0, [8, 581], []),
  (39, .bipush 17, 2, 0, .int (17), [], []),
  (41, .dup2, 1, 0, .int 0, [], []),
  (42, .iaload, 1, 0, .int 0, [], []),
  (43, .iconst 1, 1, 0, .int (1), [], []),
  (44, .iload_n 1, 1, 0, .int 0, [], []),
  (45, .ishl, 1, 0, .int 0, [], []),
  (46, .ior, 1, 0, .int 0, [], []),
  (47, .iastore, 1, 0, .int 0, [], []),
  (48, .aload_n 0, 1, 0, .int 0, [], []),
  (49, .getfield 22, 3, 14, .int 0, [8, 581], []),
  (52, .bipush 17, 2, 0, .int (17), [], []),
  (54, .iaload, 1, 0, .int 0, [], []),
  (55, .invokestatic 135, 3, 108, .int 0, [1, 614], []),
  (58, .ireturn, 1, 0, .int 0, [], [])]
def tX8_sprinkle : pm_M := (({ cls := "AntLeaseModel", name := "sprinkle", desc := "(I)I" } : Jvm.MethodName), prog_10_method_41_code, 2, (Option.some Jvm.ClassFile.FieldType.int), [], oX8_sprinkle, [669, 518, 670, 671])
def oX8_undo : List pm_OP := [(0, .aload_n 0, 1, 0, .int 0, [], []),
  (1, .iconst 0, 1, 0, .int (0), [], []),
  (2, .putfield 50, 3, 0, .int 0, [8, 540], []),
  (5, .aload_n 0, 1, 0, .int 0, [], []),
  (6, .getfield 107, 3, 17, .int 0, [8, 583], []),
  (9, .ifCond .ne 6, 3, 8, .int 0, [], []),
  (12, .bipush (-3), 2, 0, .int (-3), [], []),
  (14, .ireturn, 1, 0, .int 0, [], []),
  (15, .aload_n 0, 1, 0, .int 0, [], []),
  (16, .dup, 1, 0, .int 0, [], []),
  (17, .getfield 107, 3, 17, .int 0, [8, 583], []),
  (20, .iconst 1, 1, 0, .int (1), [], []),
  (21, .isub, 1, 0, .int 0, [], []),
  (22, .putfield 107, 3, 17, .int 0, [8, 583], []),
  (25, .iconst 0, 1, 0, .int (0), [], []),
  (26, .istore_n 1, 1, 0, .int 0, [], []),
  (27, .iload_n 1, 1, 0, .int 0, [], []),
  (28, .bipush 21, 2, 0, .int (21), [], []),
  (30, .if_icmp .ge 29, 3, 34, .int 0, [], []),
  (33, .aload_n 0, 1, 0, .int 0, [], []),
  (34, .getfield 22, 3, 14, .int 0, [8, 581], []),
  (37, .iload_n 1, 1, 0, .int 0, [], []),
  (38, .aload_n 0, 1, 0, .int 0, [], []),
  (39, .getfield 28, 3, 16, .int 0, [8, 636], []),
  (42, .bipush 21, 2, 0, .int (21), [], []),
  (44, .aload_n 0, 1, 0, .int 0, [], []),
  (45, .getfield 107, 3, 17, .int 0, [8, 583], []),
  (48, .imul, 1, 0, .int 0, [], []),
  (49, .iload_n 1, 1, 0, .int 0, [], []),
  (50, .iadd, 1, 0, .int 0, [], []),
  (51, .iaload, 1, 0, .int 0, [], []),
  (52, .iastore, 1, 0, .int 0, [], []),
  (53, .iinc 1 1, 3, 0, .int (1), [], []),
  (56, .goto (-29), 3, 16, .int 0, [], []),
  (59, .aload_n 0, 1, 0, .int 0, [], []),
  (60, .getfield 107, 3, 17, .int 0, [8, 583], []),
  (63, .ireturn, 1, 0, .int 0, [], [])]
def tX8_undo : pm_M := (({ cls := "AntLeaseModel", name := "undo", desc := "()I" } : Jvm.MethodName), prog_10_method_42_code, 2, (Option.some Jvm.ClassFile.FieldType.int), [], oX8_undo, [672, 518, 673, 674])
def oX8_begin : List pm_OP := [(0, .iconst 0, 1, 0, .int (0), [], []),
  (1, .istore_n 1, 1, 0, .int 0, [], []),
  (2, .iload_n 1, 1, 0, .int 0, [], []),
  (3, .bipush 21, 2, 0, .int (21), [], []),
  (5, .if_icmp .ge 21, 3, 15, .int 0, [], []),
  (8, .aload_n 0, 1, 0, .int 0, [], []),
  (9, .getfield 25, 3, 15, .int 0, [8, 675], []),
  (12, .iload_n 1, 1, 0, .int 0, [], []),
  (13, .aload_n 0, 1, 0, .int 0, [], []),
  (14, .getfield 22, 3, 14, .int 0, [8, 581], []),
  (17, .iload_n 1, 1, 0, .int 0, [], []),
  (18, .iaload, 1, 0, .int 0, [], []),
  (19, .iastore, 1, 0, .int 0, [], []),
  (20, .iinc 1 1, 3, 0, .int (1), [], []),
  (23, .goto (-21), 3, 2, .int 0, [], []),
  (26, .return_, 1, 0, .int 0, [], [])]
def tX8_begin : pm_M := (({ cls := "AntLeaseModel", name := "begin", desc := "()V" } : Jvm.MethodName), prog_10_method_43_code, 2, (Option.none : Option Jvm.ClassFile.FieldType), [], oX8_begin, [676, 518, 677, 678])
def oX8_later : List pm_OP := [(0, .aload_n 0, 1, 0, .int 0, [], []),
  (1, .iconst 0, 1, 0, .int (0), [], []),
  (2, .putfield 50, 3, 0, .int 0, [8, 540], []),
  (5, .iload_n 1, 1, 0, .int 0, [], []),
  (6, .i2l, 1, 0, .int 0, [], []),
  (7, .lconst 0, 1, 0, .long (0), [], []),
  (8, .ldc2_w 177, 3, 0, .long (20), [679], []),
  (11, .invokestatic 57, 3, 106, .int 0, [3, 529], []),
  (14, .ifCond .eq 15, 3, 15, .int 0, [], []),
  (17, .iload_n 2, 1, 0, .int 0, [], []),
  (18, .i2l, 1, 0, .int 0, [], []),
  (19, .lconst 0, 1, 0, .long (0), [], []),
  (20, .ldc2_w 179, 3, 0, .long (2), [680], []),
  (23, .invokestatic 57, 3, 106, .int 0, [3, 529], []),
  (26, .ifCond .ne 6, 3, 17, .int 0, [], []),
  (29, .bipush (-2), 2, 0, .int (-2), [], []),
  (31, .ireturn, 1, 0, .int 0, [], []),
  (32, .aload_n 0, 1, 0, .int 0, [], []),
  (33, .invokevirtual 181, 3, 146, .int 0, [0, 8, 681], []),
  (36, .iconst 0, 1, 0, .int (0), [], []),
  (37, .istore_n 3, 1, 0, .int 0, [], []),
  (38, .iload_n 3, 1, 0, .int 0, [], []),
  (39, .iload_n 1, 1, 0, .int 0, [], []),
  (40, .if_icmp .ge 18, 3, 31, .int 0, [], []),
  (43, .aload_n 0, 1, 0, .int 0, [], []),
  (44, .aload_n 0, 1, 0, .int 0, [], []),
  (45, .getfield 25, 3, 15, .int 0, [8, 675], []),
  (48, .invokevirtual 161, 3, 130, .int 0, [1, 8, 641], []),
  (51, .pop, 1, 0, .int 0, [], []),
  (52, .iinc 3 1, 3, 0, .int (1), [], []),
  (55, .goto (-17), 3, 21, .int 0, [], []),
  (58, .iload_n 2, 1, 0, .int 0, [], []),
  (59, .ifCond .ne 13, 3, 38, .int 0, [], []),
  (62, .aload_n 0, 1, 0, .int 0, [], []),
  (63, .getfield 25, 3, 15, .int 0, [8, 675], []),
  (66, .bipush 19, 2, 0, .int (19), [], []),
  (68, .iaload, 1, 0, .int 0, [], []),
  (69, .goto 26, 3, 50, .int 0, [], []),
  (72, .iload_n 2, 1, 0, .int 0, [], []),
  (73, .iconst 1, 1, 0, .int (1), [], []),
  (74, .if_icmp .ne 13, 3, 46, .int 0, [], []),
  (77, .aload_n 0, 1, 0, .int 0, [], []),
  (78, .getfield 25, 3, 15, .int 0, [8, 675], []),
  (81, .bipush 18, 2, 0, .int (18), [], []),
  (83, .iaload, 1, 0, .int 0, [], []),
  (84, .goto 11, 3, 50, .int 0, [], []),
  (87, .aload_n 0, 1, 0, .int 0, [], []),
  (88, .aload_n 0, 1, 0, .int 0, [], []),
  (89, .getfield 25, 3, 15, .int 0, [8, 675], []),
  (92, .invokevirtual 138, 3, 129, .int 0, [1, 8, 618], []),
  (95, .ireturn, 1, 0, .int 0, [], [])]
def tX8_later : pm_M := (({ cls := "AntLeaseModel", name := "later", desc := "(II)I" } : Jvm.MethodName), prog_10_method_44_code, 4, (Option.some Jvm.ClassFile.FieldType.int), [], oX8_later, [682, 518, 683, 684])
def oX8_leaves : List pm_OP := [(0, .aload_n 0, 1, 0, .int 0, [], []),
  (1, .invokevirtual 181, 3, 146, .int 0, [0, 8, 681], []),
  (4, .iconst 0, 1, 0, .int (0), [], []),
  (5, .istore_n 2, 1, 0, .int 0, [], []),
  (6, .iconst 0, 1, 0, .int (0), [], []),
  (7, .istore_n 3, 1, 0, .int 0, [], []),
  (8, .iload_n 3, 1, 0, .int 0, [], []),
  (9, .aload_n 0, 1, 0, .int 0, [], []),
  (10, .getfield 54, 3, 5, .int 0, [8, 528], []),
  (13, .if_icmp .ge 56, 3, 41, .int 0, [], []),
  (16, .iload_n 1, 1, 0, .int 0, [], []),
  (17, .bipush 10, 2, 0, .int (10), [], []),
  (19, .aload_n 0, 1, 0, .int 0, [], []),
  (20, .getfield 54, 3, 5, .int 0, [8, 528], []),
  (23, .iconst 1, 1, 0, .int (1), [], []),
  (24, .isub, 1, 0, .int 0, [], []),
  (25, .iload_n 3, 1, 0, .int 0, [], []),
  (26, .isub, 1, 0, .int 0, [], []),
  (27, .invokestatic 184, 3, 109, .int 0, [2, 685], []),
  (30, .idiv, 1, 0, .int 0, [], []),
  (31, .bipush 10, 2, 0, .int (10), [], []),
  (33, .irem, 1, 0, .int 0, [], []),
  (34, .istore 4, 2, 0, .int 0, [], []),
  (36, .aload_n 0, 1, 0, .int 0, [], []),
  (37, .aload_n 0, 1, 0, .int 0, [], []),
  (38, .getfield 25, 3, 15, .int 0, [8, 675], []),
  (41, .iload_n 3, 1, 0, .int 0, [], []),
  (42, .iload 4, 2, 0, .int 0, [], []),
  (44, .invokevirtual 171, 3, 139, .int 0, [3, 8, 661], []),
  (47, .ifCond .ne 6, 3, 32, .int 0, [], []),
  (50, .bipush (-9), 2, 0, .int (-9), [], []),
  (52, .ireturn, 1, 0, .int 0, [], []),
  (53, .iload_n 2, 1, 0, .int 0, [], []),
  (54, .aload_n 0, 1, 0, .int 0, [], []),
  (55, .iload_n 3, 1, 0, .int 0, [], []),
  (56, .iload 4, 2, 0, .int 0, [], []),
  (58, .invokevirtual 164, 3, 138, .int 0, [2, 8, 650], []),
  (61, .iadd, 1, 0, .int 0, [], []),
  (62, .istore_n 2, 1, 0, .int 0, [], []),
  (63, .iinc 3 1, 3, 0, .int (1), [], []),
  (66, .goto (-58), 3, 6, .int 0, [], []),
  (69, .iload_n 2, 1, 0, .int 0, [], []),
  (70, .ireturn, 1, 0, .int 0, [], [])]
def tX8_leaves : pm_M := (({ cls := "AntLeaseModel", name := "leaves", desc := "(I)I" } : Jvm.MethodName), prog_10_method_45_code, 5, (Option.some Jvm.ClassFile.FieldType.int), [], oX8_leaves, [686, 518, 687, 688])
def oX8_least : List pm_OP := [(0, .aload_n 0, 1, 0, .int 0, [], []),
  (1, .iconst 0, 1, 0, .int (0), [], []),
  (2, .putfield 50, 3, 0, .int 0, [8, 540], []),
  (5, .iload_n 1, 1, 0, .int 0, [], []),
  (6, .i2l, 1, 0, .int 0, [], []),
  (7, .lconst 0, 1, 0, .long (0), [], []),
  (8, .lconst 1, 1, 0, .long (1), [], []),
  (9, .invokestatic 57, 3, 106, .int 0, [3, 529], []),
  (12, .ifCond .ne 6, 3, 11, .int 0, [], []),
  (15, .bipush (-2), 2, 0, .int (-2), [], []),
  (17, .ireturn, 1, 0, .int 0, [], []),
  (18, .aload_n 0, 1, 0, .int 0, [], []),
  (19, .bipush (-9), 2, 0, .int (-9), [], []),
  (21, .putfield 187, 3, 24, .int 0, [8, 689], []),
  (24, .aload_n 0, 1, 0, .int 0, [], []),
  (25, .bipush (-9), 2, 0, .int (-9), [], []),
  (27, .putfield 190, 3, 25, .int 0, [8, 690], []),
  (30, .iconst 0, 1, 0, .int (0), [], []),
  (31, .istore_n 2, 1, 0, .int 0, [], []),
  (32, .iload_n 2, 1, 0, .int 0, [], []),
  (33, .bipush 10, 2, 0, .int (10), [], []),
  (35, .aload_n 0, 1, 0, .int 0, [], []),
  (36, .getfield 54, 3, 5, .int 0, [8, 528], []),
  (39, .invokestatic 184, 3, 109, .int 0, [2, 685], []),
  (42, .if_icmp .ge 59, 3, 53, .int 0, [], []),
  (45, .aload_n 0, 1, 0, .int 0, [], []),
  (46, .iload_n 2, 1, 0, .int 0, [], []),
  (47, .invokevirtual 193, 3, 148, .int 0, [1, 8, 691], []),
  (50, .istore_n 3, 1, 0, .int 0, [], []),
  (51, .iload_n 3, 1, 0, .int 0, [], []),
  (52, .bipush (-9), 2, 0, .int (-9), [], []),
  (54, .if_icmp .eq 41, 3, 51, .int 0, [], []),
  (57, .aload_n 0, 1, 0, .int 0, [], []),
  (58, .aload_n 0, 1, 0, .int 0, [], []),
  (59, .getfield 25, 3, 15, .int 0, [8, 675], []),
  (62, .invokevirtual 132, 3, 126, .int 0, [1, 8, 613], []),
  (65, .ifCond .ne 30, 3, 51, .int 0, [], []),
  (68, .aload_n 0, 1, 0, .int 0, [], []),
  (69, .getfield 187, 3, 24, .int 0, [8, 689], []),
  (72, .bipush (-9), 2, 0, .int (-9), [], []),
  (74, .if_icmp .eq 11, 3, 45, .int 0, [], []),
  (77, .iload_n 3, 1, 0, .int 0, [], []),
  (78, .aload_n 0, 1, 0, .int 0, [], []),
  (79, .getfield 187, 3, 24, .int 0, [8, 689], []),
  (82, .if_icmp .ge 13, 3, 51, .int 0, [], []),
  (85, .aload_n 0, 1, 0, .int 0, [], []),
  (86, .iload_n 3, 1, 0, .int 0, [], []),
  (87, .putfield 187, 3, 24, .int 0, [8, 689], []),
  (90, .aload_n 0, 1, 0, .int 0, [], []),
  (91, .iload_n 2, 1, 0, .int 0, [], []),
  (92, .putfield 190, 3, 25, .int 0, [8, 690], []),
  (95, .iinc 2 1, 3, 0, .int (1), [], []),
  (98, .goto (-66), 3, 19, .int 0, [], []),
  (101, .iload_n 1, 1, 0, .int 0, [], []),
  (102, .ifCond .ne 10, 3, 58, .int 0, [], []),
  (105, .aload_n 0, 1, 0, .int 0, [], []),
  (106, .getfield 187, 3, 24, .int 0, [8, 689], []),
  (109, .goto 7, 3, 60, .int 0, [], []),
  (112, .aload_n 0, 1, 0, .int 0, [], []),
  (113, .getfield 190, 3, 25, .int 0, [8, 690], []),
  (116, .ireturn, 1, 0, .int 0, [], [])]
def tX8_least : pm_M := (({ cls := "AntLeaseModel", name := "least", desc := "(I)I" } : Jvm.MethodName), prog_10_method_46_code, 4, (Option.some Jvm.ClassFile.FieldType.int), [], oX8_least, [692, 518, 693, 694])
def oX8_longPower : List pm_OP := [(0, .lconst 1, 1, 0, .long (1), [], []),
  (1, .lstore_n 3, 1, 0, .int 0, [], []),
  (2, .iconst 0, 1, 0, .int (0), [], []),
  (3, .istore 5, 2, 0, .int 0, [], []),
  (5, .iload 5, 2, 0, .int 0, [], []),
  (7, .iload_n 2, 1, 0, .int 0, [], []),
  (8, .if_icmp .ge 13, 3, 13, .int 0, [], []),
  (11, .lload_n 3, 1, 0, .int 0, [], []),
  (12, .lload_n 0, 1, 0, .int 0, [], []),
  (13, .lmul, 1, 0, .int 0, [], []),
  (14, .lstore_n 3, 1, 0, .int 0, [], []),
  (15, .iinc 5 1, 3, 0, .int (1), [], []),
  (18, .goto (-13), 3, 4, .int 0, [], []),
  (21, .lload_n 3, 1, 0, .int 0, [], []),
  (22, .lreturn, 1, 0, .int 0, [], [])]
def tX8_longPower : pm_M := (({ cls := "AntLeaseModel", name := "longPower", desc := "(JI)J" } : Jvm.MethodName), prog_10_method_47_code, 6, (Option.some Jvm.ClassFile.FieldType.long), [0, 3], oX8_longPower, [695, 518, 696])
def oX8_moves : List pm_OP := [(0, .aload_n 0, 1, 0, .int 0, [], []),
  (1, .iload_n 1, 1, 0, .int 0, [], []),
  (2, .invokevirtual 152, 3, 112, .int 0, [1, 8, 631], []),
  (5, .ifCond .ne 20, 3, 14, .int 0, [], []),
  (8, .aload_n 0, 1, 0, .int 0, [], []),
  (9, .getfield 25, 3, 15, .int 0, [8, 675], []),
  (12, .bipush 12, 2, 0, .int (12), [], []),
  (14, .iload_n 1, 1, 0, .int 0, [], []),
  (15, .iadd, 1, 0, .int 0, [], []),
  (16, .iaload, 1, 0, .int 0, [], []),
  (17, .iload_n 2, 1, 0, .int 0, [], []),
  (18, .if_icmp .eq 7, 3, 14, .int 0, [], []),
  (21, .iconst 1, 1, 0, .int (1), [], []),
  (22, .goto 4, 3, 15, .int 0, [], []),
  (25, .iconst 0, 1, 0, .int (0), [], []),
  (26, .istore_n 3, 1, 0, .int 0, [], []),
  (27, .iload_n 3, 1, 0, .int 0, [], []),
  (28, .ifCond .eq 13, 3, 25, .int 0, [], []),
  (31, .aload_n 0, 1, 0, .int 0, [], []),
  (32, .getfield 25, 3, 15, .int 0, [8, 675], []),
  (35, .bipush 12, 2, 0, .int (12), [], []),
  (37, .iload_n 1, 1, 0, .int 0, [], []),
  (38, .iadd, 1, 0, .int 0, [], []),
  (39, .iload_n 2, 1, 0, .int 0, [], []),
  (40, .iastore, 1, 0, .int 0, [], []),
  (41, .iload_n 3, 1, 0, .int 0, [], []),
  (42, .ireturn, 1, 0, .int 0, [], [])]
def tX8_moves : pm_M := (({ cls := "AntLeaseModel", name := "moves", desc := "(II)Z" } : Jvm.MethodName), prog_10_method_48_code, 4, (Option.some Jvm.ClassFile.FieldType.boolean), [], oX8_moves, [697, 518, 698, 699])
def oX8_sprinkles : List pm_OP := [(0, .aload_n 0, 1, 0, .int 0, [], []),
  (1, .getfield 25, 3, 15, .int 0, [8, 675], []),
  (4, .bipush 17, 2, 0, .int (17), [], []),
  (6, .iaload, 1, 0, .int 0, [], []),
  (7, .iload_n 1, 1, 0, .int 0, [], []),
  (8, .invokestatic 110, 3, 107, .int 0, [2, 591], []),
  (11, .ifCond .ne 7, 3, 9, .int 0, [], []),
  (14, .iconst 1, 1, 0, .int (1), [], []),
  (15, .goto 4, 3, 10, .int 0, [], []),
  (18, .iconst 0, 1, 0, .int (0), [], []),
  (19, .istore_n 2, 1, 0, .int 0, [], []),
  (20, .aload_n 0, 1, 0, .int 0, [], []),
  (21, .getfield 25, 3, 15, .int 0, [8, 675], []),
  (24, .bipush 17, 2, 0, .int (17), [], []),
  (26, .dup2, 1, 0, .int 0, [], []),
  (27, .iaload, 1, 0, .int 0, [], []),
  (28, .iconst 1, 1, 0, .int (1), [], []),
  (29, .iload_n 1, 1, 0, .int 0, [], []),
  (30, .ishl, 1, 0, .int 0, [], []),
  (31, .ior, 1, 0, .int 0, [], []),
  (32, .iastore, 1, 0, .int 0, [], []),
  (33, .iload_n 2, 1, 0, .int 0, [], []),
  (34, .ireturn, 1, 0, .int 0, [], [])]
def tX8_sprinkles : pm_M := (({ cls := "AntLeaseModel", name := "sprinkles", desc := "(I)Z" } : Jvm.MethodName), prog_10_method_49_code, 3, (Option.some Jvm.ClassFile.FieldType.boolean), [], oX8_sprinkles, [700, 518, 701, 702])
def oX8_does : List pm_OP := [(0, .iload_n 1, 1, 0, .int 0, [], []),
  (1, .bipush 100, 2, 0, .int (100), [], []),
  (3, .idiv, 1, 0, .int 0, [], []),
  (4, .istore_n 2, 1, 0, .int 0, [], []),
  (5, .iload_n 1, 1, 0, .int 0, [], []),
  (6, .bipush 10, 2, 0, .int (10), [], []),
  (8, .idiv, 1, 0, .int 0, [], []),
  (9, .bipush 10, 2, 0, .int (10), [], []),
  (11, .irem, 1, 0, .int 0, [], []),
  (12, .istore_n 3, 1, 0, .int 0, [], []),
  (13, .iload_n 1, 1, 0, .int 0, [], []),
  (14, .bipush 10, 2, 0, .int (10), [], []),
  (16, .irem, 1, 0, .int 0, [], []),
  (17, .istore 4, 2, 0, .int 0, [], []),
  (19, .iload_n 1, 1, 0, .int 0, [], []),
  (20, .ifCond .ne 14, 3, 23, .int 0, [], []),
  (23, .aload_n 0, 1, 0, .int 0, [], []),
  (24, .aload_n 0, 1, 0, .int 0, [], []),
  (25, .getfield 25, 3, 15, .int 0, [8, 675], []),
  (28, .invokevirtual 161, 3, 130, .int 0, [1, 8, 641], []),
  (31, .pop, 1, 0, .int 0, [], []),
  (32, .iconst 1, 1, 0, .int (1), [], []),
  (33, .ireturn, 1, 0, .int 0, [], []),
  (34, .iload_n 2, 1, 0, .int 0, [], []),
  (35, .tableswitch 160 1 5 #[33, 65, 98, 106, 125], 33, 90, .int 0, [], [((1), 25), ((2), 41), ((3), 58), ((4), 63), ((5), 73)]),
  (68, .aload_n 0, 1, 0, .int 0, [], []),
  (69, .iload_n 3, 1, 0, .int 0, [], []),
  (70, .invokevirtual 144, 3, 111, .int 0, [1, 8, 623], []),
  (73, .ifCond .ne 25, 3, 39, .int 0, [], []),
  (76, .iload 4, 2, 0, .int 0, [], []),
  (78, .ifCond .le 20, 3, 39, .int 0, [], []),
  (81, .aload_n 0, 1, 0, .int 0, [], []),
  (82, .getfield 25, 3, 15, .int 0, [8, 675], []),
  (85, .iload_n 3, 1, 0, .int 0, [], []),
  (86, .iload 4, 2, 0, .int 0, [], []),
  (88, .invokestatic 167, 3, 137, .int 0, [3, 654], []),
  (91, .ifCond .eq 7, 3, 39, .int 0, [], []),
  (94, .iconst 1, 1, 0, .int (1), [], []),
  (95, .goto 4, 3, 40, .int 0, [], []),
  (98, .iconst 0, 1, 0, .int (0), [], []),
  (99, .ireturn, 1, 0, .int 0, [], []),
  (100, .aload_n 0, 1, 0, .int 0, [], []),
  (101, .iload_n 3, 1, 0, .int 0, [], []),
  (102, .invokevirtual 144, 3, 111, .int 0, [1, 8, 623], []),
  (105, .ifCond .ne 26, 3, 56, .int 0, [], []),
  (108, .iload 4, 2, 0, .int 0, [], []),
  (110, .ifCond .le 21, 3, 56, .int 0, [], []),
  (113, .aload_n 0, 1, 0, .int 0, [], []),
  (114, .aload_n 0, 1, 0, .int 0, [], []),
  (115, .getfield 25, 3, 15, .int 0, [8, 675], []),
  (118, .iload_n 3, 1, 0, .int 0, [], []),
  (119, .iload 4, 2, 0, .int 0, [], []),
  (121, .invokevirtual 171, 3, 139, .int 0, [3, 8, 661], []),
  (124, .ifCond .eq 7, 3, 56, .int 0, [], []),
  (127, .iconst 1, 1, 0, .int (1), [], []),
  (128, .goto 4, 3, 57, .int 0, [], []),
  (131, .iconst 0, 1, 0, .int (0), [], []),
  (132, .ireturn, 1, 0, .int 0, [], []),
  (133, .aload_n 0, 1, 0, .int 0, [], []),
  (134, .iload_n 3, 1, 0, .int 0, [], []),
  (135, .iload 4, 2, 0, .int 0, [], []),
  (137, .invokevirtual 196, 3, 151, .int 0, [2, 8, 703], []),
  (140, .ireturn, 1, 0, .int 0, [], []),
  (141, .iload_n 3, 1, 0, .int 0, [], []),
  (142, .ifCond .ne 16, 3, 71, .int 0, [], []),
  (145, .aload_n 0, 1, 0, .int 0, [], []),
  (146, .iload 4, 2, 0, .int 0, [], []),
  (148, .invokevirtual 199, 3, 152, .int 0, [1, 8, 704], []),
  (151, .ifCond .eq 7, 3, 71, .int 0, [], []),
  (154, .iconst 1, 1, 0, .int (1), [], []),
  (155, .goto 4, 3, 72, .int 0, [], []),
  (158, .iconst 0, 1, 0, .int (0), [], []),
  (159, .ireturn, 1, 0, .int 0, [], []),
  (160, .iload_n 3, 1, 0, .int 0, [], []),
  (161, .ifCond .ne 32, 3, 88, .int 0, [], []),
  (164, .aload_n 0, 1, 0, .int 0, [], []),
  (165, .iload 4, 2, 0, .int 0, [], []),
  (167, .invokevirtual 152, 3, 112, .int 0, [1, 8, 631], []),
  (170, .ifCond .ne 23, 3, 88, .int 0, [], []),
  (173, .aload_n 0, 1, 0, .int 0, [], []),
  (174, .aload_n 0, 1, 0, .int 0, [], []),
  (175, .getfield 25, 3, 15, .int 0, [8, 675], []),
  (178, .invokevirtual 138, 3, 129, .int 0, [1, 8, 618], []),
  (181, .iload 4, 2, 0, .int 0, [], []),
  (183, .invokestatic 110, 3, 107, .int 0, [2, 591], []),
  (186, .ifCond .eq 7, 3, 88, .int 0, [], []),
  (189, .iconst 1, 1, 0, .int (1), [], []),
  (190, .goto 4, 3, 89, .int 0, [], []),
  (193, .iconst 0, 1, 0, .int (0), [], []),
  (194, .ireturn, 1, 0, .int 0, [], []),
  (195, .iload_n 2, 1, 0, .int 0, [], []),
  (196, .bipush 6, 2, 0, .int (6), [], []),
  (198, .if_icmp .ne 23, 3, 103, .int 0, [], []),
  (201, .iload_n 3, 1, 0, .int 0, [], []),
  (202, .ifCond .ne 19, 3, 103, .int 0, [], []),
  (205, .aload_n 0, 1, 0, .int 0, [], []),
  (206, .getfield 25, 3, 15, .int 0, [8, 675], []),
  (209, .bipush 19, 2, 0, .int (19), [], []),
  (211, .iaload, 1, 0, .int 0, [], []),
  (212, .iload 4, 2, 0, .int 0, [], []),
  (214, .if_icmp .lt 7, 3, 103, .int 0, [], []),
  (217, .iconst 1, 1, 0, .int (1), [], []),
  (218, .goto 4, 3, 104, .int 0, [], []),
  (221, .iconst 0, 1, 0, .int (0), [], []),
  (222, .ireturn, 1, 0, .int 0, [], [])]
def tX8_does : pm_M := (({ cls := "AntLeaseModel", name := "does", desc := "(I)Z" } : Jvm.MethodName), prog_10_method_50_code, 5, (Option.some Jvm.ClassFile.FieldType.boolean), [], oX8_does, [705, 518, 706, 707])
def oX8_judge : List pm_OP := [(0, .aload_n 0, 1, 0, .int 0, [], []),
  (1, .iconst 0, 1, 0, .int (0), [], []),
  (2, .putfield 50, 3, 0, .int 0, [8, 540], []),
  (5, .iload_n 1, 1, 0, .int 0, [], []),
  (6, .i2l, 1, 0, .int 0, [], []),
  (7, .lconst 1, 1, 0, .long (1), [], []),
  (8, .ldc2_w 202, 3, 0, .long (4), [708], []),
  (11, .invokestatic 57, 3, 106, .int 0, [3, 529], []),
  (14, .ifCond .eq 20, 3, 18, .int 0, [], []),
  (17, .lload_n 2, 1, 0, .int 0, [], []),
  (18, .lconst 0, 1, 0, .long (0), [], []),
  (19, .ldc2_w 204, 3, 0, .long (1000), [709], []),
  (22, .iload_n 1, 1, 0, .int 0, [], []),
  (23, .invokestatic 206, 3, 150, .int 0, [2, 710], []),
  (26, .lconst 1, 1, 0, .long (1), [], []),
  (27, .lsub, 1, 0, .int 0, [], []),
  (28, .invokestatic 57, 3, 106, .int 0, [3, 529], []),
  (31, .ifCond .ne 6, 3, 20, .int 0, [], []),
  (34, .bipush (-2), 2, 0, .int (-2), [], []),
  (36, .ireturn, 1, 0, .int 0, [], []),
  (37, .aload_n 0, 1, 0, .int 0, [], []),
  (38, .invokevirtual 181, 3, 146, .int 0, [0, 8, 681], []),
  (41, .iconst 0, 1, 0, .int (0), [], []),
  (42, .istore 4, 2, 0, .int 0, [], []),
  (44, .iload 4, 2, 0, .int 0, [], []),
  (46, .iload_n 1, 1, 0, .int 0, [], []),
  (47, .if_icmp .ge 38, 3, 46, .int 0, [], []),
  (50, .aload_n 0, 1, 0, .int 0, [], []),
  (51, .lload_n 2, 1, 0, .int 0, [], []),
  (52, .ldc2_w 204, 3, 0, .long (1000), [709], []),
  (55, .iload_n 1, 1, 0, .int 0, [], []),
  (56, .iconst 1, 1, 0, .int (1), [], []),
  (57, .isub, 1, 0, .int 0, [], []),
  (58, .iload 4, 2, 0, .int 0, [], []),
  (60, .isub, 1, 0, .int 0, [], []),
  (61, .invokestatic 206, 3, 150, .int 0, [2, 710], []),
  (64, .ldiv, 1, 0, .int 0, [], []),
  (65, .ldc2_w 204, 3, 0, .long (1000), [709], []),
  (68, .lrem, 1, 0, .int 0, [], []),
  (69, .l2i, 1, 0, .int 0, [], []),
  (70, .invokevirtual 210, 3, 153, .int 0, [1, 8, 711], []),
  (73, .ifCond .ne 6, 3, 44, .int 0, [], []),
  (76, .iload 4, 2, 0, .int 0, [], []),
  (78, .ireturn, 1, 0, .int 0, [], []),
  (79, .iinc 4 1, 3, 0, .int (1), [], []),
  (82, .goto (-38), 3, 24, .int 0, [], []),
  (85, .bipush (-9), 2, 0, .int (-9), [], []),
  (87, .ireturn, 1, 0, .int 0, [], [])]
def tX8_judge : pm_M := (({ cls := "AntLeaseModel", name := "judge", desc := "(IJ)I" } : Jvm.MethodName), prog_10_method_51_code, 5, (Option.some Jvm.ClassFile.FieldType.int), [2], oX8_judge, [712, 518, 713, 714])
def oX8_ways : List pm_OP := [(0, .iconst 1, 1, 0, .int (1), [], []),
  (1, .istore_n 1, 1, 0, .int 0, [], []),
  (2, .iconst 2, 1, 0, .int (2), [], []),
  (3, .istore_n 2, 1, 0, .int 0, [], []),
  (4, .iload_n 2, 1, 0, .int 0, [], []),
  (5, .iload_n 0, 1, 0, .int 0, [], []),
  (6, .if_icmp .gt 13, 3, 13, .int 0, [], []),
  (9, .iload_n 1, 1, 0, .int 0, [], []),
  (10, .iload_n 2, 1, 0, .int 0, [], []),
  (11, .imul, 1, 0, .int 0, [], []),
  (12, .istore_n 1, 1, 0, .int 0, [], []),
  (13, .iinc 2 1, 3, 0, .int (1), [], []),
  (16, .goto (-12), 3, 4, .int 0, [], []),
  (19, .iload_n 1, 1, 0, .int 0, [], []),
  (20, .ireturn, 1, 0, .int 0, [], [])]
def tX8_ways : pm_M := (({ cls := "AntLeaseModel", name := "ways", desc := "(I)I" } : Jvm.MethodName), prog_10_method_52_code, 3, (Option.some Jvm.ClassFile.FieldType.int), [], oX8_ways, [715, 518, 716])
def oX8_divisor : List pm_OP := [(0, .iload_n 0, 1, 0, .int 0, [], []),
  (1, .ifCond .ge 8, 3, 5, .int 0, [], []),
  (4, .iload_n 0, 1, 0, .int 0, [], []),
  (5, .ineg, 1, 0, .int 0, [], []),
  (6, .goto 4, 3, 6, .int 0, [], []),
  (9, .iload_n 0, 1, 0, .int 0, [], []),
  (10, .istore_n 2, 1, 0, .int 0, [], []),
  (11, .iload_n 1, 1, 0, .int 0, [], []),
  (12, .istore_n 3, 1, 0, .int 0, [], []),
  (13, .iload_n 3, 1, 0, .int 0, [], []),
  (14, .ifCond .eq 16, 3, 20, .int 0, [], []),
  (17, .iload_n 2, 1, 0, .int 0, [], []),
  (18, .iload_n 3, 1, 0, .int 0, [], []),
  (19, .irem, 1, 0, .int 0, [], []),
  (20, .istore 4, 2, 0, .int 0, [], []),
  (22, .iload_n 3, 1, 0, .int 0, [], []),
  (23, .istore_n 2, 1, 0, .int 0, [], []),
  (24, .iload 4, 2, 0, .int 0, [], []),
  (26, .istore_n 3, 1, 0, .int 0, [], []),
  (27, .goto (-14), 3, 9, .int 0, [], []),
  (30, .iload_n 2, 1, 0, .int 0, [], []),
  (31, .ireturn, 1, 0, .int 0, [], [])]
def tX8_divisor : pm_M := (({ cls := "AntLeaseModel", name := "divisor", desc := "(II)I" } : Jvm.MethodName), prog_10_method_53_code, 5, (Option.some Jvm.ClassFile.FieldType.int), [], oX8_divisor, [717, 518, 718])
def oX8_fraction : List pm_OP := [(0, .iload_n 0, 1, 0, .int 0, [], []),
  (1, .iload_n 1, 1, 0, .int 0, [], []),
  (2, .invokestatic 213, 3, 156, .int 0, [2, 719], []),
  (5, .istore_n 3, 1, 0, .int 0, [], []),
  (6, .iload_n 2, 1, 0, .int 0, [], []),
  (7, .ifCond .eq 9, 3, 10, .int 0, [], []),
  (10, .iload_n 0, 1, 0, .int 0, [], []),
  (11, .iload_n 3, 1, 0, .int 0, [], []),
  (12, .idiv, 1, 0, .int 0, [], []),
  (13, .goto 6, 3, 13, .int 0, [], []),
  (16, .iload_n 1, 1, 0, .int 0, [], []),
  (17, .iload_n 3, 1, 0, .int 0, [], []),
  (18, .idiv, 1, 0, .int 0, [], []),
  (19, .ireturn, 1, 0, .int 0, [], [])]
def tX8_fraction : pm_M := (({ cls := "AntLeaseModel", name := "fraction", desc := "(IIZ)I" } : Jvm.MethodName), prog_10_method_54_code, 4, (Option.some Jvm.ClassFile.FieldType.int), [], oX8_fraction, [720, 518, 721])
def oX8_share : List pm_OP := [(0, .aload_n 0, 1, 0, .int 0, [], []),
  (1, .iconst 0, 1, 0, .int (0), [], []),
  (2, .putfield 50, 3, 0, .int 0, [8, 540], []),
  (5, .aload_n 0, 1, 0, .int 0, [], []),
  (6, .iload_n 1, 1, 0, .int 0, [], []),
  (7, .invokevirtual 144, 3, 111, .int 0, [1, 8, 623], []),
  (10, .ifCond .eq 5, 3, 9, .int 0, [], []),
  (13, .iconst (-1), 1, 0, .int (-1), [], []),
  (14, .ireturn, 1, 0, .int 0, [], []),
  (15, .aload_n 0, 1, 0, .int 0, [], []),
  (16, .getfield 22, 3, 14, .int 0, [8, 581], []),
  (19, .invokestatic 118, 3, 125, .int 0, [1, 598], []),
  (22, .istore_n 3, 1, 0, .int 0, [], []),
  (23, .iconst 0, 1, 0, .int (0), [], []),
  (24, .istore 4, 2, 0, .int 0, [], []),
  (26, .iload 4, 2, 0, .int 0, [], []),
  (28, .iconst 1, 1, 0, .int (1), [], []),
  (29, .aload_n 0, 1, 0, .int 0, [], []),
  (30, .getfield 54, 3, 5, .int 0, [8, 528], []),
  (33, .ishl, 1, 0, .int 0, [], []),
  (34, .if_icmp .ge 40, 3, 39, .int 0, [], []),
  (37, .aload_n 0, 1, 0, .int 0, [], []),
  (38, .aload_n 0, 1, 0, .int 0, [], []),
  (39, .getfield 22, 3, 14, .int 0, [8, 581], []),
  (42, .iload 4, 2, 0, .int 0, [], []),
  (44, .invokevirtual 122, 3, 124, .int 0, [2, 8, 599], []),
  (47, .istore 5, 2, 0, .int 0, [], []),
  (49, .aload_n 0, 1, 0, .int 0, [], []),
  (50, .getfield 47, 3, 31, .int 0, [8, 722], []),
  (53, .iload 4, 2, 0, .int 0, [], []),
  (55, .iload 5, 2, 0, .int 0, [], []),
  (57, .iload_n 3, 1, 0, .int 0, [], []),
  (58, .if_icmp .ge 8, 3, 35, .int 0, [], []),
  (61, .iload 5, 2, 0, .int 0, [], []),
  (63, .goto 4, 3, 36, .int 0, [], []),
  (66, .iload_n 3, 1, 0, .int 0, [], []),
  (67, .iastore, 1, 0, .int 0, [], []),
  (68, .iinc 4 1, 3, 0, .int (1), [], []),
  (71, .goto (-45), 3, 15, .int 0, [], []),
  (74, .iconst 0, 1, 0, .int (0), [], []),
  (75, .istore 4, 2, 0, .int 0, [], []),
  (77, .iconst 0, 1, 0, .int (0), [], []),
  (78, .istore 5, 2, 0, .int 0, [], []),
  (80, .iload 5, 2, 0, .int 0, [], []),
  (82, .iconst 1, 1, 0, .int (1), [], []),
  (83, .aload_n 0, 1, 0, .int 0, [], []),
  (84, .getfield 54, 3, 5, .int 0, [8, 528], []),
  (87, .ishl, 1, 0, .int 0, [], []),
  (88, .if_icmp .ge 68, 3, 85, .int 0, [], []),
  (91, .iload 5, 2, 0, .int 0, [], []),
  (93, .iload_n 1, 1, 0, .int 0, [], []),
  (94, .invokestatic 110, 3, 107, .int 0, [2, 591], []),
  (97, .ifCond .ne 53, 3, 83, .int 0, [], []),
  (100, .iload 5, 2, 0, .int 0, [], []),
  (102, .invokestatic 135, 3, 108, .int 0, [1, 614], []),
  (105, .istore 6, 2, 0, .int 0, [], []),
  (107, .iload 4, 2, 0, .int 0, [], []),
  (109, .iload 6, 2, 0, .int 0, [], []),
  (111, .invokestatic 216, 3, 155, .int 0, [1, 723], []),
  (114, .aload_n 0, 1, 0, .int 0, [], []),
  (115, .getfield 54, 3, 5, .int 0, [8, 528], []),
  (118, .iconst 1, 1, 0, .int (1), [], []),
  (119, .isub, 1, 0, .int 0, [], []),
  (120, .iload 6, 2, 0, .int 0, [], []),
  (122, .isub, 1, 0, .int 0, [], []),
  (123, .invokestatic 216, 3, 155, .int 0, [1, 723], []),
  (126, .imul, 1, 0, .int 0, [], []),
  (127, .aload_n 0, 1, 0, .int 0, [], []),
  (128, .getfield 47, 3, 31, .int 0, [8, 722], []),
  (131, .iload 5, 2, 0, .int 0, [], []),
  (133, .iconst 1, 1, 0, .int (1), [], []),
  (134, .iload_n 1, 1, 0, .int 0, [], []),
  (135, .ishl, 1, 0, .int 0, [], []),
  (136, .ior, 1, 0, .int 0, [], []),
  (137, .iaload, 1, 0, .int 0, [], []),
  (138, .aload_n 0, 1, 0, .int 0, [], []),
  (139, .getfield 47, 3, 31, .int 0, [8, 722], []),
  (142, .iload 5, 2, 0, .int 0, [], []),
  (144, .iaload, 1, 0, .int 0, [], []),
  (145, .isub, 1, 0, .int 0, [], []),
  (146, .imul, 1, 0, .int 0, [], []),
  (147, .iadd, 1, 0, .int 0, [], []),
  (148, .istore 4, 2, 0, .int 0, [], []),
  (150, .iinc 5 1, 3, 0, .int (1), [], []),
  (153, .goto (-73), 3, 43, .int 0, [], []),
  (156, .iload 4, 2, 0, .int 0, [], []),
  (158, .aload_n 0, 1, 0, .int 0, [], []),
  (159, .getfield 54, 3, 5, .int 0, [8, 528], []),
  (162, .invokestatic 216, 3, 155, .int 0, [1, 723], []),
  (165, .iload_n 2, 1, 0, .int 0, [], []),
  (166, .invokestatic 219, 3, 157, .int 0, [3, 724], []),
  (169, .ireturn, 1, 0, .int 0, [], [])]
def tX8_share : pm_M := (({ cls := "AntLeaseModel", name := "share", desc := "(IZ)I" } : Jvm.MethodName), prog_10_method_55_code, 7, (Option.some Jvm.ClassFile.FieldType.int), [], oX8_share, [725, 518, 726, 727])
def oX8_say : List pm_OP := [(0, .aload_n 0, 1, 0, .int 0, [], []),
  (1, .iconst 0, 1, 0, .int (0), [], []),
  (2, .putfield 50, 3, 0, .int 0, [8, 540], []),
  (5, .iload_n 1, 1, 0, .int 0, [], []),
  (6, .invokestatic 174, 3, 113, .int 0, [1, 665], []),
  (9, .ifCond .eq 5, 3, 8, .int 0, [], []),
  (12, .iconst (-1), 1, 0, .int (-1), [], []),
  (13, .ireturn, 1, 0, .int 0, [], []),
  (14, .iload_n 2, 1, 0, .int 0, [], []),
  (15, .i2l, 1, 0, .int 0, [], []),
  (16, .lconst 0, 1, 0, .long (0), [], []),
  (17, .lconst 1, 1, 0, .long (1), [], []),
  (18, .invokestatic 57, 3, 106, .int 0, [3, 529], []),
  (21, .ifCond .ne 6, 3, 16, .int 0, [], []),
  (24, .bipush (-2), 2, 0, .int (-2), [], []),
  (26, .ireturn, 1, 0, .int 0, [], []),
  (27, .aload_n 0, 1, 0, .int 0, [], []),
  (28, .getfield 141, 3, 20, .int 0, [8, 619], []),
  (31, .bipush 6, 2, 0, .int (6), [], []),
  (33, .if_icmp .ne 6, 3, 22, .int 0, [], []),
  (36, .bipush (-4), 2, 0, .int (-4), [], []),
  (38, .ireturn, 1, 0, .int 0, [], []),
  (39, .aload_n 0, 1, 0, .int 0, [], []),
  (40, .getfield 38, 3, 21, .int 0, [8, 728], []),
  (43, .aload_n 0, 1, 0, .int 0, [], []),
  (44, .getfield 141, 3, 20, .int 0, [8, 619], []),
  (47, .iload_n 1, 1, 0, .int 0, [], []),
  (48, .iastore, 1, 0, .int 0, [], []),
  (49, .aload_n 0, 1, 0, .int 0, [], []),
  (50, .getfield 41, 3, 22, .int 0, [8, 729], []),
  (53, .aload_n 0, 1, 0, .int 0, [], []),
  (54, .getfield 141, 3, 20, .int 0, [8, 619], []),
  (57, .iload_n 2, 1, 0, .int 0, [], []),
  (58, .iastore, 1, 0, .int 0, [], []),
  (59, .aload_n 0, 1, 0, .int 0, [], []),
  (60, .dup, 1, 0, .int 0, [], []),
  (61, .getfield 141, 3, 20, .int 0, [8, 619], []),
  (64, .iconst 1, 1, 0, .int (1), [], []),
  (65, .iadd, 1, 0, .int 0, [], []),
  (66, .putfield 141, 3, 20, .int 0, [8, 619], []),
  (69, .aload_n 0, 1, 0, .int 0, [], []),
  (70, .getfield 141, 3, 20, .int 0, [8, 619], []),
  (73, .ireturn, 1, 0, .int 0, [], [])]
def tX8_say : pm_M := (({ cls := "AntLeaseModel", name := "say", desc := "(II)I" } : Jvm.MethodName), prog_10_method_56_code, 3, (Option.some Jvm.ClassFile.FieldType.int), [], oX8_say, [730, 518, 731, 732])
def oX8_unsay : List pm_OP := [(0, .aload_n 0, 1, 0, .int 0, [], []),
  (1, .iconst 0, 1, 0, .int (0), [], []),
  (2, .putfield 50, 3, 0, .int 0, [8, 540], []),
  (5, .aload_n 0, 1, 0, .int 0, [], []),
  (6, .getfield 141, 3, 20, .int 0, [8, 619], []),
  (9, .istore_n 1, 1, 0, .int 0, [], []),
  (10, .aload_n 0, 1, 0, .int 0, [], []),
  (11, .iconst 0, 1, 0, .int (0), [], []),
  (12, .putfield 141, 3, 20, .int 0, [8, 619], []),
  (15, .iload_n 1, 1, 0, .int 0, [], []),
  (16, .ireturn, 1, 0, .int 0, [], [])]
def tX8_unsay : pm_M := (({ cls := "AntLeaseModel", name := "unsay", desc := "()I" } : Jvm.MethodName), prog_10_method_57_code, 2, (Option.some Jvm.ClassFile.FieldType.int), [], oX8_unsay, [733, 518, 734, 735])
def oX8_lines : List pm_OP := [(0, .aload_n 0, 1, 0, .int 0, [], []),
  (1, .iconst 0, 1, 0, .int (0), [], []),
  (2, .putfield 50, 3, 0, .int 0, [8, 540], []),
  (5, .iload_n 1, 1, 0, .int 0, [], []),
  (6, .i2l, 1, 0, .int 0, [], []),
  (7, .lconst 0, 1, 0, .long (0), [], []),
  (8, .lconst 1, 1, 0, .long (1), [], []),
  (9, .invokestatic 57, 3, 106, .int 0, [3, 529], []),
  (12, .ifCond .ne 6, 3, 11, .int 0, [], []),
  (15, .bipush (-2), 2, 0, .int (-2), [], []),
  (17, .ireturn, 1, 0, .int 0, [], []),
  (18, .aload_n 0, 1, 0, .int 0, [], []),
  (19, .iconst 0, 1, 0, .int (0), [], []),
  (20, .putfield 223, 3, 26, .int 0, [8, 736], []),
  (23, .aload_n 0, 1, 0, .int 0, [], []),
  (24, .bipush (-9), 2, 0, .int (-9), [], []),
  (26, .putfield 226, 3, 27, .int 0, [8, 737], []),
  (29, .iconst 0, 1, 0, .int (0), [], []),
  (30, .istore_n 2, 1, 0, .int 0, [], []),
  (31, .iload_n 2, 1, 0, .int 0, [], []),
  (32, .bipush 100, 2, 0, .int (100), [], []),
  (34, .if_icmp .ge 134, 3, 89, .int 0, [], []),
  (37, .iload_n 2, 1, 0, .int 0, [], []),
  (38, .bipush 10, 2, 0, .int (10), [], []),
  (40, .idiv, 1, 0, .int 0, [], []),
  (41, .iload_n 2, 1, 0, .int 0, [], []),
  (42, .bipush 10, 2, 0, .int (10), [], []),
  (44, .irem, 1, 0, .int 0, [], []),
  (45, .aload_n 0, 1, 0, .int 0, [], []),
  (46, .getfield 22, 3, 14, .int 0, [8, 581], []),
  (49, .bipush 17, 2, 0, .int (17), [], []),
  (51, .iaload, 1, 0, .int 0, [], []),
  (52, .invokestatic 125, 3, 127, .int 0, [3, 605], []),
  (55, .istore_n 3, 1, 0, .int 0, [], []),
  (56, .iconst 1, 1, 0, .int (1), [], []),
  (57, .istore 4, 2, 0, .int 0, [], []),
  (59, .iconst 0, 1, 0, .int (0), [], []),
  (60, .istore 5, 2, 0, .int 0, [], []),
  (62, .iload 5, 2, 0, .int 0, [], []),
  (64, .aload_n 0, 1, 0, .int 0, [], []),
  (65, .getfield 141, 3, 20, .int 0, [8, 619], []),
  (68, .if_icmp .ge 51, 3, 66, .int 0, [], []),
  (71, .iload 4, 2, 0, .int 0, [], []),
  (73, .ifCond .eq 37, 3, 62, .int 0, [], []),
  (76, .iload_n 3, 1, 0, .int 0, [], []),
  (77, .aload_n 0, 1, 0, .int 0, [], []),
  (78, .getfield 38, 3, 21, .int 0, [8, 728], []),
  (81, .iload 5, 2, 0, .int 0, [], []),
  (83, .iaload, 1, 0, .int 0, [], []),
  (84, .invokestatic 110, 3, 107, .int 0, [2, 591], []),
  (87, .aload_n 0, 1, 0, .int 0, [], []),
  (88, .getfield 41, 3, 22, .int 0, [8, 729], []),
  (91, .iload 5, 2, 0, .int 0, [], []),
  (93, .iaload, 1, 0, .int 0, [], []),
  (94, .iconst 1, 1, 0, .int (1), [], []),
  (95, .if_icmp .ne 7, 3, 58, .int 0, [], []),
  (98, .iconst 1, 1, 0, .int (1), [], []),
  (99, .goto 4, 3, 59, .int 0, [], []),
  (102, .iconst 0, 1, 0, .int (0), [], []),
  (103, .if_icmp .ne 7, 3, 62, .int 0, [], []),
  (106, .iconst 1, 1, 0, .int (1), [], []),
  (107, .goto 4, 3, 63, .int 0, [], []),
  (110, .iconst 0, 1, 0, .int (0), [], []),
  (111, .istore 4, 2, 0, .int 0, [], []),
  (113, .iinc 5 1, 3, 0, .int (1), [], []),
  (116, .goto (-54), 3, 38, .int 0, [], []),
  (119, .aload_n 0, 1, 0, .int 0, [], []),
  (120, .iload 4, 2, 0, .int 0, [], []),
  (122, .ifCond .eq 14, 3, 74, .int 0, [], []),
  (125, .aload_n 0, 1, 0, .int 0, [], []),
  (126, .getfield 223, 3, 26, .int 0, [8, 736], []),
  (129, .ifCond .ne 7, 3, 74, .int 0, [], []),
  (132, .iload_n 2, 1, 0, .int 0, [], []),
  (133, .goto 7, 3, 76, .int 0, [], []),
  (136, .aload_n 0, 1, 0, .int 0, [], []),
  (137, .getfield 226, 3, 27, .int 0, [8, 737], []),
  (140, .putfield 226, 3, 27, .int 0, [8, 737], []),
  (143, .aload_n 0, 1, 0, .int 0, [], []),
  (144, .dup, 1, 0, .int 0, [], []),
  (145, .getfield 223, 3, 26, .int 0, [8, 736], []),
  (148, .iload 4, 2, 0, .int 0, [], []),
  (150, .ifCond .eq 7, 3, 84, .int 0, [], []),
  (153, .iconst 1, 1, 0, .int (1), [], []),
  (154, .goto 4, 3, 85, .int 0, [], []),
  (157, .iconst 0, 1, 0, .int (0), [], []),
  (158, .iadd, 1, 0, .int 0, [], []),
  (159, .putfield 223, 3, 26, .int 0, [8, 736], []),
  (162, .iinc 2 1, 3, 0, .int (1), [], []),
  (165, .goto (-134), 3, 19, .int 0, [], []),
  (168, .iload_n 1, 1, 0, .int 0, [], []),
  (169, .ifCond .ne 10, 3, 94, .int 0, [], []),
  (172, .aload_n 0, 1, 0, .int 0, [], []),
  (173, .getfield 223, 3, 26, .int 0, [8, 736], []),
  (176, .goto 7, 3, 96, .int 0, [], []),
  (179, .aload_n 0, 1, 0, .int 0, [], []),
  (180, .getfield 226, 3, 27, .int 0, [8, 737], []),
  (183, .ireturn, 1, 0, .int 0, [], [])]
def tX8_lines : pm_M := (({ cls := "AntLeaseModel", name := "lines", desc := "(I)I" } : Jvm.MethodName), prog_10_method_58_code, 6, (Option.some Jvm.ClassFile.FieldType.int), [], oX8_lines, [738, 518, 739, 740])
def oX8_rests : List pm_OP := [(0, .aload_n 0, 1, 0, .int 0, [], []),
  (1, .iconst 0, 1, 0, .int (0), [], []),
  (2, .putfield 50, 3, 0, .int 0, [8, 540], []),
  (5, .aload_n 0, 1, 0, .int 0, [], []),
  (6, .iload_n 1, 1, 0, .int 0, [], []),
  (7, .invokevirtual 144, 3, 111, .int 0, [1, 8, 623], []),
  (10, .ifCond .ne 11, 3, 11, .int 0, [], []),
  (13, .aload_n 0, 1, 0, .int 0, [], []),
  (14, .iload_n 2, 1, 0, .int 0, [], []),
  (15, .invokevirtual 144, 3, 111, .int 0, [1, 8, 623], []),
  (18, .ifCond .eq 5, 3, 13, .int 0, [], []),
  (21, .iconst (-1), 1, 0, .int (-1), [], []),
  (22, .ireturn, 1, 0, .int 0, [], []),
  (23, .iload_n 1, 1, 0, .int 0, [], []),
  (24, .iload_n 2, 1, 0, .int 0, [], []),
  (25, .if_icmp .eq 13, 3, 22, .int 0, [], []),
  (28, .iload_n 3, 1, 0, .int 0, [], []),
  (29, .i2l, 1, 0, .int 0, [], []),
  (30, .lconst 0, 1, 0, .long (0), [], []),
  (31, .lconst 1, 1, 0, .long (1), [], []),
  (32, .invokestatic 57, 3, 106, .int 0, [3, 529], []),
  (35, .ifCond .ne 6, 3, 24, .int 0, [], []),
  (38, .bipush (-2), 2, 0, .int (-2), [], []),
  (40, .ireturn, 1, 0, .int 0, [], []),
  (41, .iconst 0, 1, 0, .int (0), [], []),
  (42, .istore 4, 2, 0, .int 0, [], []),
  (44, .iload 4, 2, 0, .int 0, [], []),
  (46, .bipush 9, 2, 0, .int (9), [], []),
  (48, .if_icmp .ge 93, 3, 84, .int 0, [], []),
  (51, .aload_n 0, 1, 0, .int 0, [], []),
  (52, .invokevirtual 181, 3, 146, .int 0, [0, 8, 681], []),
  (55, .aload_n 0, 1, 0, .int 0, [], []),
  (56, .aload_n 0, 1, 0, .int 0, [], []),
  (57, .getfield 25, 3, 15, .int 0, [8, 675], []),
  (60, .iload_n 1, 1, 0, .int 0, [], []),
  (61, .iload 4, 2, 0, .int 0, [], []),
  (63, .iconst 3, 1, 0, .int (3), [], []),
  (64, .idiv, 1, 0, .int 0, [], []),
  (65, .invokevirtual 171, 3, 139, .int 0, [3, 8, 661], []),
  (68, .pop, 1, 0, .int 0, [], []),
  (69, .aload_n 0, 1, 0, .int 0, [], []),
  (70, .aload_n 0, 1, 0, .int 0, [], []),
  (71, .getfield 25, 3, 15, .int 0, [8, 675], []),
  (74, .iload_n 2, 1, 0, .int 0, [], []),
  (75, .iload 4, 2, 0, .int 0, [], []),
  (77, .iconst 3, 1, 0, .int (3), [], []),
  (78, .irem, 1, 0, .int 0, [], []),
  (79, .invokevirtual 171, 3, 139, .int 0, [3, 8, 661], []),
  (82, .pop, 1, 0, .int 0, [], []),
  (83, .aload_n 0, 1, 0, .int 0, [], []),
  (84, .aload_n 0, 1, 0, .int 0, [], []),
  (85, .getfield 25, 3, 15, .int 0, [8, 675], []),
  (88, .invokevirtual 132, 3, 126, .int 0, [1, 8, 613], []),
  (91, .ifCond .ne 7, 3, 56, .int 0, [], []),
  (94, .iconst 5, 1, 0, .int (5), [], []),
  (95, .goto 4, 3, 57, .int 0, [], []),
  (98, .iconst 0, 1, 0, .int (0), [], []),
  (99, .istore 5, 2, 0, .int 0, [], []),
  (101, .aload_n 0, 1, 0, .int 0, [], []),
  (102, .getfield 44, 3, 30, .int 0, [8, 741], []),
  (105, .iconst 2, 1, 0, .int (2), [], []),
  (106, .iload 4, 2, 0, .int 0, [], []),
  (108, .imul, 1, 0, .int 0, [], []),
  (109, .iload 5, 2, 0, .int 0, [], []),
  (111, .iload 4, 2, 0, .int 0, [], []),
  (113, .iconst 3, 1, 0, .int (3), [], []),
  (114, .idiv, 1, 0, .int 0, [], []),
  (115, .isub, 1, 0, .int 0, [], []),
  (116, .iastore, 1, 0, .int 0, [], []),
  (117, .aload_n 0, 1, 0, .int 0, [], []),
  (118, .getfield 44, 3, 30, .int 0, [8, 741], []),
  (121, .iconst 2, 1, 0, .int (2), [], []),
  (122, .iload 4, 2, 0, .int 0, [], []),
  (124, .imul, 1, 0, .int 0, [], []),
  (125, .iconst 1, 1, 0, .int (1), [], []),
  (126, .iadd, 1, 0, .int 0, [], []),
  (127, .iload 5, 2, 0, .int 0, [], []),
  (129, .iload 4, 2, 0, .int 0, [], []),
  (131, .iconst 3, 1, 0, .int (3), [], []),
  (132, .irem, 1, 0, .int 0, [], []),
  (133, .isub, 1, 0, .int 0, [], []),
  (134, .iastore, 1, 0, .int 0, [], []),
  (135, .iinc 4 1, 3, 0, .int (1), [], []),
  (138, .goto (-94), 3, 26, .int 0, [], []),
  (141, .aload_n 0, 1, 0, .int 0, [], []),
  (142, .iconst 0, 1, 0, .int (0), [], []),
  (143, .putfield 229, 3, 28, .int 0, [8, 742], []),
  (146, .aload_n 0, 1, 0, .int 0, [], []),
  (147, .bipush (-9), 2, 0, .int (-9), [], []),
  (149, .putfield 232, 3, 29, .int 0, [8, 743], []),
  (152, .iconst 0, 1, 0, .int (0), [], []),
  (153, .istore 4, 2, 0, .int 0, [], []),
  (155, .iload 4, 2, 0, .int 0, [], []),
  (157, .bipush 9, 2, 0, .int (9), [], []),
  (159, .if_icmp .ge 154, 3, 183, .int 0, [], []),
  (162, .iconst 1, 1, 0, .int (1), [], []),
  (163, .istore 5, 2, 0, .int 0, [], []),
  (165, .iconst 0, 1, 0, .int (0), [], []),
  (166, .istore 6, 2, 0, .int 0, [], []),
  (168, .iload 6, 2, 0, .int 0, [], []),
  (170, .iconst 3, 1, 0, .int (3), [], []),
  (171, .if_icmp .ge 82, 3, 152, .int 0, [], []),
  (174, .iload 5, 2, 0, .int 0, [], []),
  (176, .ifCond .eq 68, 3, 148, .int 0, [], []),
  (179, .aload_n 0, 1, 0, .int 0, [], []),
  (180, .getfield 44, 3, 30, .int 0, [8, 741], []),
  (183, .iconst 2, 1, 0, .int (2), [], []),
  (184, .iconst 3, 1, 0, .int (3), [], []),
  (185, .iload 6, 2, 0, .int 0, [], []),
  (187, .imul, 1, 0, .int 0, [], []),
  (188, .iload 4, 2, 0, .int 0, [], []),
  (190, .iconst 3, 1, 0, .int (3), [], []),
  (191, .irem, 1, 0, .int 0, [], []),
  (192, .iadd, 1, 0, .int 0, [], []),
  (193, .imul, 1, 0, .int 0, [], []),
  (194, .iaload, 1, 0, .int 0, [], []),
  (195, .aload_n 0, 1, 0, .int 0, [], []),
  (196, .getfield 44, 3, 30, .int 0, [8, 741], []),
  (199, .iconst 2, 1, 0, .int (2), [], []),
  (200, .iload 4, 2, 0, .int 0, [], []),
  (202, .imul, 1, 0, .int 0, [], []),
  (203, .iaload, 1, 0, .int 0, [], []),
  (204, .if_icmp .gt 40, 3, 148, .int 0, [], []),
  (207, .aload_n 0, 1, 0, .int 0, [], []),
  (208, .getfield 44, 3, 30, .int 0, [8, 741], []),
  (211, .iconst 2, 1, 0, .int (2), [], []),
  (212, .iload 4, 2, 0, .int 0, [], []),
  (214, .iload 4, 2, 0, .int 0, [], []),
  (216, .iconst 3, 1, 0, .int (3), [], []),
  (217, .irem, 1, 0, .int 0, [], []),
  (218, .isub, 1, 0, .int 0, [], []),
  (219, .iload 6, 2, 0, .int 0, [], []),
  (221, .iadd, 1, 0, .int 0, [], []),
  (222, .imul, 1, 0, .int 0, [], []),
  (223, .iconst 1, 1, 0, .int (1), [], []),
  (224, .iadd, 1, 0, .int 0, [], []),
  (225, .iaload, 1, 0, .int 0, [], []),
  (226, .aload_n 0, 1, 0, .int 0, [], []),
  (227, .getfield 44, 3, 30, .int 0, [8, 741], []),
  (230, .iconst 2, 1, 0, .int (2), [], []),
  (231, .iload 4, 2, 0, .int 0, [], []),
  (233, .imul, 1, 0, .int 0, [], []),
  (234, .iconst 1, 1, 0, .int (1), [], []),
  (235, .iadd, 1, 0, .int 0, [], []),
  (236, .iaload, 1, 0, .int 0, [], []),
  (237, .if_icmp .gt 7, 3, 148, .int 0, [], []),
  (240, .iconst 1, 1, 0, .int (1), [], []),
  (241, .goto 4, 3, 149, .int 0, [], []),
  (244, .iconst 0, 1, 0, .int (0), [], []),
  (245, .istore 5, 2, 0, .int 0, [], []),
  (247, .iinc 6 1, 3, 0, .int (1), [], []),
  (250, .goto (-82), 3, 99, .int 0, [], []),
  (253, .aload_n 0, 1, 0, .int 0, [], []),
  (254, .iload 5, 2, 0, .int 0, [], []),
  (256, .ifCond .eq 25, 3, 168, .int 0, [], []),
  (259, .aload_n 0, 1, 0, .int 0, [], []),
  (260, .getfield 229, 3, 28, .int 0, [8, 742], []),
  (263, .ifCond .ne 18, 3, 168, .int 0, [], []),
  (266, .bipush 10, 2, 0, .int (10), [], []),
  (268, .iload 4, 2, 0, .int 0, [], []),
  (270, .iconst 3, 1, 0, .int (3), [], []),
  (271, .idiv, 1, 0, .int 0, [], []),
  (272, .imul, 1, 0, .int 0, [], []),
  (273, .iload 4, 2, 0, .int 0, [], []),
  (275, .iconst 3, 1, 0, .int (3), [], []),
  (276, .irem, 1, 0, .int 0, [], []),
  (277, .iadd, 1, 0, .int 0, [], []),
  (278, .goto 7, 3, 170, .int 0, [], []),
  (281, .aload_n 0, 1, 0, .int 0, [], []),
  (282, .getfield 232, 3, 29, .int 0, [8, 743], []),
  (285, .putfield 232, 3, 29, .int 0, [8, 743], []),
  (288, .aload_n 0, 1, 0, .int 0, [], []),
  (289, .dup, 1, 0, .int 0, [], []),
  (290, .getfield 229, 3, 28, .int 0, [8, 742], []),
  (293, .iload 5, 2, 0, .int 0, [], []),
  (295, .ifCond .eq 7, 3, 178, .int 0, [], []),
  (298, .iconst 1, 1, 0, .int (1), [], []),
  (299, .goto 4, 3, 179, .int 0, [], []),
  (302, .iconst 0, 1, 0, .int (0), [], []),
  (303, .iadd, 1, 0, .int 0, [], []),
  (304, .putfield 229, 3, 28, .int 0, [8, 742], []),
  (307, .iinc 4 1, 3, 0, .int (1), [], []),
  (310, .goto (-155), 3, 92, .int 0, [], []),
  (313, .iload_n 3, 1, 0, .int 0, [], []),
  (314, .ifCond .ne 10, 3, 188, .int 0, [], []),
  (317, .aload_n 0, 1, 0, .int 0, [], []),
  (318, .getfield 229, 3, 28, .int 0, [8, 742], []),
  (321, .goto 7, 3, 190, .int 0, [], []),
  (324, .aload_n 0, 1, 0, .int 0, [], []),
  (325, .getfield 232, 3, 29, .int 0, [8, 743], []),
  (328, .ireturn, 1, 0, .int 0, [], [])]
def tX8_rests : pm_M := (({ cls := "AntLeaseModel", name := "rests", desc := "(III)I" } : Jvm.MethodName), prog_10_method_59_code, 7, (Option.some Jvm.ClassFile.FieldType.int), [], oX8_rests, [744, 518, 745, 746])
def oX8_stray : List pm_OP := [(0, .aload_n 0, 1, 0, .int 0, [], []),
  (1, .iconst 0, 1, 0, .int (0), [], []),
  (2, .putfield 50, 3, 0, .int 0, [8, 540], []),
  (5, .iload_n 1, 1, 0, .int 0, [], []),
  (6, .i2l, 1, 0, .int 0, [], []),
  (7, .lconst 0, 1, 0, .long (0), [], []),
  (8, .ldc2_w 235, 3, 0, .long (5), [747], []),
  (11, .invokestatic 57, 3, 106, .int 0, [3, 529], []),
  (14, .ifCond .eq 15, 3, 15, .int 0, [], []),
  (17, .iload_n 2, 1, 0, .int 0, [], []),
  (18, .i2l, 1, 0, .int 0, [], []),
  (19, .lconst 0, 1, 0, .long (0), [], []),
  (20, .ldc2_w 237, 3, 0, .long (10), [748], []),
  (23, .invokestatic 57, 3, 106, .int 0, [3, 529], []),
  (26, .ifCond .ne 6, 3, 17, .int 0, [], []),
  (29, .bipush (-2), 2, 0, .int (-2), [], []),
  (31, .ireturn, 1, 0, .int 0, [], []),
  (32, .iconst 0, 1, 0, .int (0), [], []),
  (33, .istore 4, 2, 0, .int 0, [], []),
  (35, .iconst 0, 1, 0, .int (0), [], []),
  (36, .istore 5, 2, 0, .int 0, [], []),
  (38, .iload 5, 2, 0, .int 0, [], []),
  (40, .iconst 1, 1, 0, .int (1), [], []),
  (41, .aload_n 0, 1, 0, .int 0, [], []),
  (42, .getfield 61, 3, 7, .int 0, [8, 533], []),
  (45, .ishl, 1, 0, .int 0, [], []),
  (46, .if_icmp .ge 126, 3, 90, .int 0, [], []),
  (49, .aload_n 0, 1, 0, .int 0, [], []),
  (50, .invokevirtual 181, 3, 146, .int 0, [0, 8, 681], []),
  (53, .iconst 0, 1, 0, .int (0), [], []),
  (54, .istore 6, 2, 0, .int 0, [], []),
  (56, .iload 6, 2, 0, .int 0, [], []),
  (58, .aload_n 0, 1, 0, .int 0, [], []),
  (59, .getfield 61, 3, 7, .int 0, [8, 533], []),
  (62, .if_icmp .ge 52, 3, 61, .int 0, [], []),
  (65, .aload_n 0, 1, 0, .int 0, [], []),
  (66, .getfield 25, 3, 15, .int 0, [8, 675], []),
  (69, .bipush 12, 2, 0, .int (12), [], []),
  (71, .iload 6, 2, 0, .int 0, [], []),
  (73, .iadd, 1, 0, .int 0, [], []),
  (74, .dup2, 1, 0, .int 0, [], []),
  (75, .iaload, 1, 0, .int 0, [], []),
  (76, .iload 5, 2, 0, .int 0, [], []),
  (78, .iload 6, 2, 0, .int 0, [], []),
  (80, .invokestatic 110, 3, 107, .int 0, [2, 591], []),
  (83, .ifCond .eq 22, 3, 56, .int 0, [], []),
  (86, .aload_n 0, 1, 0, .int 0, [], []),
  (87, .getfield 25, 3, 15, .int 0, [8, 675], []),
  (90, .bipush 12, 2, 0, .int (12), [], []),
  (92, .iload 6, 2, 0, .int 0, [], []),
  (94, .iadd, 1, 0, .int 0, [], []),
  (95, .iaload, 1, 0, .int 0, [], []),
  (96, .bipush 9, 2, 0, .int (9), [], []),
  (98, .if_icmp .ge 7, 3, 56, .int 0, [], []),
  (101, .iconst 1, 1, 0, .int (1), [], []),
  (102, .goto 4, 3, 57, .int 0, [], []),
  (105, .iconst 0, 1, 0, .int (0), [], []),
  (106, .iadd, 1, 0, .int 0, [], []),
  (107, .iastore, 1, 0, .int 0, [], []),
  (108, .iinc 6 1, 3, 0, .int (1), [], []),
  (111, .goto (-55), 3, 31, .int 0, [], []),
  (114, .iload 5, 2, 0, .int 0, [], []),
  (116, .invokestatic 135, 3, 108, .int 0, [1, 614], []),
  (119, .istore 6, 2, 0, .int 0, [], []),
  (121, .iload 4, 2, 0, .int 0, [], []),
  (123, .aload_n 0, 1, 0, .int 0, [], []),
  (124, .aload_n 0, 1, 0, .int 0, [], []),
  (125, .getfield 25, 3, 15, .int 0, [8, 675], []),
  (128, .invokevirtual 138, 3, 129, .int 0, [1, 8, 618], []),
  (131, .invokestatic 135, 3, 108, .int 0, [1, 614], []),
  (134, .iload_n 1, 1, 0, .int 0, [], []),
  (135, .if_icmp .lt 27, 3, 85, .int 0, [], []),
  (138, .iload_n 2, 1, 0, .int 0, [], []),
  (139, .iload 6, 2, 0, .int 0, [], []),
  (141, .invokestatic 184, 3, 109, .int 0, [2, 685], []),
  (144, .bipush 10, 2, 0, .int (10), [], []),
  (146, .iload_n 2, 1, 0, .int 0, [], []),
  (147, .isub, 1, 0, .int 0, [], []),
  (148, .aload_n 0, 1, 0, .int 0, [], []),
  (149, .getfield 61, 3, 7, .int 0, [8, 533], []),
  (152, .iload 6, 2, 0, .int 0, [], []),
  (154, .isub, 1, 0, .int 0, [], []),
  (155, .invokestatic 184, 3, 109, .int 0, [2, 685], []),
  (158, .imul, 1, 0, .int 0, [], []),
  (159, .goto 4, 3, 86, .int 0, [], []),
  (162, .iconst 0, 1, 0, .int (0), [], []),
  (163, .iadd, 1, 0, .int 0, [], []),
  (164, .istore 4, 2, 0, .int 0, [], []),
  (166, .iinc 5 1, 3, 0, .int (1), [], []),
  (169, .goto (-131), 3, 21, .int 0, [], []),
  (172, .iload 4, 2, 0, .int 0, [], []),
  (174, .bipush 10, 2, 0, .int (10), [], []),
  (176, .aload_n 0, 1, 0, .int 0, [], []),
  (177, .getfield 61, 3, 7, .int 0, [8, 533], []),
  (180, .invokestatic 184, 3, 109, .int 0, [2, 685], []),
  (183, .iload_n 3, 1, 0, .int 0, [], []),
  (184, .invokestatic 219, 3, 157, .int 0, [3, 724], []),
  (187, .ireturn, 1, 0, .int 0, [], [])]
def tX8_stray : pm_M := (({ cls := "AntLeaseModel", name := "stray", desc := "(IIZ)I" } : Jvm.MethodName), prog_10_method_60_code, 7, (Option.some Jvm.ClassFile.FieldType.int), [], oX8_stray, [749, 518, 750, 751])
def oX8_seed : List pm_OP := [(0, .aload_n 0, 1, 0, .int 0, [], []),
  (1, .iconst 0, 1, 0, .int (0), [], []),
  (2, .putfield 50, 3, 0, .int 0, [8, 540], []),
  (5, .aload_n 0, 1, 0, .int 0, [], []),
  (6, .getfield 239, 3, 23, .int 0, [8, 752], []),
  (9, .lstore_n 3, 1, 0, .int 0, [], []),
  (10, .aload_n 0, 1, 0, .int 0, [], []),
  (11, .lload_n 1, 1, 0, .int 0, [], []),
  (12, .putfield 239, 3, 23, .long 0, [8, 752], []),
  (15, .lload_n 3, 1, 0, .int 0, [], []),
  (16, .lreturn, 1, 0, .int 0, [], [])]
def tX8_seed : pm_M := (({ cls := "AntLeaseModel", name := "seed", desc := "(J)J" } : Jvm.MethodName), prog_10_method_61_code, 5, (Option.some Jvm.ClassFile.FieldType.long), [1, 3], oX8_seed, [753, 518, 754, 755])
def oX8_years : List pm_OP := [(0, .aload_n 0, 1, 0, .int 0, [], []),
  (1, .iconst 0, 1, 0, .int (0), [], []),
  (2, .putfield 50, 3, 0, .int 0, [8, 540], []),
  (5, .iload_n 1, 1, 0, .int 0, [], []),
  (6, .i2l, 1, 0, .int 0, [], []),
  (7, .lconst 1, 1, 0, .long (1), [], []),
  (8, .ldc2_w 243, 3, 0, .long (30), [756], []),
  (11, .invokestatic 57, 3, 106, .int 0, [3, 529], []),
  (14, .ifCond .ne 6, 3, 11, .int 0, [], []),
  (17, .bipush (-2), 2, 0, .int (-2), [], []),
  (19, .ireturn, 1, 0, .int 0, [], []),
  (20, .aload_n 0, 1, 0, .int 0, [], []),
  (21, .invokevirtual 181, 3, 146, .int 0, [0, 8, 681], []),
  (24, .iconst 0, 1, 0, .int (0), [], []),
  (25, .istore_n 2, 1, 0, .int 0, [], []),
  (26, .iconst 0, 1, 0, .int (0), [], []),
  (27, .istore_n 3, 1, 0, .int 0, [], []),
  (28, .iload_n 3, 1, 0, .int 0, [], []),
  (29, .iload_n 1, 1, 0, .int 0, [], []),
  (30, .if_icmp .ge 115, 3, 80, .int 0, [], []),
  (33, .aload_n 0, 1, 0, .int 0, [], []),
  (34, .aload_n 0, 1, 0, .int 0, [], []),
  (35, .getfield 239, 3, 23, .int 0, [8, 752], []),
  (38, .ldc2_w 245, 3, 0, .long (6364136223846793005), [757], []),
  (41, .lmul, 1, 0, .int 0, [], []),
  (42, .ldc2_w 247, 3, 0, .long (1442695040888963407), [758], []),
  (45, .ladd, 1, 0, .int 0, [], []),
  (46, .putfield 239, 3, 23, .long 0, [8, 752], []),
  (49, .aload_n 0, 1, 0, .int 0, [], []),
  (50, .getfield 239, 3, 23, .int 0, [8, 752], []),
  (53, .bipush 33, 2, 0, .int (33), [], []),
  (55, .lushr, 1, 0, .int 0, [], []),
  (56, .ldc2_w 249, 3, 0, .long (32), [759], []),
  (59, .lrem, 1, 0, .int 0, [], []),
  (60, .l2i, 1, 0, .int 0, [], []),
  (61, .istore 4, 2, 0, .int 0, [], []),
  (63, .aload_n 0, 1, 0, .int 0, [], []),
  (64, .iload 4, 2, 0, .int 0, [], []),
  (66, .bipush 8, 2, 0, .int (8), [], []),
  (68, .if_icmp .ge 16, 3, 48, .int 0, [], []),
  (71, .bipush 109, 2, 0, .int (109), [], []),
  (73, .bipush 10, 2, 0, .int (10), [], []),
  (75, .iload 4, 2, 0, .int 0, [], []),
  (77, .iconst 2, 1, 0, .int (2), [], []),
  (78, .idiv, 1, 0, .int 0, [], []),
  (79, .imul, 1, 0, .int 0, [], []),
  (80, .iadd, 1, 0, .int 0, [], []),
  (81, .goto 44, 3, 69, .int 0, [], []),
  (84, .iload 4, 2, 0, .int 0, [], []),
  (86, .bipush 16, 2, 0, .int (16), [], []),
  (88, .if_icmp .ge 20, 3, 61, .int 0, [], []),
  (91, .sipush 201, 3, 0, .int (201), [], []),
  (94, .bipush 10, 2, 0, .int (10), [], []),
  (96, .iload 4, 2, 0, .int 0, [], []),
  (98, .bipush 8, 2, 0, .int (8), [], []),
  (100, .isub, 1, 0, .int 0, [], []),
  (101, .iconst 2, 1, 0, .int (2), [], []),
  (102, .idiv, 1, 0, .int 0, [], []),
  (103, .imul, 1, 0, .int 0, [], []),
  (104, .iadd, 1, 0, .int 0, [], []),
  (105, .goto 20, 3, 69, .int 0, [], []),
  (108, .iload 4, 2, 0, .int 0, [], []),
  (110, .bipush 26, 2, 0, .int (26), [], []),
  (112, .if_icmp .ge 12, 3, 68, .int 0, [], []),
  (115, .sipush 384, 3, 0, .int (384), [], []),
  (118, .iload 4, 2, 0, .int 0, [], []),
  (120, .iadd, 1, 0, .int 0, [], []),
  (121, .goto 4, 3, 69, .int 0, [], []),
  (124, .iconst 0, 1, 0, .int (0), [], []),
  (125, .invokevirtual 210, 3, 153, .int 0, [1, 8, 711], []),
  (128, .pop, 1, 0, .int 0, [], []),
  (129, .iload_n 2, 1, 0, .int 0, [], []),
  (130, .aload_n 0, 1, 0, .int 0, [], []),
  (131, .getfield 25, 3, 15, .int 0, [8, 675], []),
  (134, .bipush 19, 2, 0, .int (19), [], []),
  (136, .iaload, 1, 0, .int 0, [], []),
  (137, .iadd, 1, 0, .int 0, [], []),
  (138, .istore_n 2, 1, 0, .int 0, [], []),
  (139, .iinc 3 1, 3, 0, .int (1), [], []),
  (142, .goto (-114), 3, 17, .int 0, [], []),
  (145, .iload_n 2, 1, 0, .int 0, [], []),
  (146, .ireturn, 1, 0, .int 0, [], [])]
def tX8_years : pm_M := (({ cls := "AntLeaseModel", name := "years", desc := "(I)I" } : Jvm.MethodName), prog_10_method_62_code, 5, (Option.some Jvm.ClassFile.FieldType.int), [], oX8_years, [760, 518, 761, 762])
def oX8_keep : List pm_OP := [(0, .aload_n 0, 1, 0, .int 0, [], []),
  (1, .iconst 0, 1, 0, .int (0), [], []),
  (2, .putfield 50, 3, 0, .int 0, [8, 540], []),
  (5, .iload_n 1, 1, 0, .int 0, [], []),
  (6, .i2l, 1, 0, .int 0, [], []),
  (7, .lconst 0, 1, 0, .long (0), [], []),
  (8, .lconst 1, 1, 0, .long (1), [], []),
  (9, .invokestatic 57, 3, 106, .int 0, [3, 529], []),
  (12, .ifCond .ne 5, 3, 11, .int 0, [], []),
  (15, .iconst (-1), 1, 0, .int (-1), [], []),
  (16, .ireturn, 1, 0, .int 0, [], []),
  (17, .aload_n 0, 1, 0, .int 0, [], []),
  (18, .getfield 34, 3, 19, .int 0, [8, 584], []),
  (21, .iload_n 1, 1, 0, .int 0, [], []),
  (22, .iconst 1, 1, 0, .int (1), [], []),
  (23, .bastore, 1, 0, .int 0, [], []),
  (24, .iconst 0, 1, 0, .int (0), [], []),
  (25, .istore_n 2, 1, 0, .int 0, [], []),
  (26, .iload_n 2, 1, 0, .int 0, [], []),
  (27, .bipush 21, 2, 0, .int (21), [], []),
  (29, .if_icmp .ge 26, 3, 35, .int 0, [], []),
  (32, .aload_n 0, 1, 0, .int 0, [], []),
  (33, .getfield 31, 3, 18, .int 0, [8, 763], []),
  (36, .bipush 21, 2, 0, .int (21), [], []),
  (38, .iload_n 1, 1, 0, .int 0, [], []),
  (39, .imul, 1, 0, .int 0, [], []),
  (40, .iload_n 2, 1, 0, .int 0, [], []),
  (41, .iadd, 1, 0, .int 0, [], []),
  (42, .aload_n 0, 1, 0, .int 0, [], []),
  (43, .getfield 22, 3, 14, .int 0, [8, 581], []),
  (46, .iload_n 2, 1, 0, .int 0, [], []),
  (47, .iaload, 1, 0, .int 0, [], []),
  (48, .iastore, 1, 0, .int 0, [], []),
  (49, .iinc 2 1, 3, 0, .int (1), [], []),
  (52, .goto (-26), 3, 18, .int 0, [], []),
  (55, .aload_n 0, 1, 0, .int 0, [], []),
  (56, .getfield 22, 3, 14, .int 0, [8, 581], []),
  (59, .bipush 20, 2, 0, .int (20), [], []),
  (61, .iaload, 1, 0, .int 0, [], []),
  (62, .ireturn, 1, 0, .int 0, [], [])]
def tX8_keep : pm_M := (({ cls := "AntLeaseModel", name := "keep", desc := "(I)I" } : Jvm.MethodName), prog_10_method_63_code, 3, (Option.some Jvm.ClassFile.FieldType.int), [], oX8_keep, [764, 518, 765, 766])
def oX8_again : List pm_OP := [(0, .aload_n 0, 1, 0, .int 0, [], []),
  (1, .iconst 0, 1, 0, .int (0), [], []),
  (2, .putfield 50, 3, 0, .int 0, [8, 540], []),
  (5, .iload_n 1, 1, 0, .int 0, [], []),
  (6, .i2l, 1, 0, .int 0, [], []),
  (7, .lconst 0, 1, 0, .long (0), [], []),
  (8, .lconst 1, 1, 0, .long (1), [], []),
  (9, .invokestatic 57, 3, 106, .int 0, [3, 529], []),
  (12, .ifCond .ne 5, 3, 11, .int 0, [], []),
  (15, .iconst (-1), 1, 0, .int (-1), [], []),
  (16, .ireturn, 1, 0, .int 0, [], []),
  (17, .aload_n 0, 1, 0, .int 0, [], []),
  (18, .getfield 34, 3, 19, .int 0, [8, 584], []),
  (21, .iload_n 1, 1, 0, .int 0, [], []),
  (22, .baload, 1, 0, .int 0, [], []),
  (23, .ifCond .ne 6, 3, 18, .int 0, [], []),
  (26, .bipush (-3), 2, 0, .int (-3), [], []),
  (28, .ireturn, 1, 0, .int 0, [], []),
  (29, .iconst 0, 1, 0, .int (0), [], []),
  (30, .istore_n 2, 1, 0, .int 0, [], []),
  (31, .iload_n 2, 1, 0, .int 0, [], []),
  (32, .bipush 21, 2, 0, .int (21), [], []),
  (34, .if_icmp .ge 26, 3, 37, .int 0, [], []),
  (37, .aload_n 0, 1, 0, .int 0, [], []),
  (38, .getfield 22, 3, 14, .int 0, [8, 581], []),
  (41, .iload_n 2, 1, 0, .int 0, [], []),
  (42, .aload_n 0, 1, 0, .int 0, [], []),
  (43, .getfield 31, 3, 18, .int 0, [8, 763], []),
  (46, .bipush 21, 2, 0, .int (21), [], []),
  (48, .iload_n 1, 1, 0, .int 0, [], []),
  (49, .imul, 1, 0, .int 0, [], []),
  (50, .iload_n 2, 1, 0, .int 0, [], []),
  (51, .iadd, 1, 0, .int 0, [], []),
  (52, .iaload, 1, 0, .int 0, [], []),
  (53, .iastore, 1, 0, .int 0, [], []),
  (54, .iinc 2 1, 3, 0, .int (1), [], []),
  (57, .goto (-26), 3, 20, .int 0, [], []),
  (60, .aload_n 0, 1, 0, .int 0, [], []),
  (61, .iconst 0, 1, 0, .int (0), [], []),
  (62, .putfield 107, 3, 17, .int 0, [8, 583], []),
  (65, .aload_n 0, 1, 0, .int 0, [], []),
  (66, .getfield 22, 3, 14, .int 0, [8, 581], []),
  (69, .bipush 20, 2, 0, .int (20), [], []),
  (71, .iaload, 1, 0, .int 0, [], []),
  (72, .ireturn, 1, 0, .int 0, [], [])]
def tX8_again : pm_M := (({ cls := "AntLeaseModel", name := "again", desc := "(I)I" } : Jvm.MethodName), prog_10_method_64_code, 3, (Option.some Jvm.ClassFile.FieldType.int), [], oX8_again, [767, 518, 768, 769])
def oJ6_bitCount_0f7a4 : List pm_OP := [(0, .iload_n 0, 1, 0, .int 0, [], []),
  (1, .iload_n 0, 1, 0, .int 0, [], []),
  (2, .iconst 1, 1, 0, .int (1), [], []),
  (3, .iushr, 1, 0, .int 0, [], []),
  (4, .ldc_w 265, 3, 0, .int (1431655765), [770], []),
  (7, .iand, 1, 0, .int 0, [], []),
  (8, .isub, 1, 0, .int 0, [], []),
  (9, .istore_n 0, 1, 0, .int 0, [], []),
  (10, .iload_n 0, 1, 0, .int 0, [], []),
  (11, .ldc_w 266, 3, 0, .int (858993459), [771], []),
  (14, .iand, 1, 0, .int 0, [], []),
  (15, .iload_n 0, 1, 0, .int 0, [], []),
  (16, .iconst 2, 1, 0, .int (2), [], []),
  (17, .iushr, 1, 0, .int 0, [], []),
  (18, .ldc_w 266, 3, 0, .int (858993459), [771], []),
  (21, .iand, 1, 0, .int 0, [], []),
  (22, .iadd, 1, 0, .int 0, [], []),
  (23, .istore_n 0, 1, 0, .int 0, [], []),
  (24, .iload_n 0, 1, 0, .int 0, [], []),
  (25, .iload_n 0, 1, 0, .int 0, [], []),
  (26, .iconst 4, 1, 0, .int (4), [], []),
  (27, .iushr, 1, 0, .int 0, [], []),
  (28, .iadd, 1, 0, .int 0, [], []),
  (29, .ldc_w 267, 3, 0, .int (252645135), [772], []),
  (32, .iand, 1, 0, .int 0, [], []),
  (33, .istore_n 0, 1, 0, .int 0, [], []),
  (34, .iload_n 0, 1, 0, .int 0, [], []),
  (35, .iload_n 0, 1, 0, .int 0, [], []),
  (36, .bipush 8, 2, 0, .int (8), [], []),
  (38, .iushr, 1, 0, .int 0, [], []),
  (39, .iadd, 1, 0, .int 0, [], []),
  (40, .istore_n 0, 1, 0, .int 0, [], []),
  (41, .iload_n 0, 1, 0, .int 0, [], []),
  (42, .iload_n 0, 1, 0, .int 0, [], []),
  (43, .bipush 16, 2, 0, .int (16), [], []),
  (45, .iushr, 1, 0, .int 0, [], []),
  (46, .iadd, 1, 0, .int 0, [], []),
  (47, .istore_n 0, 1, 0, .int 0, [], []),
  (48, .iload_n 0, 1, 0, .int 0, [], []),
  (49, .bipush 63, 2, 0, .int (63), [], []),
  (51, .iand, 1, 0, .int 0, [], []),
  (52, .ireturn, 1, 0, .int 0, [], [])]
def tJ6_bitCount_0f7a4 : pm_M := (({ cls := "java/lang/Integer", name := "bitCount", desc := "(I)I" } : Jvm.MethodName), prog_11_method_49_code, 1, (Option.some Jvm.ClassFile.FieldType.int), [], oJ6_bitCount_0f7a4, [773, 774, 775])
def mt : List pm_M := [tX0_cell, tX0_set, tX0_add, tX0_copyOf, tX0_storeIn, tX0_fetchFrom, tX0_makeFrom, tX0_foods, tX0_things, tX0_skirting, tX0_goodwill, tX0_pins, tX0_powder, tX0_quartersGone, tX0_hasFood, tX0_hasThing, tX0_kind, tX0_inLarder, tX0_onFloor, tX0_newlyPut, tX0_placeOf, tX0_worth, tX0_worthWith, tX0_grainsAtOnce, tX0_due, tX0_shortBy, tX0_reach, tX0_reachOf, tX0_known, tX0_astray, tX0_endQuarter, tX0_refusal, tX0_putUp, tX0_eatUp, tX0_leaveOut, tX0_carry, tX0_strew, tX1_grains, tX1_figures, tX1_find, tX1_tryFood, tX2_size, tX2_forget, tX2_next, tX2_note, tX2_settle, tX2_takeBack, tX3_bit, tX3_howMany, tX3_first, tX3_isRest, tX3_gain, tX4_size, tX4_add, tX4_forget, tX4_isSo, tX4_howManyLines, tX4_firstLine, tX5_forget, tX5_isSlot, tX5_take, tX5_giveBack, tX6_length, tX6_add, tX6_empty, tX6_byteAt, tX6_figureAt, tX6_firstFault, tX6_fits, tX6_wantedAfter, tX7_write, tX7_wipe, tX7_fault, tX7_manor, tX7_about, tX7_food, tX7_thing, tX7_quarter, tX7_put, tX7_eat, tX7_leave, tX7_move, tX7_sprinkle, tX7_undo, tX7_later, tX7_least, tX7_judge, tX7_share, tX7_say, tX7_unsay, tX7_lines, tX7_rests, tX7_stray, tX7_seed, tX7_years, tX7_keep, tX7_again, tX7_canBe, tX7_doByChance, tX7_worthOfThose, tX7_pairsThatKeep, tX7_weighKnown, tX7_isPlace, tX7_has, tX7_factorial, tX7_told, tX8_in, tX8_has, tX8_many, tX8_power, tX8_apart, tX8_noFood, tX8_noThing, tX8_noPlace, tX8_write, tX8_wipe, tX8_figure, tX8_readOneFood, tX8_readOneThing, tX8_readPart, tX8_readManor, tX8_fault, tX8_manor, tX8_worth, tX8_worthOf, tX8_due, tX8_shortOf, tX8_reach, tX8_antsOf, tX8_known, tX8_goQuarter, tX8_about, tX8_food, tX8_astray, tX8_thing, tX8_note, tX8_quarter, tX8_goPut, tX8_grains, tX8_goLeave, tX8_put, tX8_eat, tX8_leave, tX8_move, tX8_sprinkle, tX8_undo, tX8_begin, tX8_later, tX8_leaves, tX8_least, tX8_longPower, tX8_moves, tX8_sprinkles, tX8_does, tX8_judge, tX8_ways, tX8_divisor, tX8_fraction, tX8_share, tX8_say, tX8_unsay, tX8_lines, tX8_rests, tX8_stray, tX8_seed, tX8_years, tX8_keep, tX8_again, tJ6_bitCount_0f7a4]
def PR : pm_P := (mt, cls9, tb9, nst9)
theorem ok_X0_cell : pm_okM PR tX0_cell = true := by decide +kernel
theorem ok_X0_set : pm_okM PR tX0_set = true := by decide +kernel
theorem ok_X0_add : pm_okM PR tX0_add = true := by decide +kernel
theorem ok_X0_copyOf : pm_okM PR tX0_copyOf = true := by decide +kernel
theorem ok_X0_storeIn : pm_okM PR tX0_storeIn = true := by decide +kernel
theorem ok_X0_fetchFrom : pm_okM PR tX0_fetchFrom = true := by decide +kernel
theorem ok_X0_makeFrom : pm_okM PR tX0_makeFrom = true := by decide +kernel
theorem ok_X0_foods : pm_okM PR tX0_foods = true := by decide +kernel
theorem ok_X0_things : pm_okM PR tX0_things = true := by decide +kernel
theorem ok_X0_skirting : pm_okM PR tX0_skirting = true := by decide +kernel
theorem ok_X0_goodwill : pm_okM PR tX0_goodwill = true := by decide +kernel
theorem ok_X0_pins : pm_okM PR tX0_pins = true := by decide +kernel
theorem ok_X0_powder : pm_okM PR tX0_powder = true := by decide +kernel
theorem ok_X0_quartersGone : pm_okM PR tX0_quartersGone = true := by decide +kernel
theorem ok_X0_hasFood : pm_okM PR tX0_hasFood = true := by decide +kernel
theorem ok_X0_hasThing : pm_okM PR tX0_hasThing = true := by decide +kernel
theorem ok_X0_kind : pm_okM PR tX0_kind = true := by decide +kernel
theorem ok_X0_inLarder : pm_okM PR tX0_inLarder = true := by decide +kernel
theorem ok_X0_onFloor : pm_okM PR tX0_onFloor = true := by decide +kernel
theorem ok_X0_newlyPut : pm_okM PR tX0_newlyPut = true := by decide +kernel
theorem ok_X0_placeOf : pm_okM PR tX0_placeOf = true := by decide +kernel
theorem ok_X0_worth : pm_okM PR tX0_worth = true := by decide +kernel
theorem ok_X0_worthWith : pm_okM PR tX0_worthWith = true := by decide +kernel
theorem ok_X0_grainsAtOnce : pm_okM PR tX0_grainsAtOnce = true := by decide +kernel
theorem ok_X0_due : pm_okM PR tX0_due = true := by decide +kernel
theorem ok_X0_shortBy : pm_okM PR tX0_shortBy = true := by decide +kernel
theorem ok_X0_reach : pm_okM PR tX0_reach = true := by decide +kernel
theorem ok_X0_reachOf : pm_okM PR tX0_reachOf = true := by decide +kernel
theorem ok_X0_known : pm_okM PR tX0_known = true := by decide +kernel
theorem ok_X0_astray : pm_okM PR tX0_astray = true := by decide +kernel
theorem ok_X0_endQuarter : pm_okM PR tX0_endQuarter = true := by decide +kernel
theorem ok_X0_refusal : pm_okM PR tX0_refusal = true := by decide +kernel
theorem ok_X0_putUp : pm_okM PR tX0_putUp = true := by decide +kernel
theorem ok_X0_eatUp : pm_okM PR tX0_eatUp = true := by decide +kernel
theorem ok_X0_leaveOut : pm_okM PR tX0_leaveOut = true := by decide +kernel
theorem ok_X0_carry : pm_okM PR tX0_carry = true := by decide +kernel
theorem ok_X0_strew : pm_okM PR tX0_strew = true := by decide +kernel
theorem ok_X1_grains : pm_okM PR tX1_grains = true := by decide +kernel
theorem ok_X1_figures : pm_okM PR tX1_figures = true := by decide +kernel
theorem ok_X1_find : pm_okM PR tX1_find = true := by decide +kernel
theorem ok_X1_tryFood : pm_okM PR tX1_tryFood = true := by decide +kernel
theorem ok_X2_size : pm_okM PR tX2_size = true := by decide +kernel
theorem ok_X2_forget : pm_okM PR tX2_forget = true := by decide +kernel
theorem ok_X2_next : pm_okM PR tX2_next = true := by decide +kernel
theorem ok_X2_note : pm_okM PR tX2_note = true := by decide +kernel
theorem ok_X2_settle : pm_okM PR tX2_settle = true := by decide +kernel
theorem ok_X2_takeBack : pm_okM PR tX2_takeBack = true := by decide +kernel
theorem ok_X3_bit : pm_okM PR tX3_bit = true := by decide +kernel
theorem ok_X3_howMany : pm_okM PR tX3_howMany = true := by decide +kernel
theorem ok_X3_first : pm_okM PR tX3_first = true := by decide +kernel
theorem ok_X3_isRest : pm_okM PR tX3_isRest = true := by decide +kernel
theorem ok_X3_gain : pm_okM PR tX3_gain = true := by decide +kernel
theorem ok_X4_size : pm_okM PR tX4_size = true := by decide +kernel
theorem ok_X4_add : pm_okM PR tX4_add = true := by decide +kernel
theorem ok_X4_forget : pm_okM PR tX4_forget = true := by decide +kernel
theorem ok_X4_isSo : pm_okM PR tX4_isSo = true := by decide +kernel
theorem ok_X4_howManyLines : pm_okM PR tX4_howManyLines = true := by decide +kernel
theorem ok_X4_firstLine : pm_okM PR tX4_firstLine = true := by decide +kernel
theorem ok_X5_forget : pm_okM PR tX5_forget = true := by decide +kernel
theorem ok_X5_isSlot : pm_okM PR tX5_isSlot = true := by decide +kernel
theorem ok_X5_take : pm_okM PR tX5_take = true := by decide +kernel
theorem ok_X5_giveBack : pm_okM PR tX5_giveBack = true := by decide +kernel
theorem ok_X6_length : pm_okM PR tX6_length = true := by decide +kernel
theorem ok_X6_add : pm_okM PR tX6_add = true := by decide +kernel
theorem ok_X6_empty : pm_okM PR tX6_empty = true := by decide +kernel
theorem ok_X6_byteAt : pm_okM PR tX6_byteAt = true := by decide +kernel
theorem ok_X6_figureAt : pm_okM PR tX6_figureAt = true := by decide +kernel
theorem ok_X6_firstFault : pm_okM PR tX6_firstFault = true := by decide +kernel
theorem ok_X6_fits : pm_okM PR tX6_fits = true := by decide +kernel
theorem ok_X6_wantedAfter : pm_okM PR tX6_wantedAfter = true := by decide +kernel
theorem ok_X7_write : pm_okM PR tX7_write = true := by decide +kernel
theorem ok_X7_wipe : pm_okM PR tX7_wipe = true := by decide +kernel
theorem ok_X7_fault : pm_okM PR tX7_fault = true := by decide +kernel
theorem ok_X7_manor : pm_okM PR tX7_manor = true := by decide +kernel
theorem ok_X7_about : pm_okM PR tX7_about = true := by decide +kernel
theorem ok_X7_food : pm_okM PR tX7_food = true := by decide +kernel
theorem ok_X7_thing : pm_okM PR tX7_thing = true := by decide +kernel
theorem ok_X7_quarter : pm_okM PR tX7_quarter = true := by decide +kernel
theorem ok_X7_put : pm_okM PR tX7_put = true := by decide +kernel
theorem ok_X7_eat : pm_okM PR tX7_eat = true := by decide +kernel
theorem ok_X7_leave : pm_okM PR tX7_leave = true := by decide +kernel
theorem ok_X7_move : pm_okM PR tX7_move = true := by decide +kernel
theorem ok_X7_sprinkle : pm_okM PR tX7_sprinkle = true := by decide +kernel
theorem ok_X7_undo : pm_okM PR tX7_undo = true := by decide +kernel
theorem ok_X7_later : pm_okM PR tX7_later = true := by decide +kernel
theorem ok_X7_least : pm_okM PR tX7_least = true := by decide +kernel
theorem ok_X7_judge : pm_okM PR tX7_judge = true := by decide +kernel
theorem ok_X7_share : pm_okM PR tX7_share = true := by decide +kernel
theorem ok_X7_say : pm_okM PR tX7_say = true := by decide +kernel
theorem ok_X7_unsay : pm_okM PR tX7_unsay = true := by decide +kernel
theorem ok_X7_lines : pm_okM PR tX7_lines = true := by decide +kernel
theorem ok_X7_rests : pm_okM PR tX7_rests = true := by decide +kernel
theorem ok_X7_stray : pm_okM PR tX7_stray = true := by decide +kernel
theorem ok_X7_seed : pm_okM PR tX7_seed = true := by decide +kernel
theorem ok_X7_years : pm_okM PR tX7_years = true := by decide +kernel
theorem ok_X7_keep : pm_okM PR tX7_keep = true := by decide +kernel
theorem ok_X7_again : pm_okM PR tX7_again = true := by decide +kernel
theorem ok_X7_canBe : pm_okM PR tX7_canBe = true := by decide +kernel
theorem ok_X7_doByChance : pm_okM PR tX7_doByChance = true := by decide +kernel
theorem ok_X7_worthOfThose : pm_okM PR tX7_worthOfThose = true := by decide +kernel
theorem ok_X7_pairsThatKeep : pm_okM PR tX7_pairsThatKeep = true := by decide +kernel
theorem ok_X7_weighKnown : pm_okM PR tX7_weighKnown = true := by decide +kernel
theorem ok_X7_isPlace : pm_okM PR tX7_isPlace = true := by decide +kernel
theorem ok_X7_has : pm_okM PR tX7_has = true := by decide +kernel
theorem ok_X7_factorial : pm_okM PR tX7_factorial = true := by decide +kernel
theorem ok_X7_told : pm_okM PR tX7_told = true := by decide +kernel
theorem ok_X8_in : pm_okM PR tX8_in = true := by decide +kernel
theorem ok_X8_has : pm_okM PR tX8_has = true := by decide +kernel
theorem ok_X8_many : pm_okM PR tX8_many = true := by decide +kernel
theorem ok_X8_power : pm_okM PR tX8_power = true := by decide +kernel
theorem ok_X8_apart : pm_okM PR tX8_apart = true := by decide +kernel
theorem ok_X8_noFood : pm_okM PR tX8_noFood = true := by decide +kernel
theorem ok_X8_noThing : pm_okM PR tX8_noThing = true := by decide +kernel
theorem ok_X8_noPlace : pm_okM PR tX8_noPlace = true := by decide +kernel
theorem ok_X8_write : pm_okM PR tX8_write = true := by decide +kernel
theorem ok_X8_wipe : pm_okM PR tX8_wipe = true := by decide +kernel
theorem ok_X8_figure : pm_okM PR tX8_figure = true := by decide +kernel
theorem ok_X8_readOneFood : pm_okM PR tX8_readOneFood = true := by decide +kernel
theorem ok_X8_readOneThing : pm_okM PR tX8_readOneThing = true := by decide +kernel
theorem ok_X8_readPart : pm_okM PR tX8_readPart = true := by decide +kernel
theorem ok_X8_readManor : pm_okM PR tX8_readManor = true := by decide +kernel
theorem ok_X8_fault : pm_okM PR tX8_fault = true := by decide +kernel
theorem ok_X8_manor : pm_okM PR tX8_manor = true := by decide +kernel
theorem ok_X8_worth : pm_okM PR tX8_worth = true := by decide +kernel
theorem ok_X8_worthOf : pm_okM PR tX8_worthOf = true := by decide +kernel
theorem ok_X8_due : pm_okM PR tX8_due = true := by decide +kernel
theorem ok_X8_shortOf : pm_okM PR tX8_shortOf = true := by decide +kernel
theorem ok_X8_reach : pm_okM PR tX8_reach = true := by decide +kernel
theorem ok_X8_antsOf : pm_okM PR tX8_antsOf = true := by decide +kernel
theorem ok_X8_known : pm_okM PR tX8_known = true := by decide +kernel
theorem ok_X8_goQuarter : pm_okM PR tX8_goQuarter = true := by decide +kernel
theorem ok_X8_about : pm_okM PR tX8_about = true := by decide +kernel
theorem ok_X8_food : pm_okM PR tX8_food = true := by decide +kernel
theorem ok_X8_astray : pm_okM PR tX8_astray = true := by decide +kernel
theorem ok_X8_thing : pm_okM PR tX8_thing = true := by decide +kernel
theorem ok_X8_note : pm_okM PR tX8_note = true := by decide +kernel
theorem ok_X8_quarter : pm_okM PR tX8_quarter = true := by decide +kernel
theorem ok_X8_goPut : pm_okM PR tX8_goPut = true := by decide +kernel
theorem ok_X8_grains : pm_okM PR tX8_grains = true := by decide +kernel
theorem ok_X8_goLeave : pm_okM PR tX8_goLeave = true := by decide +kernel
theorem ok_X8_put : pm_okM PR tX8_put = true := by decide +kernel
theorem ok_X8_eat : pm_okM PR tX8_eat = true := by decide +kernel
theorem ok_X8_leave : pm_okM PR tX8_leave = true := by decide +kernel
theorem ok_X8_move : pm_okM PR tX8_move = true := by decide +kernel
theorem ok_X8_sprinkle : pm_okM PR tX8_sprinkle = true := by decide +kernel
theorem ok_X8_undo : pm_okM PR tX8_undo = true := by decide +kernel
theorem ok_X8_begin : pm_okM PR tX8_begin = true := by decide +kernel
theorem ok_X8_later : pm_okM PR tX8_later = true := by decide +kernel
theorem ok_X8_leaves : pm_okM PR tX8_leaves = true := by decide +kernel
theorem ok_X8_least : pm_okM PR tX8_least = true := by decide +kernel
theorem ok_X8_longPower : pm_okM PR tX8_longPower = true := by decide +kernel
theorem ok_X8_moves : pm_okM PR tX8_moves = true := by decide +kernel
theorem ok_X8_sprinkles : pm_okM PR tX8_sprinkles = true := by decide +kernel
theorem ok_X8_does : pm_okM PR tX8_does = true := by decide +kernel
theorem ok_X8_judge : pm_okM PR tX8_judge = true := by decide +kernel
theorem ok_X8_ways : pm_okM PR tX8_ways = true := by decide +kernel
theorem ok_X8_divisor : pm_okM PR tX8_divisor = true := by decide +kernel
theorem ok_X8_fraction : pm_okM PR tX8_fraction = true := by decide +kernel
theorem ok_X8_share : pm_okM PR tX8_share = true := by decide +kernel
theorem ok_X8_say : pm_okM PR tX8_say = true := by decide +kernel
theorem ok_X8_unsay : pm_okM PR tX8_unsay = true := by decide +kernel
theorem ok_X8_lines : pm_okM PR tX8_lines = true := by decide +kernel
theorem ok_X8_rests : pm_okM PR tX8_rests = true := by decide +kernel
theorem ok_X8_stray : pm_okM PR tX8_stray = true := by decide +kernel
theorem ok_X8_seed : pm_okM PR tX8_seed = true := by decide +kernel
theorem ok_X8_years : pm_okM PR tX8_years = true := by decide +kernel
theorem ok_X8_keep : pm_okM PR tX8_keep = true := by decide +kernel
theorem ok_X8_again : pm_okM PR tX8_again = true := by decide +kernel
theorem ok_J6_bitCount_0f7a4 : pm_okM PR tJ6_bitCount_0f7a4 = true := by decide +kernel
set_option maxRecDepth 100000 in
theorem PR_ok : pm_okP PR := by
  refine ⟨tb9_good, cls9_ok, ?_⟩
  show ∀ M ∈ mt, pm_okM PR M = true
  unfold mt
  exact List.forall_mem_cons.mpr ⟨ok_X0_cell, List.forall_mem_cons.mpr ⟨ok_X0_set, List.forall_mem_cons.mpr ⟨ok_X0_add, List.forall_mem_cons.mpr ⟨ok_X0_copyOf, List.forall_mem_cons.mpr ⟨ok_X0_storeIn, List.forall_mem_cons.mpr ⟨ok_X0_fetchFrom, List.forall_mem_cons.mpr ⟨ok_X0_makeFrom, List.forall_mem_cons.mpr ⟨ok_X0_foods, List.forall_mem_cons.mpr ⟨ok_X0_things, List.forall_mem_cons.mpr ⟨ok_X0_skirting, List.forall_mem_cons.mpr ⟨ok_X0_goodwill, List.forall_mem_cons.mpr ⟨ok_X0_pins, List.forall_mem_cons.mpr ⟨ok_X0_powder, List.forall_mem_cons.mpr ⟨ok_X0_quartersGone, List.forall_mem_cons.mpr ⟨ok_X0_hasFood, List.forall_mem_cons.mpr ⟨ok_X0_hasThing, List.forall_mem_cons.mpr ⟨ok_X0_kind, List.forall_mem_cons.mpr ⟨ok_X0_inLarder, List.forall_mem_cons.mpr ⟨ok_X0_onFloor, List.forall_mem_cons.mpr ⟨ok_X0_newlyPut, List.forall_mem_cons.mpr ⟨ok_X0_placeOf, List.forall_mem_cons.mpr ⟨ok_X0_worth, List.forall_mem_cons.mpr ⟨ok_X0_worthWith, List.forall_mem_cons.mpr ⟨ok_X0_grainsAtOnce, List.forall_mem_cons.mpr ⟨ok_X0_due, List.forall_mem_cons.mpr ⟨ok_X0_shortBy, List.forall_mem_cons.mpr ⟨ok_X0_reach, List.forall_mem_cons.mpr ⟨ok_X0_reachOf, List.forall_mem_cons.mpr ⟨ok_X0_known, List.forall_mem_cons.mpr ⟨ok_X0_astray, List.forall_mem_cons.mpr ⟨ok_X0_endQuarter, List.forall_mem_cons.mpr ⟨ok_X0_refusal, List.forall_mem_cons.mpr ⟨ok_X0_putUp, List.forall_mem_cons.mpr ⟨ok_X0_eatUp, List.forall_mem_cons.mpr ⟨ok_X0_leaveOut, List.forall_mem_cons.mpr ⟨ok_X0_carry, List.forall_mem_cons.mpr ⟨ok_X0_strew, List.forall_mem_cons.mpr ⟨ok_X1_grains, List.forall_mem_cons.mpr ⟨ok_X1_figures, List.forall_mem_cons.mpr ⟨ok_X1_find, List.forall_mem_cons.mpr ⟨ok_X1_tryFood, List.forall_mem_cons.mpr ⟨ok_X2_size, List.forall_mem_cons.mpr ⟨ok_X2_forget, List.forall_mem_cons.mpr ⟨ok_X2_next, List.forall_mem_cons.mpr ⟨ok_X2_note, List.forall_mem_cons.mpr ⟨ok_X2_settle, List.forall_mem_cons.mpr ⟨ok_X2_takeBack, List.forall_mem_cons.mpr ⟨ok_X3_bit, List.forall_mem_cons.mpr ⟨ok_X3_howMany, List.forall_mem_cons.mpr ⟨ok_X3_first, List.forall_mem_cons.mpr ⟨ok_X3_isRest, List.forall_mem_cons.mpr ⟨ok_X3_gain, List.forall_mem_cons.mpr ⟨ok_X4_size, List.forall_mem_cons.mpr ⟨ok_X4_add, List.forall_mem_cons.mpr ⟨ok_X4_forget, List.forall_mem_cons.mpr ⟨ok_X4_isSo, List.forall_mem_cons.mpr ⟨ok_X4_howManyLines, List.forall_mem_cons.mpr ⟨ok_X4_firstLine, List.forall_mem_cons.mpr ⟨ok_X5_forget, List.forall_mem_cons.mpr ⟨ok_X5_isSlot, List.forall_mem_cons.mpr ⟨ok_X5_take, List.forall_mem_cons.mpr ⟨ok_X5_giveBack, List.forall_mem_cons.mpr ⟨ok_X6_length, List.forall_mem_cons.mpr ⟨ok_X6_add, List.forall_mem_cons.mpr ⟨ok_X6_empty, List.forall_mem_cons.mpr ⟨ok_X6_byteAt, List.forall_mem_cons.mpr ⟨ok_X6_figureAt, List.forall_mem_cons.mpr ⟨ok_X6_firstFault, List.forall_mem_cons.mpr ⟨ok_X6_fits, List.forall_mem_cons.mpr ⟨ok_X6_wantedAfter, List.forall_mem_cons.mpr ⟨ok_X7_write, List.forall_mem_cons.mpr ⟨ok_X7_wipe, List.forall_mem_cons.mpr ⟨ok_X7_fault, List.forall_mem_cons.mpr ⟨ok_X7_manor, List.forall_mem_cons.mpr ⟨ok_X7_about, List.forall_mem_cons.mpr ⟨ok_X7_food, List.forall_mem_cons.mpr ⟨ok_X7_thing, List.forall_mem_cons.mpr ⟨ok_X7_quarter, List.forall_mem_cons.mpr ⟨ok_X7_put, List.forall_mem_cons.mpr ⟨ok_X7_eat, List.forall_mem_cons.mpr ⟨ok_X7_leave, List.forall_mem_cons.mpr ⟨ok_X7_move, List.forall_mem_cons.mpr ⟨ok_X7_sprinkle, List.forall_mem_cons.mpr ⟨ok_X7_undo, List.forall_mem_cons.mpr ⟨ok_X7_later, List.forall_mem_cons.mpr ⟨ok_X7_least, List.forall_mem_cons.mpr ⟨ok_X7_judge, List.forall_mem_cons.mpr ⟨ok_X7_share, List.forall_mem_cons.mpr ⟨ok_X7_say, List.forall_mem_cons.mpr ⟨ok_X7_unsay, List.forall_mem_cons.mpr ⟨ok_X7_lines, List.forall_mem_cons.mpr ⟨ok_X7_rests, List.forall_mem_cons.mpr ⟨ok_X7_stray, List.forall_mem_cons.mpr ⟨ok_X7_seed, List.forall_mem_cons.mpr ⟨ok_X7_years, List.forall_mem_cons.mpr ⟨ok_X7_keep, List.forall_mem_cons.mpr ⟨ok_X7_again, List.forall_mem_cons.mpr ⟨ok_X7_canBe, List.forall_mem_cons.mpr ⟨ok_X7_doByChance, List.forall_mem_cons.mpr ⟨ok_X7_worthOfThose, List.forall_mem_cons.mpr ⟨ok_X7_pairsThatKeep, List.forall_mem_cons.mpr ⟨ok_X7_weighKnown, List.forall_mem_cons.mpr ⟨ok_X7_isPlace, List.forall_mem_cons.mpr ⟨ok_X7_has, List.forall_mem_cons.mpr ⟨ok_X7_factorial, List.forall_mem_cons.mpr ⟨ok_X7_told, List.forall_mem_cons.mpr ⟨ok_X8_in, List.forall_mem_cons.mpr ⟨ok_X8_has, List.forall_mem_cons.mpr ⟨ok_X8_many, List.forall_mem_cons.mpr ⟨ok_X8_power, List.forall_mem_cons.mpr ⟨ok_X8_apart, List.forall_mem_cons.mpr ⟨ok_X8_noFood, List.forall_mem_cons.mpr ⟨ok_X8_noThing, List.forall_mem_cons.mpr ⟨ok_X8_noPlace, List.forall_mem_cons.mpr ⟨ok_X8_write, List.forall_mem_cons.mpr ⟨ok_X8_wipe, List.forall_mem_cons.mpr ⟨ok_X8_figure, List.forall_mem_cons.mpr ⟨ok_X8_readOneFood, List.forall_mem_cons.mpr ⟨ok_X8_readOneThing, List.forall_mem_cons.mpr ⟨ok_X8_readPart, List.forall_mem_cons.mpr ⟨ok_X8_readManor, List.forall_mem_cons.mpr ⟨ok_X8_fault, List.forall_mem_cons.mpr ⟨ok_X8_manor, List.forall_mem_cons.mpr ⟨ok_X8_worth, List.forall_mem_cons.mpr ⟨ok_X8_worthOf, List.forall_mem_cons.mpr ⟨ok_X8_due, List.forall_mem_cons.mpr ⟨ok_X8_shortOf, List.forall_mem_cons.mpr ⟨ok_X8_reach, List.forall_mem_cons.mpr ⟨ok_X8_antsOf, List.forall_mem_cons.mpr ⟨ok_X8_known, List.forall_mem_cons.mpr ⟨ok_X8_goQuarter, List.forall_mem_cons.mpr ⟨ok_X8_about, List.forall_mem_cons.mpr ⟨ok_X8_food, List.forall_mem_cons.mpr ⟨ok_X8_astray, List.forall_mem_cons.mpr ⟨ok_X8_thing, List.forall_mem_cons.mpr ⟨ok_X8_note, List.forall_mem_cons.mpr ⟨ok_X8_quarter, List.forall_mem_cons.mpr ⟨ok_X8_goPut, List.forall_mem_cons.mpr ⟨ok_X8_grains, List.forall_mem_cons.mpr ⟨ok_X8_goLeave, List.forall_mem_cons.mpr ⟨ok_X8_put, List.forall_mem_cons.mpr ⟨ok_X8_eat, List.forall_mem_cons.mpr ⟨ok_X8_leave, List.forall_mem_cons.mpr ⟨ok_X8_move, List.forall_mem_cons.mpr ⟨ok_X8_sprinkle, List.forall_mem_cons.mpr ⟨ok_X8_undo, List.forall_mem_cons.mpr ⟨ok_X8_begin, List.forall_mem_cons.mpr ⟨ok_X8_later, List.forall_mem_cons.mpr ⟨ok_X8_leaves, List.forall_mem_cons.mpr ⟨ok_X8_least, List.forall_mem_cons.mpr ⟨ok_X8_longPower, List.forall_mem_cons.mpr ⟨ok_X8_moves, List.forall_mem_cons.mpr ⟨ok_X8_sprinkles, List.forall_mem_cons.mpr ⟨ok_X8_does, List.forall_mem_cons.mpr ⟨ok_X8_judge, List.forall_mem_cons.mpr ⟨ok_X8_ways, List.forall_mem_cons.mpr ⟨ok_X8_divisor, List.forall_mem_cons.mpr ⟨ok_X8_fraction, List.forall_mem_cons.mpr ⟨ok_X8_share, List.forall_mem_cons.mpr ⟨ok_X8_say, List.forall_mem_cons.mpr ⟨ok_X8_unsay, List.forall_mem_cons.mpr ⟨ok_X8_lines, List.forall_mem_cons.mpr ⟨ok_X8_rests, List.forall_mem_cons.mpr ⟨ok_X8_stray, List.forall_mem_cons.mpr ⟨ok_X8_seed, List.forall_mem_cons.mpr ⟨ok_X8_years, List.forall_mem_cons.mpr ⟨ok_X8_keep, List.forall_mem_cons.mpr ⟨ok_X8_again, List.forall_mem_cons.mpr ⟨ok_J6_bitCount_0f7a4, fun _ h => absurd h List.not_mem_nil⟩⟩⟩⟩⟩⟩⟩⟩⟩⟩⟩⟩⟩⟩⟩⟩⟩⟩⟩⟩⟩⟩⟩⟩⟩⟩⟩⟩⟩⟩⟩⟩⟩⟩⟩⟩⟩⟩⟩⟩⟩⟩⟩⟩⟩⟩⟩⟩⟩⟩⟩⟩⟩⟩⟩⟩⟩⟩⟩⟩⟩⟩⟩⟩⟩⟩⟩⟩⟩⟩⟩⟩⟩⟩⟩⟩⟩⟩⟩⟩⟩⟩⟩⟩⟩⟩⟩⟩⟩⟩⟩⟩⟩⟩⟩⟩⟩⟩⟩⟩⟩⟩⟩⟩⟩⟩⟩⟩⟩⟩⟩⟩⟩⟩⟩⟩⟩⟩⟩⟩⟩⟩⟩⟩⟩⟩⟩⟩⟩⟩⟩⟩⟩⟩⟩⟩⟩⟩⟩⟩⟩⟩⟩⟩⟩⟩⟩⟩⟩⟩⟩⟩⟩⟩⟩⟩⟩⟩⟩⟩⟩⟩⟩⟩⟩⟩⟩⟩⟩
end
section
/-! heaps of the class and of the reference; small rows for trees -/
def uF (F : Nat → Nat → Int32) (k : Nat) (f : Nat → Int32) : Nat → Nat → Int32 := fun j => if j = k then f else F j
def bI (b : Bool) : Int32 := if b = true then 1 else 0
theorem pm_rz_b (b : Bool) : pm_rz (some .boolean) (bI b) = true := by cases b <;> decide +kernel
theorem bI_0 (b : Bool) : (bI b = 0) = (b = false) := by cases b <;> decide +kernel
theorem pm_rc {call : pm_K} {ret : Option FieldType} {ops : List pm_OP} {q : Prop} {dq : Decidable q} {a b : pm_X} {A B : Option pm_R} (h1 : q → pm_res call ret ops a = A) (h2 : ¬ q → pm_res call ret ops b = B) : pm_res call ret ops (@ite _ q dq a b) = @ite _ q dq A B := by
  by_cases h : q
  · rw [if_pos h, if_pos h]; exact h1 h
  · rw [if_neg h, if_neg h]; exact h2 h
theorem nI_nn {x : Int32} (h : ¬ x < 0) : ∃ k : Nat, k < 2 ^ 31 ∧ x = nI k := nI_of h
theorem pm_in_nI {k n : Nat} (h : k < n) (hn : n < 2 ^ 31) : pm_in (nI k) n = true := decide_eq_true (nI_in h hn)
theorem pm_in_lt {x M : Int32} {n : Nat} (hM : M = nI n) (hn : n < 2 ^ 31) (h0 : ¬ x < 0) (h1 : x < M) : pm_in x n = true := by
  obtain ⟨k, hk, rfl⟩ := nI_of h0
  rw [hM, nI_ltI hk hn] at h1
  exact pm_in_nI h1 hn
theorem pm_EV_cl {call : pm_K} {ret : Option FieldType} {ops : List pm_OP} (n : Nat) {c d : pm_C} {a : Nat} {as : List Value} {hp hp2 : pm_HP} {i2 : Nat} {ls : pm_LS} {rest : List Value} {r : Option Value} (h : pm_go call ret ops n c = some d) (h2 : pm_step call ret ops d = pm_bd (call a as hp) (fun r hp2 => .inl (i2, ls, r.toList ++ rest, hp2))) (hq : call a as hp = some (r, hp2)) : pm_EV call ret ops c = pm_EV call ret ops (i2, ls, r.toList ++ rest, hp2) := by
  rw [pm_EV_at n h h2, hq]
  rfl
theorem pm_pi {c : Prop} {dc : Decidable c} {a b : Int32} {h : pm_HP} : (some (some (Value.int (@ite _ c dc a b)), h) : Option pm_R) = @ite _ c dc (some (some (.int a), h)) (some (some (.int b), h)) := by cases dc <;> rfl
def hX (I : Nat → Int32) (F : Nat → Nat → Int32) (sd : Int64) : pm_HP := [.inr (7, [.ref 1, .ref 3, .ref 5, .ref 7, .ref 9, .ref 11, .ref 12, .ref 13, .ref 14, .long sd]), .inr (6, [.ref 2, .int (I 0)]), .inl (0, 48, .inl (F 2)), .inr (0, [.ref 4]), .inl (0, 28, .inl (F 4)), .inr (0, [.ref 6]), .inl (0, 28, .inl (F 6)), .inr (2, [.ref 8, .int (I 1), .int (I 2)]), .inl (0, 420, .inl (F 8)), .inr (5, [.ref 10, .int (I 3)]), .inl (0, 56, .inl (F 10)), .inr (4, [.int (I 4), .int (I 5), .int (I 6)]), .inr (1, [.int (I 7), .int (I 8)]), .inl (0, 4, .inl (F 13)), .inl (0, 6, .inl (F 14))]
def hY (I : Nat → Int32) (F : Nat → Nat → Int32) (sd : Int64) : pm_HP := [.inr (8, [.int (I 0), .ref 1, .int (I 2), .int (I 3), .int (I 4), .int (I 5), .ref 2, .int (I 7), .int (I 8), .int (I 9), .int (I 10), .ref 3, .int (I 12), .ref 4, .ref 5, .ref 6, .ref 7, .int (I 17), .ref 8, .ref 9, .int (I 20), .ref 10, .ref 11, .long sd, .int (I 24), .int (I 25), .int (I 26), .int (I 27), .int (I 28), .int (I 29), .ref 12, .ref 13]), .inl (0, 48, .inl (F 1)), .inl (0, 4, .inl (F 2)), .inl (0, 8, .inl (F 3)), .inl (0, 5, .inl (F 4)), .inl (0, 21, .inl (F 5)), .inl (0, 21, .inl (F 6)), .inl (0, 294, .inl (F 7)), .inl (0, 42, .inl (F 8)), .inl (1, 2, .inl (F 9)), .inl (0, 6, .inl (F 10)), .inl (0, 6, .inl (F 11)), .inl (0, 18, .inl (F 12)), .inl (0, 16, .inl (F 13))]
end
section
/-! the class: its house, method by method -/
def hcell (f : Nat → Int32) (q : Int32) : Int32 := if q < 0 then 0 else if q < 28 then f q.toNatClampNeg else 0
def hset (f : Nat → Int32) (q v : Int32) : Nat → Int32 := if q < 0 then f else if q < 28 then upd f q.toNatClampNeg v else f
def inr (q n : Int32) : Bool := !decide (q < 0) && decide (q < n)
def xhas (b q : Int32) : Bool := inr q 10 && !decide ((b >>> (q &&& 31)) &&& 1 = 0)
theorem cl_lt {x : Int32} {k : Nat} (hk : k < 2 ^ 31) : nI k < x ↔ k < x.toNatClampNeg := by
  rcases Int32.lt_or_le x 0 with h | h
  · have h1 : x.toNatClampNeg = 0 := by
      rw [Int32.lt_iff_toInt_lt, Int32.toInt_zero] at h
      rw [Int32.toNatClampNeg]
      omega
    rw [h1]
    constructor
    · intro h2
      rw [Int32.lt_iff_toInt_lt, nI_toInt hk] at h2
      rw [Int32.lt_iff_toInt_lt, Int32.toInt_zero] at h
      omega
    · intro h2; omega
  · obtain ⟨j, hj, rfl⟩ := nI_of (Int32.not_lt.mpr h)
    rw [nI_ltI hk hj, nI_clamp hj]
theorem cl_bd (x : Int32) : x.toNatClampNeg < 2 ^ 31 := by
  rcases Int32.lt_or_le x 0 with h | h
  · rw [Int32.lt_iff_toInt_lt, Int32.toInt_zero] at h
    rw [Int32.toNatClampNeg]
    omega
  · obtain ⟨j, hj, rfl⟩ := nI_of (Int32.not_lt.mpr h)
    rw [nI_clamp hj]
    exact hj
theorem nI_p1 (k : Nat) : nI k + 1 = nI (k + 1) := nI_1 k
set_option maxRecDepth 100000 in
set_option maxHeartbeats 4000000 in
theorem tr_X7_isPlace_0 (d : Nat) (I : Nat → Int32) (F : Nat → Nat → Int32) (sd : Int64) (q : Int32) : pm_EV (pm_run mt (d + 0)) (some .boolean) oX7_isPlace (0, [some (.int q)], [], (hX I F sd)) = (if q < 0 then some (some (.int 0), (hX I F sd)) else (if q < 10 then some (some (.int 1), (hX I F sd)) else some (some (.int 0), (hX I F sd)))) := by
  refine Eq.trans (pm_EV_at 1 (d := (1, [some (.int q)], [.int q], (hX I F sd))) (x := if q < 0 then .inl (7, [some (.int q)], [], (hX I F sd)) else .inl (2, [some (.int q)], [], (hX I F sd))) rfl rfl) ?_
  refine pm_rc (fun p1 => ?_) (fun p1 => ?_)
  · show pm_EV (pm_run mt (d + 0)) (some .boolean) oX7_isPlace (7, [some (.int q)], [], (hX I F sd)) = _
    exact pm_EV_at 1 (d := (8, [some (.int q)], [.int 0], (hX I F sd))) rfl rfl
  · show pm_EV (pm_run mt (d + 0)) (some .boolean) oX7_isPlace (2, [some (.int q)], [], (hX I F sd)) = _
    refine Eq.trans (pm_EV_at 2 (d := (4, [some (.int q)], [.int 10, .int q], (hX I F sd))) (x := if q < 10 then .inl (5, [some (.int q)], [], (hX I F sd)) else .inl (7, [some (.int q)], [], (hX I F sd))) rfl rfl) ?_
    refine pm_rc (fun p2 => ?_) (fun p2 => ?_)
    · show pm_EV (pm_run mt (d + 0)) (some .boolean) oX7_isPlace (5, [some (.int q)], [], (hX I F sd)) = _
      exact pm_EV_at 2 (d := (8, [some (.int q)], [.int 1], (hX I F sd))) rfl rfl
    · show pm_EV (pm_run mt (d + 0)) (some .boolean) oX7_isPlace (7, [some (.int q)], [], (hX I F sd)) = _
      exact pm_EV_at 1 (d := (8, [some (.int q)], [.int 0], (hX I F sd))) rfl rfl
set_option maxRecDepth 100000 in
set_option maxHeartbeats 4000000 in
theorem en_X7_isPlace (d : Nat) (I : Nat → Int32) (F : Nat → Nat → Int32) (sd : Int64) (q : Int32) : pm_run mt (d + 1) 102 [.int q] (hX I F sd) = pm_EV (pm_run mt (d + 0)) (some .boolean) oX7_isPlace (0, [some (.int q)], [], (hX I F sd)) := rfl
set_option maxRecDepth 100000 in
set_option maxHeartbeats 4000000 in
theorem sp_X7_isPlace (d : Nat) (I : Nat → Int32) (F : Nat → Nat → Int32) (sd : Int64) (q : Int32) : pm_run mt (d + 1) 102 [.int q] (hX I F sd) = some (some (.int (bI (inr q 10))), (hX I F sd)) := by
  rw [en_X7_isPlace, tr_X7_isPlace_0]
  unfold inr bI
  by_cases e1 : q < 0
  · simp [e1]
  · by_cases e2 : q < 10 <;> simp [e1, e2]
set_option maxRecDepth 100000 in
set_option maxHeartbeats 4000000 in
theorem tr_X7_has_0 (d : Nat) (I : Nat → Int32) (F : Nat → Nat → Int32) (sd : Int64) (b : Int32) (q : Int32) : pm_EV (pm_run mt (d + 1)) (some .boolean) oX7_has (0, [some (.int b), some (.int q)], [], (hX I F sd)) = (if (bI (inr q 10)) = 0 then some (some (.int 0), (hX I F sd)) else (if ((b >>> (q &&& 31)) &&& 1) = 0 then some (some (.int 0), (hX I F sd)) else some (some (.int 1), (hX I F sd)))) := by
  refine Eq.trans (b := pm_EV (pm_run mt (d + 1)) (some .boolean) oX7_has (2, [some (.int b), some (.int q)], [.int (bI (inr q 10))], (hX I F sd))) (pm_EV_cl 1 (call := pm_run mt (d + 1)) (d := (1, [some (.int b), some (.int q)], [.int q], (hX I F sd))) (a := 102) (as := [.int q]) (hp := (hX I F sd)) (hp2 := (hX I F sd)) (i2 := 2) (ls := [some (.int b), some (.int q)]) (rest := []) (r := some (.int (bI (inr q 10)))) rfl rfl (sp_X7_isPlace (d + 0) I F sd q )) ?_
  refine Eq.trans (pm_EV_at 0 (d := (2, [some (.int b), some (.int q)], [.int (bI (inr q 10))], (hX I F sd))) (x := if (bI (inr q 10)) = 0 then .inl (11, [some (.int b), some (.int q)], [], (hX I F sd)) else .inl (3, [some (.int b), some (.int q)], [], (hX I F sd))) rfl rfl) ?_
  refine pm_rc (fun p1 => ?_) (fun p1 => ?_)
  · show pm_EV (pm_run mt (d + 1)) (some .boolean) oX7_has (11, [some (.int b), some (.int q)], [], (hX I F sd)) = _
    exact pm_EV_at 1 (d := (12, [some (.int b), some (.int q)], [.int 0], (hX I F sd))) rfl rfl
  · show pm_EV (pm_run mt (d + 1)) (some .boolean) oX7_has (3, [some (.int b), some (.int q)], [], (hX I F sd)) = _
    refine Eq.trans (pm_EV_at 5 (d := (8, [some (.int b), some (.int q)], [.int ((b >>> (q &&& 31)) &&& 1)], (hX I F sd))) (x := if ((b >>> (q &&& 31)) &&& 1) = 0 then .inl (11, [some (.int b), some (.int q)], [], (hX I F sd)) else .inl (9, [some (.int b), some (.int q)], [], (hX I F sd))) rfl rfl) ?_
    refine pm_rc (fun p2 => ?_) (fun p2 => ?_)
    · show pm_EV (pm_run mt (d + 1)) (some .boolean) oX7_has (11, [some (.int b), some (.int q)], [], (hX I F sd)) = _
      exact pm_EV_at 1 (d := (12, [some (.int b), some (.int q)], [.int 0], (hX I F sd))) rfl rfl
    · show pm_EV (pm_run mt (d + 1)) (some .boolean) oX7_has (9, [some (.int b), some (.int q)], [], (hX I F sd)) = _
      exact pm_EV_at 2 (d := (12, [some (.int b), some (.int q)], [.int 1], (hX I F sd))) rfl rfl
set_option maxRecDepth 100000 in
set_option maxHeartbeats 4000000 in
theorem en_X7_has (d : Nat) (I : Nat → Int32) (F : Nat → Nat → Int32) (sd : Int64) (b : Int32) (q : Int32) : pm_run mt (d + 2) 103 [.int b, .int q] (hX I F sd) = pm_EV (pm_run mt (d + 1)) (some .boolean) oX7_has (0, [some (.int b), some (.int q)], [], (hX I F sd)) := rfl
set_option maxRecDepth 100000 in
set_option maxHeartbeats 4000000 in
theorem sp_X7_has (d : Nat) (I : Nat → Int32) (F : Nat → Nat → Int32) (sd : Int64) (b : Int32) (q : Int32) : pm_run mt (d + 2) 103 [.int b, .int q] (hX I F sd) = some (some (.int (bI (xhas b q))), (hX I F sd)) := by
  rw [en_X7_has, tr_X7_has_0]
  simp only [bI_0]
  unfold xhas
  cases e1 : inr q 10
  · rw [if_pos rfl]; rfl
  · rw [if_neg (by decide)]
    by_cases e2 : b >>> (q &&& 31) &&& 1 = 0
    · rw [if_pos e2]; simp [e2, bI]
    · rw [if_neg e2]; simp [e2, bI]
set_option maxRecDepth 100000 in
set_option maxHeartbeats 4000000 in
theorem tr_X0_cell_3_0 (d : Nat) (I : Nat → Int32) (F : Nat → Nat → Int32) (sd : Int64) (q : Int32) (g1 : (¬ (q < 0)) → (q < 28) → pm_in q 28 = true) : pm_EV (pm_run mt (d + 0)) (some .int) oX0_cell (0, [some (.ref 3), some (.int q)], [], (hX I F sd)) = (if q < 0 then some (some (.int 0), (hX I F sd)) else (if q < 28 then some (some (.int ((F 4) q.toNatClampNeg)), (hX I F sd)) else some (some (.int 0), (hX I F sd)))) := by
  refine Eq.trans (pm_EV_at 1 (d := (1, [some (.ref 3), some (.int q)], [.int q], (hX I F sd))) (x := if q < 0 then .inl (10, [some (.ref 3), some (.int q)], [], (hX I F sd)) else .inl (2, [some (.ref 3), some (.int q)], [], (hX I F sd))) rfl rfl) ?_
  refine pm_rc (fun p1 => ?_) (fun p1 => ?_)
  · show pm_EV (pm_run mt (d + 0)) (some .int) oX0_cell (10, [some (.ref 3), some (.int q)], [], (hX I F sd)) = _
    exact pm_EV_at 1 (d := (11, [some (.ref 3), some (.int q)], [.int 0], (hX I F sd))) rfl rfl
  · show pm_EV (pm_run mt (d + 0)) (some .int) oX0_cell (2, [some (.ref 3), some (.int q)], [], (hX I F sd)) = _
    refine Eq.trans (pm_EV_at 2 (d := (4, [some (.ref 3), some (.int q)], [.int 28, .int q], (hX I F sd))) (x := if q < 28 then .inl (5, [some (.ref 3), some (.int q)], [], (hX I F sd)) else .inl (10, [some (.ref 3), some (.int q)], [], (hX I F sd))) rfl rfl) ?_
    refine pm_rc (fun p2 => ?_) (fun p2 => ?_)
    · show pm_EV (pm_run mt (d + 0)) (some .int) oX0_cell (5, [some (.ref 3), some (.int q)], [], (hX I F sd)) = _
      refine Eq.trans (b := pm_EV (pm_run mt (d + 0)) (some .int) oX0_cell (9, [some (.ref 3), some (.int q)], [.int ((F 4) q.toNatClampNeg)], (hX I F sd))) (pm_EV_gd 3 (d := (8, [some (.ref 3), some (.int q)], [.int q, .ref 4], (hX I F sd))) (c1 := (9, [some (.ref 3), some (.int q)], [.int ((F 4) q.toNatClampNeg)], (hX I F sd))) rfl rfl (⟨rfl, g1 p1 p2⟩)) ?_
      exact pm_EV_at 1 (d := (11, [some (.ref 3), some (.int q)], [.int ((F 4) q.toNatClampNeg)], (hX I F sd))) rfl rfl
    · show pm_EV (pm_run mt (d + 0)) (some .int) oX0_cell (10, [some (.ref 3), some (.int q)], [], (hX I F sd)) = _
      exact pm_EV_at 1 (d := (11, [some (.ref 3), some (.int q)], [.int 0], (hX I F sd))) rfl rfl
set_option maxRecDepth 100000 in
set_option maxHeartbeats 4000000 in
theorem en_X0_cell_3 (d : Nat) (I : Nat → Int32) (F : Nat → Nat → Int32) (sd : Int64) (q : Int32) : pm_run mt (d + 1) 0 [.ref 3, .int q] (hX I F sd) = pm_EV (pm_run mt (d + 0)) (some .int) oX0_cell (0, [some (.ref 3), some (.int q)], [], (hX I F sd)) := rfl
set_option maxRecDepth 100000 in
set_option maxHeartbeats 4000000 in
theorem sp_X0_cell_3 (d : Nat) (I : Nat → Int32) (F : Nat → Nat → Int32) (sd : Int64) (q : Int32) : pm_run mt (d + 1) 0 [.ref 3, .int q] (hX I F sd) = some (some (.int (hcell (F 4) q)), (hX I F sd)) := by
  rw [en_X0_cell_3, tr_X0_cell_3_0 _ _ _ _ _ (fun a b => pm_in_lt rfl (by decide) a b)]
  unfold hcell
  by_cases e1 : q < 0
  · simp only [e1, if_true]
  · by_cases e2 : q < 28 <;> simp only [e1, e2, if_true, if_false]
set_option maxRecDepth 100000 in
set_option maxHeartbeats 4000000 in
theorem tr_X0_set_3_0 (d : Nat) (I : Nat → Int32) (F : Nat → Nat → Int32) (sd : Int64) (q : Int32) (v : Int32) (g1 : (¬ (q < 0)) → (q < 28) → pm_in q 28 = true) : pm_EV (pm_run mt (d + 0)) none oX0_set (0, [some (.ref 3), some (.int q), some (.int v)], [], (hX I F sd)) = (if q < 0 then some (none, (hX I F sd)) else (if q < 28 then some (none, (hX I (uF F 4 (upd (F 4) q.toNatClampNeg v)) sd)) else some (none, (hX I F sd)))) := by
  refine Eq.trans (pm_EV_at 1 (d := (1, [some (.ref 3), some (.int q), some (.int v)], [.int q], (hX I F sd))) (x := if q < 0 then .inl (10, [some (.ref 3), some (.int q), some (.int v)], [], (hX I F sd)) else .inl (2, [some (.ref 3), some (.int q), some (.int v)], [], (hX I F sd))) rfl rfl) ?_
  refine pm_rc (fun p1 => ?_) (fun p1 => ?_)
  · show pm_EV (pm_run mt (d + 0)) none oX0_set (10, [some (.ref 3), some (.int q), some (.int v)], [], (hX I F sd)) = _
    exact pm_EV_at 0 (d := (10, [some (.ref 3), some (.int q), some (.int v)], [], (hX I F sd))) rfl rfl
  · show pm_EV (pm_run mt (d + 0)) none oX0_set (2, [some (.ref 3), some (.int q), some (.int v)], [], (hX I F sd)) = _
    refine Eq.trans (pm_EV_at 2 (d := (4, [some (.ref 3), some (.int q), some (.int v)], [.int 28, .int q], (hX I F sd))) (x := if q < 28 then .inl (5, [some (.ref 3), some (.int q), some (.int v)], [], (hX I F sd)) else .inl (10, [some (.ref 3), some (.int q), some (.int v)], [], (hX I F sd))) rfl rfl) ?_
    refine pm_rc (fun p2 => ?_) (fun p2 => ?_)
    · show pm_EV (pm_run mt (d + 0)) none oX0_set (5, [some (.ref 3), some (.int q), some (.int v)], [], (hX I F sd)) = _
      refine Eq.trans (b := pm_EV (pm_run mt (d + 0)) none oX0_set (10, [some (.ref 3), some (.int q), some (.int v)], [], (hX I (uF F 4 (upd (F 4) q.toNatClampNeg v)) sd))) (pm_EV_gd 4 (d := (9, [some (.ref 3), some (.int q), some (.int v)], [.int v, .int q, .ref 4], (hX I F sd))) (c1 := (10, [some (.ref 3), some (.int q), some (.int v)], [], (hX I (uF F 4 (upd (F 4) q.toNatClampNeg v)) sd))) rfl rfl (⟨rfl, g1 p1 p2⟩)) ?_
      exact pm_EV_at 0 (d := (10, [some (.ref 3), some (.int q), some (.int v)], [], (hX I (uF F 4 (upd (F 4) q.toNatClampNeg v)) sd))) rfl rfl
    · show pm_EV (pm_run mt (d + 0)) none oX0_set (10, [some (.ref 3), some (.int q), some (.int v)], [], (hX I F sd)) = _
      exact pm_EV_at 0 (d := (10, [some (.ref 3), some (.int q), some (.int v)], [], (hX I F sd))) rfl rfl
set_option maxRecDepth 100000 in
set_option maxHeartbeats 4000000 in
theorem en_X0_set_3 (d : Nat) (I : Nat → Int32) (F : Nat → Nat → Int32) (sd : Int64) (q : Int32) (v : Int32) : pm_run mt (d + 1) 1 [.ref 3, .int q, .int v] (hX I F sd) = pm_EV (pm_run mt (d + 0)) none oX0_set (0, [some (.ref 3), some (.int q), some (.int v)], [], (hX I F sd)) := rfl
set_option maxRecDepth 100000 in
set_option maxHeartbeats 4000000 in
theorem sp_X0_set_3 (d : Nat) (I : Nat → Int32) (F : Nat → Nat → Int32) (sd : Int64) (q : Int32) (v : Int32) : pm_run mt (d + 1) 1 [.ref 3, .int q, .int v] (hX I F sd) = some (none, (hX I (uF F 4 (hset (F 4) q v)) sd)) := by
  rw [en_X0_set_3, tr_X0_set_3_0 _ _ _ _ _ _ (fun a b => pm_in_lt rfl (by decide) a b)]
  unfold hset
  by_cases e1 : q < 0
  · simp only [e1, if_true]
    rfl
  · by_cases e2 : q < 28 <;> simp only [e1, e2, if_true, if_false] <;> rfl
set_option maxRecDepth 100000 in
set_option maxHeartbeats 4000000 in
theorem tr_X0_add_3_0 (d : Nat) (I : Nat → Int32) (F : Nat → Nat → Int32) (sd : Int64) (q : Int32) (v : Int32) : pm_EV (pm_run mt (d + 1)) none oX0_add (0, [some (.ref 3), some (.int q), some (.int v)], [], (hX I F sd)) = some (none, (hX I (uF F 4 (hset ((F 4)) q ((hcell ((F 4)) q) + v))) sd)) := by
  refine Eq.trans (b := pm_EV (pm_run mt (d + 1)) none oX0_add (5, [some (.ref 3), some (.int q), some (.int v)], [.int (hcell ((F 4)) q), .int q, .ref 3], (hX I F sd))) (pm_EV_cl 4 (call := pm_run mt (d + 1)) (d := (4, [some (.ref 3), some (.int q), some (.int v)], [.int q, .ref 3, .int q, .ref 3], (hX I F sd))) (a := 0) (as := [.ref 3, .int q]) (hp := (hX I F sd)) (hp2 := (hX I F sd)) (i2 := 5) (ls := [some (.ref 3), some (.int q), some (.int v)]) (rest := [.int q, .ref 3]) (r := some (.int (hcell ((F 4)) q))) rfl rfl (sp_X0_cell_3 (d + 0) I F sd q )) ?_
  refine Eq.trans (b := pm_EV (pm_run mt (d + 1)) none oX0_add (8, [some (.ref 3), some (.int q), some (.int v)], [], (hX I (uF F 4 (hset ((F 4)) q ((hcell ((F 4)) q) + v))) sd))) (pm_EV_cl 2 (call := pm_run mt (d + 1)) (d := (7, [some (.ref 3), some (.int q), some (.int v)], [.int ((hcell ((F 4)) q) + v), .int q, .ref 3], (hX I F sd))) (a := 1) (as := [.ref 3, .int q, .int ((hcell ((F 4)) q) + v)]) (hp := (hX I F sd)) (hp2 := (hX I (uF F 4 (hset ((F 4)) q ((hcell ((F 4)) q) + v))) sd)) (i2 := 8) (ls := [some (.ref 3), some (.int q), some (.int v)]) (rest := []) (r := none) rfl rfl (sp_X0_set_3 (d + 0) I F sd q ((hcell ((F 4)) q) + v) )) ?_
  exact pm_EV_at 0 (d := (8, [some (.ref 3), some (.int q), some (.int v)], [], (hX I (uF F 4 (hset ((F 4)) q ((hcell ((F 4)) q) + v))) sd))) rfl rfl
set_option maxRecDepth 100000 in
set_option maxHeartbeats 4000000 in
theorem en_X0_add_3 (d : Nat) (I : Nat → Int32) (F : Nat → Nat → Int32) (sd : Int64) (q : Int32) (v : Int32) : pm_run mt (d + 2) 2 [.ref 3, .int q, .int v] (hX I F sd) = pm_EV (pm_run mt (d + 1)) none oX0_add (0, [some (.ref 3), some (.int q), some (.int v)], [], (hX I F sd)) := rfl
set_option maxRecDepth 100000 in
set_option maxHeartbeats 4000000 in
theorem sp_X0_add_3 (d : Nat) (I : Nat → Int32) (F : Nat → Nat → Int32) (sd : Int64) (q : Int32) (v : Int32) : pm_run mt (d + 2) 2 [.ref 3, .int q, .int v] (hX I F sd) = some (none, (hX I (uF F 4 (hset (F 4) q (hcell (F 4) q + v))) sd)) := by
  rw [en_X0_add_3, tr_X0_add_3_0]
set_option maxRecDepth 100000 in
set_option maxHeartbeats 4000000 in
theorem tr_X0_foods_3_0 (d : Nat) (I : Nat → Int32) (F : Nat → Nat → Int32) (sd : Int64) : pm_EV (pm_run mt (d + 0)) (some .int) oX0_foods (0, [some (.ref 3)], [], (hX I F sd)) = some (some (.int ((F 4) 21)), (hX I F sd)) := by
  exact pm_EV_at 4 (d := (4, [some (.ref 3)], [.int ((F 4) 21)], (hX I F sd))) rfl rfl
set_option maxRecDepth 100000 in
set_option maxHeartbeats 4000000 in
theorem en_X0_foods_3 (d : Nat) (I : Nat → Int32) (F : Nat → Nat → Int32) (sd : Int64) : pm_run mt (d + 1) 7 [.ref 3] (hX I F sd) = pm_EV (pm_run mt (d + 0)) (some .int) oX0_foods (0, [some (.ref 3)], [], (hX I F sd)) := rfl
set_option maxRecDepth 100000 in
set_option maxHeartbeats 4000000 in
theorem sp_X0_foods_3 (d : Nat) (I : Nat → Int32) (F : Nat → Nat → Int32) (sd : Int64) : pm_run mt (d + 1) 7 [.ref 3] (hX I F sd) = some (some (.int (F 4 21)), (hX I F sd)) := by
  rw [en_X0_foods_3, tr_X0_foods_3_0]
set_option maxRecDepth 100000 in
set_option maxHeartbeats 4000000 in
theorem tr_X0_things_3_0 (d : Nat) (I : Nat → Int32) (F : Nat → Nat → Int32) (sd : Int64) : pm_EV (pm_run mt (d + 0)) (some .int) oX0_things (0, [some (.ref 3)], [], (hX I F sd)) = some (some (.int ((F 4) 22)), (hX I F sd)) := by
  exact pm_EV_at 4 (d := (4, [some (.ref 3)], [.int ((F 4) 22)], (hX I F sd))) rfl rfl
set_option maxRecDepth 100000 in
set_option maxHeartbeats 4000000 in
theorem en_X0_things_3 (d : Nat) (I : Nat → Int32) (F : Nat → Nat → Int32) (sd : Int64) : pm_run mt (d + 1) 8 [.ref 3] (hX I F sd) = pm_EV (pm_run mt (d + 0)) (some .int) oX0_things (0, [some (.ref 3)], [], (hX I F sd)) := rfl
set_option maxRecDepth 100000 in
set_option maxHeartbeats 4000000 in
theorem sp_X0_things_3 (d : Nat) (I : Nat → Int32) (F : Nat → Nat → Int32) (sd : Int64) : pm_run mt (d + 1) 8 [.ref 3] (hX I F sd) = some (some (.int (F 4 22)), (hX I F sd)) := by
  rw [en_X0_things_3, tr_X0_things_3_0]
set_option maxRecDepth 100000 in
set_option maxHeartbeats 4000000 in
theorem tr_X0_skirting_3_0 (d : Nat) (I : Nat → Int32) (F : Nat → Nat → Int32) (sd : Int64) : pm_EV (pm_run mt (d + 0)) (some .int) oX0_skirting (0, [some (.ref 3)], [], (hX I F sd)) = some (some (.int ((F 4) 23)), (hX I F sd)) := by
  exact pm_EV_at 4 (d := (4, [some (.ref 3)], [.int ((F 4) 23)], (hX I F sd))) rfl rfl
set_option maxRecDepth 100000 in
set_option maxHeartbeats 4000000 in
theorem en_X0_skirting_3 (d : Nat) (I : Nat → Int32) (F : Nat → Nat → Int32) (sd : Int64) : pm_run mt (d + 1) 9 [.ref 3] (hX I F sd) = pm_EV (pm_run mt (d + 0)) (some .int) oX0_skirting (0, [some (.ref 3)], [], (hX I F sd)) := rfl
set_option maxRecDepth 100000 in
set_option maxHeartbeats 4000000 in
theorem sp_X0_skirting_3 (d : Nat) (I : Nat → Int32) (F : Nat → Nat → Int32) (sd : Int64) : pm_run mt (d + 1) 9 [.ref 3] (hX I F sd) = some (some (.int (F 4 23)), (hX I F sd)) := by
  rw [en_X0_skirting_3, tr_X0_skirting_3_0]
set_option maxRecDepth 100000 in
set_option maxHeartbeats 4000000 in
theorem tr_X0_goodwill_3_0 (d : Nat) (I : Nat → Int32) (F : Nat → Nat → Int32) (sd : Int64) : pm_EV (pm_run mt (d + 0)) (some .int) oX0_goodwill (0, [some (.ref 3)], [], (hX I F sd)) = some (some (.int ((F 4) 24)), (hX I F sd)) := by
  exact pm_EV_at 4 (d := (4, [some (.ref 3)], [.int ((F 4) 24)], (hX I F sd))) rfl rfl
set_option maxRecDepth 100000 in
set_option maxHeartbeats 4000000 in
theorem en_X0_goodwill_3 (d : Nat) (I : Nat → Int32) (F : Nat → Nat → Int32) (sd : Int64) : pm_run mt (d + 1) 10 [.ref 3] (hX I F sd) = pm_EV (pm_run mt (d + 0)) (some .int) oX0_goodwill (0, [some (.ref 3)], [], (hX I F sd)) := rfl
set_option maxRecDepth 100000 in
set_option maxHeartbeats 4000000 in
theorem sp_X0_goodwill_3 (d : Nat) (I : Nat → Int32) (F : Nat → Nat → Int32) (sd : Int64) : pm_run mt (d + 1) 10 [.ref 3] (hX I F sd) = some (some (.int (F 4 24)), (hX I F sd)) := by
  rw [en_X0_goodwill_3, tr_X0_goodwill_3_0]
set_option maxRecDepth 100000 in
set_option maxHeartbeats 4000000 in
theorem tr_X0_pins_3_0 (d : Nat) (I : Nat → Int32) (F : Nat → Nat → Int32) (sd : Int64) : pm_EV (pm_run mt (d + 0)) (some .int) oX0_pins (0, [some (.ref 3)], [], (hX I F sd)) = some (some (.int ((F 4) 25)), (hX I F sd)) := by
  exact pm_EV_at 4 (d := (4, [some (.ref 3)], [.int ((F 4) 25)], (hX I F sd))) rfl rfl
set_option maxRecDepth 100000 in
set_option maxHeartbeats 4000000 in
theorem en_X0_pins_3 (d : Nat) (I : Nat → Int32) (F : Nat → Nat → Int32) (sd : Int64) : pm_run mt (d + 1) 11 [.ref 3] (hX I F sd) = pm_EV (pm_run mt (d + 0)) (some .int) oX0_pins (0, [some (.ref 3)], [], (hX I F sd)) := rfl
set_option maxRecDepth 100000 in
set_option maxHeartbeats 4000000 in
theorem sp_X0_pins_3 (d : Nat) (I : Nat → Int32) (F : Nat → Nat → Int32) (sd : Int64) : pm_run mt (d + 1) 11 [.ref 3] (hX I F sd) = some (some (.int (F 4 25)), (hX I F sd)) := by
  rw [en_X0_pins_3, tr_X0_pins_3_0]
set_option maxRecDepth 100000 in
set_option maxHeartbeats 4000000 in
theorem tr_X0_powder_3_0 (d : Nat) (I : Nat → Int32) (F : Nat → Nat → Int32) (sd : Int64) : pm_EV (pm_run mt (d + 0)) (some .int) oX0_powder (0, [some (.ref 3)], [], (hX I F sd)) = some (some (.int ((F 4) 26)), (hX I F sd)) := by
  exact pm_EV_at 4 (d := (4, [some (.ref 3)], [.int ((F 4) 26)], (hX I F sd))) rfl rfl
set_option maxRecDepth 100000 in
set_option maxHeartbeats 4000000 in
theorem en_X0_powder_3 (d : Nat) (I : Nat → Int32) (F : Nat → Nat → Int32) (sd : Int64) : pm_run mt (d + 1) 12 [.ref 3] (hX I F sd) = pm_EV (pm_run mt (d + 0)) (some .int) oX0_powder (0, [some (.ref 3)], [], (hX I F sd)) := rfl
set_option maxRecDepth 100000 in
set_option maxHeartbeats 4000000 in
theorem sp_X0_powder_3 (d : Nat) (I : Nat → Int32) (F : Nat → Nat → Int32) (sd : Int64) : pm_run mt (d + 1) 12 [.ref 3] (hX I F sd) = some (some (.int (F 4 26)), (hX I F sd)) := by
  rw [en_X0_powder_3, tr_X0_powder_3_0]
set_option maxRecDepth 100000 in
set_option maxHeartbeats 4000000 in
theorem tr_X0_quartersGone_3_0 (d : Nat) (I : Nat → Int32) (F : Nat → Nat → Int32) (sd : Int64) : pm_EV (pm_run mt (d + 0)) (some .int) oX0_quartersGone (0, [some (.ref 3)], [], (hX I F sd)) = some (some (.int ((F 4) 27)), (hX I F sd)) := by
  exact pm_EV_at 4 (d := (4, [some (.ref 3)], [.int ((F 4) 27)], (hX I F sd))) rfl rfl
set_option maxRecDepth 100000 in
set_option maxHeartbeats 4000000 in
theorem en_X0_quartersGone_3 (d : Nat) (I : Nat → Int32) (F : Nat → Nat → Int32) (sd : Int64) : pm_run mt (d + 1) 13 [.ref 3] (hX I F sd) = pm_EV (pm_run mt (d + 0)) (some .int) oX0_quartersGone (0, [some (.ref 3)], [], (hX I F sd)) := rfl
set_option maxRecDepth 100000 in
set_option maxHeartbeats 4000000 in
theorem sp_X0_quartersGone_3 (d : Nat) (I : Nat → Int32) (F : Nat → Nat → Int32) (sd : Int64) : pm_run mt (d + 1) 13 [.ref 3] (hX I F sd) = some (some (.int (F 4 27)), (hX I F sd)) := by
  rw [en_X0_quartersGone_3, tr_X0_quartersGone_3_0]
set_option maxRecDepth 100000 in
set_option maxHeartbeats 4000000 in
theorem tr_X0_hasFood_3_0 (d : Nat) (I : Nat → Int32) (F : Nat → Nat → Int32) (sd : Int64) (q : Int32) : pm_EV (pm_run mt (d + 1)) (some .boolean) oX0_hasFood (0, [some (.ref 3), some (.int q)], [], (hX I F sd)) = (if q < 0 then some (some (.int 0), (hX I F sd)) else (if q < ((F 4) 21) then some (some (.int 1), (hX I F sd)) else some (some (.int 0), (hX I F sd)))) := by
  refine Eq.trans (pm_EV_at 1 (d := (1, [some (.ref 3), some (.int q)], [.int q], (hX I F sd))) (x := if q < 0 then .inl (8, [some (.ref 3), some (.int q)], [], (hX I F sd)) else .inl (2, [some (.ref 3), some (.int q)], [], (hX I F sd))) rfl rfl) ?_
  refine pm_rc (fun p1 => ?_) (fun p1 => ?_)
  · show pm_EV (pm_run mt (d + 1)) (some .boolean) oX0_hasFood (8, [some (.ref 3), some (.int q)], [], (hX I F sd)) = _
    exact pm_EV_at 1 (d := (9, [some (.ref 3), some (.int q)], [.int 0], (hX I F sd))) rfl rfl
  · show pm_EV (pm_run mt (d + 1)) (some .boolean) oX0_hasFood (2, [some (.ref 3), some (.int q)], [], (hX I F sd)) = _
    refine Eq.trans (b := pm_EV (pm_run mt (d + 1)) (some .boolean) oX0_hasFood (5, [some (.ref 3), some (.int q)], [.int ((F 4) 21), .int q], (hX I F sd))) (pm_EV_cl 2 (call := pm_run mt (d + 1)) (d := (4, [some (.ref 3), some (.int q)], [.ref 3, .int q], (hX I F sd))) (a := 7) (as := [.ref 3]) (hp := (hX I F sd)) (hp2 := (hX I F sd)) (i2 := 5) (ls := [some (.ref 3), some (.int q)]) (rest := [.int q]) (r := some (.int ((F 4) 21))) rfl rfl (sp_X0_foods_3 (d + 0) I F sd  )) ?_
    refine Eq.trans (pm_EV_at 0 (d := (5, [some (.ref 3), some (.int q)], [.int ((F 4) 21), .int q], (hX I F sd))) (x := if q < ((F 4) 21) then .inl (6, [some (.ref 3), some (.int q)], [], (hX I F sd)) else .inl (8, [some (.ref 3), some (.int q)], [], (hX I F sd))) rfl rfl) ?_
    refine pm_rc (fun p2 => ?_) (fun p2 => ?_)
    · show pm_EV (pm_run mt (d + 1)) (some .boolean) oX0_hasFood (6, [some (.ref 3), some (.int q)], [], (hX I F sd)) = _
      exact pm_EV_at 2 (d := (9, [some (.ref 3), some (.int q)], [.int 1], (hX I F sd))) rfl rfl
    · show pm_EV (pm_run mt (d + 1)) (some .boolean) oX0_hasFood (8, [some (.ref 3), some (.int q)], [], (hX I F sd)) = _
      exact pm_EV_at 1 (d := (9, [some (.ref 3), some (.int q)], [.int 0], (hX I F sd))) rfl rfl
set_option maxRecDepth 100000 in
set_option maxHeartbeats 4000000 in
theorem en_X0_hasFood_3 (d : Nat) (I : Nat → Int32) (F : Nat → Nat → Int32) (sd : Int64) (q : Int32) : pm_run mt (d + 2) 14 [.ref 3, .int q] (hX I F sd) = pm_EV (pm_run mt (d + 1)) (some .boolean) oX0_hasFood (0, [some (.ref 3), some (.int q)], [], (hX I F sd)) := rfl
set_option maxRecDepth 100000 in
set_option maxHeartbeats 4000000 in
theorem sp_X0_hasFood_3 (d : Nat) (I : Nat → Int32) (F : Nat → Nat → Int32) (sd : Int64) (q : Int32) : pm_run mt (d + 2) 14 [.ref 3, .int q] (hX I F sd) = some (some (.int (bI (inr q (F 4 21)))), (hX I F sd)) := by
  rw [en_X0_hasFood_3, tr_X0_hasFood_3_0]
  unfold inr bI
  by_cases e1 : q < 0
  · simp [e1]
  · by_cases e2 : q < F 4 21 <;> simp [e1, e2]
set_option maxRecDepth 100000 in
set_option maxHeartbeats 4000000 in
theorem tr_X0_hasThing_3_0 (d : Nat) (I : Nat → Int32) (F : Nat → Nat → Int32) (sd : Int64) (q : Int32) : pm_EV (pm_run mt (d + 1)) (some .boolean) oX0_hasThing (0, [some (.ref 3), some (.int q)], [], (hX I F sd)) = (if q < 0 then some (some (.int 0), (hX I F sd)) else (if q < ((F 4) 22) then some (some (.int 1), (hX I F sd)) else some (some (.int 0), (hX I F sd)))) := by
  refine Eq.trans (pm_EV_at 1 (d := (1, [some (.ref 3), some (.int q)], [.int q], (hX I F sd))) (x := if q < 0 then .inl (8, [some (.ref 3), some (.int q)], [], (hX I F sd)) else .inl (2, [some (.ref 3), some (.int q)], [], (hX I F sd))) rfl rfl) ?_
  refine pm_rc (fun p1 => ?_) (fun p1 => ?_)
  · show pm_EV (pm_run mt (d + 1)) (some .boolean) oX0_hasThing (8, [some (.ref 3), some (.int q)], [], (hX I F sd)) = _
    exact pm_EV_at 1 (d := (9, [some (.ref 3), some (.int q)], [.int 0], (hX I F sd))) rfl rfl
  · show pm_EV (pm_run mt (d + 1)) (some .boolean) oX0_hasThing (2, [some (.ref 3), some (.int q)], [], (hX I F sd)) = _
    refine Eq.trans (b := pm_EV (pm_run mt (d + 1)) (some .boolean) oX0_hasThing (5, [some (.ref 3), some (.int q)], [.int ((F 4) 22), .int q], (hX I F sd))) (pm_EV_cl 2 (call := pm_run mt (d + 1)) (d := (4, [some (.ref 3), some (.int q)], [.ref 3, .int q], (hX I F sd))) (a := 8) (as := [.ref 3]) (hp := (hX I F sd)) (hp2 := (hX I F sd)) (i2 := 5) (ls := [some (.ref 3), some (.int q)]) (rest := [.int q]) (r := some (.int ((F 4) 22))) rfl rfl (sp_X0_things_3 (d + 0) I F sd  )) ?_
    refine Eq.trans (pm_EV_at 0 (d := (5, [some (.ref 3), some (.int q)], [.int ((F 4) 22), .int q], (hX I F sd))) (x := if q < ((F 4) 22) then .inl (6, [some (.ref 3), some (.int q)], [], (hX I F sd)) else .inl (8, [some (.ref 3), some (.int q)], [], (hX I F sd))) rfl rfl) ?_
    refine pm_rc (fun p2 => ?_) (fun p2 => ?_)
    · show pm_EV (pm_run mt (d + 1)) (some .boolean) oX0_hasThing (6, [some (.ref 3), some (.int q)], [], (hX I F sd)) = _
      exact pm_EV_at 2 (d := (9, [some (.ref 3), some (.int q)], [.int 1], (hX I F sd))) rfl rfl
    · show pm_EV (pm_run mt (d + 1)) (some .boolean) oX0_hasThing (8, [some (.ref 3), some (.int q)], [], (hX I F sd)) = _
      exact pm_EV_at 1 (d := (9, [some (.ref 3), some (.int q)], [.int 0], (hX I F sd))) rfl rfl
set_option maxRecDepth 100000 in
set_option maxHeartbeats 4000000 in
theorem en_X0_hasThing_3 (d : Nat) (I : Nat → Int32) (F : Nat → Nat → Int32) (sd : Int64) (q : Int32) : pm_run mt (d + 2) 15 [.ref 3, .int q] (hX I F sd) = pm_EV (pm_run mt (d + 1)) (some .boolean) oX0_hasThing (0, [some (.ref 3), some (.int q)], [], (hX I F sd)) := rfl
set_option maxRecDepth 100000 in
set_option maxHeartbeats 4000000 in
theorem sp_X0_hasThing_3 (d : Nat) (I : Nat → Int32) (F : Nat → Nat → Int32) (sd : Int64) (q : Int32) : pm_run mt (d + 2) 15 [.ref 3, .int q] (hX I F sd) = some (some (.int (bI (inr q (F 4 22)))), (hX I F sd)) := by
  rw [en_X0_hasThing_3, tr_X0_hasThing_3_0]
  unfold inr bI
  by_cases e1 : q < 0
  · simp [e1]
  · by_cases e2 : q < F 4 22 <;> simp [e1, e2]
set_option maxRecDepth 100000 in
set_option maxHeartbeats 4000000 in
theorem tr_X0_kind_3_0 (d : Nat) (I : Nat → Int32) (F : Nat → Nat → Int32) (sd : Int64) (q : Int32) : pm_EV (pm_run mt (d + 1)) (some .int) oX0_kind (0, [some (.ref 3), some (.int q)], [], (hX I F sd)) = some (some (.int (hcell ((F 4)) (0 + q))), (hX I F sd)) := by
  refine Eq.trans (b := pm_EV (pm_run mt (d + 1)) (some .int) oX0_kind (5, [some (.ref 3), some (.int q)], [.int (hcell ((F 4)) (0 + q))], (hX I F sd))) (pm_EV_cl 4 (call := pm_run mt (d + 1)) (d := (4, [some (.ref 3), some (.int q)], [.int (0 + q), .ref 3], (hX I F sd))) (a := 0) (as := [.ref 3, .int (0 + q)]) (hp := (hX I F sd)) (hp2 := (hX I F sd)) (i2 := 5) (ls := [some (.ref 3), some (.int q)]) (rest := []) (r := some (.int (hcell ((F 4)) (0 + q)))) rfl rfl (sp_X0_cell_3 (d + 0) I F sd (0 + q) )) ?_
  exact pm_EV_at 0 (d := (5, [some (.ref 3), some (.int q)], [.int (hcell ((F 4)) (0 + q))], (hX I F sd))) rfl rfl
set_option maxRecDepth 100000 in
set_option maxHeartbeats 4000000 in
theorem en_X0_kind_3 (d : Nat) (I : Nat → Int32) (F : Nat → Nat → Int32) (sd : Int64) (q : Int32) : pm_run mt (d + 2) 16 [.ref 3, .int q] (hX I F sd) = pm_EV (pm_run mt (d + 1)) (some .int) oX0_kind (0, [some (.ref 3), some (.int q)], [], (hX I F sd)) := rfl
set_option maxRecDepth 100000 in
set_option maxHeartbeats 4000000 in
theorem sp_X0_kind_3 (d : Nat) (I : Nat → Int32) (F : Nat → Nat → Int32) (sd : Int64) (q : Int32) : pm_run mt (d + 2) 16 [.ref 3, .int q] (hX I F sd) = some (some (.int (hcell (F 4) (0 + q))), (hX I F sd)) := by
  rw [en_X0_kind_3, tr_X0_kind_3_0]
set_option maxRecDepth 100000 in
set_option maxHeartbeats 4000000 in
theorem tr_X0_inLarder_3_0 (d : Nat) (I : Nat → Int32) (F : Nat → Nat → Int32) (sd : Int64) (q : Int32) : pm_EV (pm_run mt (d + 1)) (some .int) oX0_inLarder (0, [some (.ref 3), some (.int q)], [], (hX I F sd)) = some (some (.int (hcell ((F 4)) (4 + q))), (hX I F sd)) := by
  refine Eq.trans (b := pm_EV (pm_run mt (d + 1)) (some .int) oX0_inLarder (5, [some (.ref 3), some (.int q)], [.int (hcell ((F 4)) (4 + q))], (hX I F sd))) (pm_EV_cl 4 (call := pm_run mt (d + 1)) (d := (4, [some (.ref 3), some (.int q)], [.int (4 + q), .ref 3], (hX I F sd))) (a := 0) (as := [.ref 3, .int (4 + q)]) (hp := (hX I F sd)) (hp2 := (hX I F sd)) (i2 := 5) (ls := [some (.ref 3), some (.int q)]) (rest := []) (r := some (.int (hcell ((F 4)) (4 + q)))) rfl rfl (sp_X0_cell_3 (d + 0) I F sd (4 + q) )) ?_
  exact pm_EV_at 0 (d := (5, [some (.ref 3), some (.int q)], [.int (hcell ((F 4)) (4 + q))], (hX I F sd))) rfl rfl
set_option maxRecDepth 100000 in
set_option maxHeartbeats 4000000 in
theorem en_X0_inLarder_3 (d : Nat) (I : Nat → Int32) (F : Nat → Nat → Int32) (sd : Int64) (q : Int32) : pm_run mt (d + 2) 17 [.ref 3, .int q] (hX I F sd) = pm_EV (pm_run mt (d + 1)) (some .int) oX0_inLarder (0, [some (.ref 3), some (.int q)], [], (hX I F sd)) := rfl
set_option maxRecDepth 100000 in
set_option maxHeartbeats 4000000 in
theorem sp_X0_inLarder_3 (d : Nat) (I : Nat → Int32) (F : Nat → Nat → Int32) (sd : Int64) (q : Int32) : pm_run mt (d + 2) 17 [.ref 3, .int q] (hX I F sd) = some (some (.int (hcell (F 4) (4 + q))), (hX I F sd)) := by
  rw [en_X0_inLarder_3, tr_X0_inLarder_3_0]
set_option maxRecDepth 100000 in
set_option maxHeartbeats 4000000 in
theorem tr_X0_onFloor_3_0 (d : Nat) (I : Nat → Int32) (F : Nat → Nat → Int32) (sd : Int64) (q : Int32) : pm_EV (pm_run mt (d + 1)) (some .int) oX0_onFloor (0, [some (.ref 3), some (.int q)], [], (hX I F sd)) = some (some (.int (hcell ((F 4)) (8 + q))), (hX I F sd)) := by
  refine Eq.trans (b := pm_EV (pm_run mt (d + 1)) (some .int) oX0_onFloor (5, [some (.ref 3), some (.int q)], [.int (hcell ((F 4)) (8 + q))], (hX I F sd))) (pm_EV_cl 4 (call := pm_run mt (d + 1)) (d := (4, [some (.ref 3), some (.int q)], [.int (8 + q), .ref 3], (hX I F sd))) (a := 0) (as := [.ref 3, .int (8 + q)]) (hp := (hX I F sd)) (hp2 := (hX I F sd)) (i2 := 5) (ls := [some (.ref 3), some (.int q)]) (rest := []) (r := some (.int (hcell ((F 4)) (8 + q)))) rfl rfl (sp_X0_cell_3 (d + 0) I F sd (8 + q) )) ?_
  exact pm_EV_at 0 (d := (5, [some (.ref 3), some (.int q)], [.int (hcell ((F 4)) (8 + q))], (hX I F sd))) rfl rfl
set_option maxRecDepth 100000 in
set_option maxHeartbeats 4000000 in
theorem en_X0_onFloor_3 (d : Nat) (I : Nat → Int32) (F : Nat → Nat → Int32) (sd : Int64) (q : Int32) : pm_run mt (d + 2) 18 [.ref 3, .int q] (hX I F sd) = pm_EV (pm_run mt (d + 1)) (some .int) oX0_onFloor (0, [some (.ref 3), some (.int q)], [], (hX I F sd)) := rfl
set_option maxRecDepth 100000 in
set_option maxHeartbeats 4000000 in
theorem sp_X0_onFloor_3 (d : Nat) (I : Nat → Int32) (F : Nat → Nat → Int32) (sd : Int64) (q : Int32) : pm_run mt (d + 2) 18 [.ref 3, .int q] (hX I F sd) = some (some (.int (hcell (F 4) (8 + q))), (hX I F sd)) := by
  rw [en_X0_onFloor_3, tr_X0_onFloor_3_0]
set_option maxRecDepth 100000 in
set_option maxHeartbeats 4000000 in
theorem tr_X0_newlyPut_3_0 (d : Nat) (I : Nat → Int32) (F : Nat → Nat → Int32) (sd : Int64) (q : Int32) : pm_EV (pm_run mt (d + 1)) (some .int) oX0_newlyPut (0, [some (.ref 3), some (.int q)], [], (hX I F sd)) = some (some (.int (hcell ((F 4)) (12 + q))), (hX I F sd)) := by
  refine Eq.trans (b := pm_EV (pm_run mt (d + 1)) (some .int) oX0_newlyPut (5, [some (.ref 3), some (.int q)], [.int (hcell ((F 4)) (12 + q))], (hX I F sd))) (pm_EV_cl 4 (call := pm_run mt (d + 1)) (d := (4, [some (.ref 3), some (.int q)], [.int (12 + q), .ref 3], (hX I F sd))) (a := 0) (as := [.ref 3, .int (12 + q)]) (hp := (hX I F sd)) (hp2 := (hX I F sd)) (i2 := 5) (ls := [some (.ref 3), some (.int q)]) (rest := []) (r := some (.int (hcell ((F 4)) (12 + q)))) rfl rfl (sp_X0_cell_3 (d + 0) I F sd (12 + q) )) ?_
  exact pm_EV_at 0 (d := (5, [some (.ref 3), some (.int q)], [.int (hcell ((F 4)) (12 + q))], (hX I F sd))) rfl rfl
set_option maxRecDepth 100000 in
set_option maxHeartbeats 4000000 in
theorem en_X0_newlyPut_3 (d : Nat) (I : Nat → Int32) (F : Nat → Nat → Int32) (sd : Int64) (q : Int32) : pm_run mt (d + 2) 19 [.ref 3, .int q] (hX I F sd) = pm_EV (pm_run mt (d + 1)) (some .int) oX0_newlyPut (0, [some (.ref 3), some (.int q)], [], (hX I F sd)) := rfl
set_option maxRecDepth 100000 in
set_option maxHeartbeats 4000000 in
theorem sp_X0_newlyPut_3 (d : Nat) (I : Nat → Int32) (F : Nat → Nat → Int32) (sd : Int64) (q : Int32) : pm_run mt (d + 2) 19 [.ref 3, .int q] (hX I F sd) = some (some (.int (hcell (F 4) (12 + q))), (hX I F sd)) := by
  rw [en_X0_newlyPut_3, tr_X0_newlyPut_3_0]
set_option maxRecDepth 100000 in
set_option maxHeartbeats 4000000 in
theorem tr_X0_placeOf_3_0 (d : Nat) (I : Nat → Int32) (F : Nat → Nat → Int32) (sd : Int64) (q : Int32) : pm_EV (pm_run mt (d + 1)) (some .int) oX0_placeOf (0, [some (.ref 3), some (.int q)], [], (hX I F sd)) = some (some (.int (hcell ((F 4)) (16 + q))), (hX I F sd)) := by
  refine Eq.trans (b := pm_EV (pm_run mt (d + 1)) (some .int) oX0_placeOf (5, [some (.ref 3), some (.int q)], [.int (hcell ((F 4)) (16 + q))], (hX I F sd))) (pm_EV_cl 4 (call := pm_run mt (d + 1)) (d := (4, [some (.ref 3), some (.int q)], [.int (16 + q), .ref 3], (hX I F sd))) (a := 0) (as := [.ref 3, .int (16 + q)]) (hp := (hX I F sd)) (hp2 := (hX I F sd)) (i2 := 5) (ls := [some (.ref 3), some (.int q)]) (rest := []) (r := some (.int (hcell ((F 4)) (16 + q)))) rfl rfl (sp_X0_cell_3 (d + 0) I F sd (16 + q) )) ?_
  exact pm_EV_at 0 (d := (5, [some (.ref 3), some (.int q)], [.int (hcell ((F 4)) (16 + q))], (hX I F sd))) rfl rfl
set_option maxRecDepth 100000 in
set_option maxHeartbeats 4000000 in
theorem en_X0_placeOf_3 (d : Nat) (I : Nat → Int32) (F : Nat → Nat → Int32) (sd : Int64) (q : Int32) : pm_run mt (d + 2) 20 [.ref 3, .int q] (hX I F sd) = pm_EV (pm_run mt (d + 1)) (some .int) oX0_placeOf (0, [some (.ref 3), some (.int q)], [], (hX I F sd)) := rfl
set_option maxRecDepth 100000 in
set_option maxHeartbeats 4000000 in
theorem sp_X0_placeOf_3 (d : Nat) (I : Nat → Int32) (F : Nat → Nat → Int32) (sd : Int64) (q : Int32) : pm_run mt (d + 2) 20 [.ref 3, .int q] (hX I F sd) = some (some (.int (hcell (F 4) (16 + q))), (hX I F sd)) := by
  rw [en_X0_placeOf_3, tr_X0_placeOf_3_0]
set_option maxRecDepth 100000 in
set_option maxHeartbeats 4000000 in
theorem tr_X0_cell_5_0 (d : Nat) (I : Nat → Int32) (F : Nat → Nat → Int32) (sd : Int64) (q : Int32) (g1 : (¬ (q < 0)) → (q < 28) → pm_in q 28 = true) : pm_EV (pm_run mt (d + 0)) (some .int) oX0_cell (0, [some (.ref 5), some (.int q)], [], (hX I F sd)) = (if q < 0 then some (some (.int 0), (hX I F sd)) else (if q < 28 then some (some (.int ((F 6) q.toNatClampNeg)), (hX I F sd)) else some (some (.int 0), (hX I F sd)))) := by
  refine Eq.trans (pm_EV_at 1 (d := (1, [some (.ref 5), some (.int q)], [.int q], (hX I F sd))) (x := if q < 0 then .inl (10, [some (.ref 5), some (.int q)], [], (hX I F sd)) else .inl (2, [some (.ref 5), some (.int q)], [], (hX I F sd))) rfl rfl) ?_
  refine pm_rc (fun p1 => ?_) (fun p1 => ?_)
  · show pm_EV (pm_run mt (d + 0)) (some .int) oX0_cell (10, [some (.ref 5), some (.int q)], [], (hX I F sd)) = _
    exact pm_EV_at 1 (d := (11, [some (.ref 5), some (.int q)], [.int 0], (hX I F sd))) rfl rfl
  · show pm_EV (pm_run mt (d + 0)) (some .int) oX0_cell (2, [some (.ref 5), some (.int q)], [], (hX I F sd)) = _
    refine Eq.trans (pm_EV_at 2 (d := (4, [some (.ref 5), some (.int q)], [.int 28, .int q], (hX I F sd))) (x := if q < 28 then .inl (5, [some (.ref 5), some (.int q)], [], (hX I F sd)) else .inl (10, [some (.ref 5), some (.int q)], [], (hX I F sd))) rfl rfl) ?_
    refine pm_rc (fun p2 => ?_) (fun p2 => ?_)
    · show pm_EV (pm_run mt (d + 0)) (some .int) oX0_cell (5, [some (.ref 5), some (.int q)], [], (hX I F sd)) = _
      refine Eq.trans (b := pm_EV (pm_run mt (d + 0)) (some .int) oX0_cell (9, [some (.ref 5), some (.int q)], [.int ((F 6) q.toNatClampNeg)], (hX I F sd))) (pm_EV_gd 3 (d := (8, [some (.ref 5), some (.int q)], [.int q, .ref 6], (hX I F sd))) (c1 := (9, [some (.ref 5), some (.int q)], [.int ((F 6) q.toNatClampNeg)], (hX I F sd))) rfl rfl (⟨rfl, g1 p1 p2⟩)) ?_
      exact pm_EV_at 1 (d := (11, [some (.ref 5), some (.int q)], [.int ((F 6) q.toNatClampNeg)], (hX I F sd))) rfl rfl
    · show pm_EV (pm_run mt (d + 0)) (some .int) oX0_cell (10, [some (.ref 5), some (.int q)], [], (hX I F sd)) = _
      exact pm_EV_at 1 (d := (11, [some (.ref 5), some (.int q)], [.int 0], (hX I F sd))) rfl rfl
set_option maxRecDepth 100000 in
set_option maxHeartbeats 4000000 in
theorem en_X0_cell_5 (d : Nat) (I : Nat → Int32) (F : Nat → Nat → Int32) (sd : Int64) (q : Int32) : pm_run mt (d + 1) 0 [.ref 5, .int q] (hX I F sd) = pm_EV (pm_run mt (d + 0)) (some .int) oX0_cell (0, [some (.ref 5), some (.int q)], [], (hX I F sd)) := rfl
set_option maxRecDepth 100000 in
set_option maxHeartbeats 4000000 in
theorem sp_X0_cell_5 (d : Nat) (I : Nat → Int32) (F : Nat → Nat → Int32) (sd : Int64) (q : Int32) : pm_run mt (d + 1) 0 [.ref 5, .int q] (hX I F sd) = some (some (.int (hcell (F 6) q)), (hX I F sd)) := by
  rw [en_X0_cell_5, tr_X0_cell_5_0 _ _ _ _ _ (fun a b => pm_in_lt rfl (by decide) a b)]
  unfold hcell
  by_cases e1 : q < 0
  · simp only [e1, if_true]
  · by_cases e2 : q < 28 <;> simp only [e1, e2, if_true, if_false]
set_option maxRecDepth 100000 in
set_option maxHeartbeats 4000000 in
theorem tr_X0_set_5_0 (d : Nat) (I : Nat → Int32) (F : Nat → Nat → Int32) (sd : Int64) (q : Int32) (v : Int32) (g1 : (¬ (q < 0)) → (q < 28) → pm_in q 28 = true) : pm_EV (pm_run mt (d + 0)) none oX0_set (0, [some (.ref 5), some (.int q), some (.int v)], [], (hX I F sd)) = (if q < 0 then some (none, (hX I F sd)) else (if q < 28 then some (none, (hX I (uF F 6 (upd (F 6) q.toNatClampNeg v)) sd)) else some (none, (hX I F sd)))) := by
  refine Eq.trans (pm_EV_at 1 (d := (1, [some (.ref 5), some (.int q), some (.int v)], [.int q], (hX I F sd))) (x := if q < 0 then .inl (10, [some (.ref 5), some (.int q), some (.int v)], [], (hX I F sd)) else .inl (2, [some (.ref 5), some (.int q), some (.int v)], [], (hX I F sd))) rfl rfl) ?_
  refine pm_rc (fun p1 => ?_) (fun p1 => ?_)
  · show pm_EV (pm_run mt (d + 0)) none oX0_set (10, [some (.ref 5), some (.int q), some (.int v)], [], (hX I F sd)) = _
    exact pm_EV_at 0 (d := (10, [some (.ref 5), some (.int q), some (.int v)], [], (hX I F sd))) rfl rfl
  · show pm_EV (pm_run mt (d + 0)) none oX0_set (2, [some (.ref 5), some (.int q), some (.int v)], [], (hX I F sd)) = _
    refine Eq.trans (pm_EV_at 2 (d := (4, [some (.ref 5), some (.int q), some (.int v)], [.int 28, .int q], (hX I F sd))) (x := if q < 28 then .inl (5, [some (.ref 5), some (.int q), some (.int v)], [], (hX I F sd)) else .inl (10, [some (.ref 5), some (.int q), some (.int v)], [], (hX I F sd))) rfl rfl) ?_
    refine pm_rc (fun p2 => ?_) (fun p2 => ?_)
    · show pm_EV (pm_run mt (d + 0)) none oX0_set (5, [some (.ref 5), some (.int q), some (.int v)], [], (hX I F sd)) = _
      refine Eq.trans (b := pm_EV (pm_run mt (d + 0)) none oX0_set (10, [some (.ref 5), some (.int q), some (.int v)], [], (hX I (uF F 6 (upd (F 6) q.toNatClampNeg v)) sd))) (pm_EV_gd 4 (d := (9, [some (.ref 5), some (.int q), some (.int v)], [.int v, .int q, .ref 6], (hX I F sd))) (c1 := (10, [some (.ref 5), some (.int q), some (.int v)], [], (hX I (uF F 6 (upd (F 6) q.toNatClampNeg v)) sd))) rfl rfl (⟨rfl, g1 p1 p2⟩)) ?_
      exact pm_EV_at 0 (d := (10, [some (.ref 5), some (.int q), some (.int v)], [], (hX I (uF F 6 (upd (F 6) q.toNatClampNeg v)) sd))) rfl rfl
    · show pm_EV (pm_run mt (d + 0)) none oX0_set (10, [some (.ref 5), some (.int q), some (.int v)], [], (hX I F sd)) = _
      exact pm_EV_at 0 (d := (10, [some (.ref 5), some (.int q), some (.int v)], [], (hX I F sd))) rfl rfl
set_option maxRecDepth 100000 in
set_option maxHeartbeats 4000000 in
theorem en_X0_set_5 (d : Nat) (I : Nat → Int32) (F : Nat → Nat → Int32) (sd : Int64) (q : Int32) (v : Int32) : pm_run mt (d + 1) 1 [.ref 5, .int q, .int v] (hX I F sd) = pm_EV (pm_run mt (d + 0)) none oX0_set (0, [some (.ref 5), some (.int q), some (.int v)], [], (hX I F sd)) := rfl
set_option maxRecDepth 100000 in
set_option maxHeartbeats 4000000 in
theorem sp_X0_set_5 (d : Nat) (I : Nat → Int32) (F : Nat → Nat → Int32) (sd : Int64) (q : Int32) (v : Int32) : pm_run mt (d + 1) 1 [.ref 5, .int q, .int v] (hX I F sd) = some (none, (hX I (uF F 6 (hset (F 6) q v)) sd)) := by
  rw [en_X0_set_5, tr_X0_set_5_0 _ _ _ _ _ _ (fun a b => pm_in_lt rfl (by decide) a b)]
  unfold hset
  by_cases e1 : q < 0
  · simp only [e1, if_true]
    rfl
  · by_cases e2 : q < 28 <;> simp only [e1, e2, if_true, if_false] <;> rfl
set_option maxRecDepth 100000 in
set_option maxHeartbeats 4000000 in
theorem tr_X0_add_5_0 (d : Nat) (I : Nat → Int32) (F : Nat → Nat → Int32) (sd : Int64) (q : Int32) (v : Int32) : pm_EV (pm_run mt (d + 1)) none oX0_add (0, [some (.ref 5), some (.int q), some (.int v)], [], (hX I F sd)) = some (none, (hX I (uF F 6 (hset ((F 6)) q ((hcell ((F 6)) q) + v))) sd)) := by
  refine Eq.trans (b := pm_EV (pm_run mt (d + 1)) none oX0_add (5, [some (.ref 5), some (.int q), some (.int v)], [.int (hcell ((F 6)) q), .int q, .ref 5], (hX I F sd))) (pm_EV_cl 4 (call := pm_run mt (d + 1)) (d := (4, [some (.ref 5), some (.int q), some (.int v)], [.int q, .ref 5, .int q, .ref 5], (hX I F sd))) (a := 0) (as := [.ref 5, .int q]) (hp := (hX I F sd)) (hp2 := (hX I F sd)) (i2 := 5) (ls := [some (.ref 5), some (.int q), some (.int v)]) (rest := [.int q, .ref 5]) (r := some (.int (hcell ((F 6)) q))) rfl rfl (sp_X0_cell_5 (d + 0) I F sd q )) ?_
  refine Eq.trans (b := pm_EV (pm_run mt (d + 1)) none oX0_add (8, [some (.ref 5), some (.int q), some (.int v)], [], (hX I (uF F 6 (hset ((F 6)) q ((hcell ((F 6)) q) + v))) sd))) (pm_EV_cl 2 (call := pm_run mt (d + 1)) (d := (7, [some (.ref 5), some (.int q), some (.int v)], [.int ((hcell ((F 6)) q) + v), .int q, .ref 5], (hX I F sd))) (a := 1) (as := [.ref 5, .int q, .int ((hcell ((F 6)) q) + v)]) (hp := (hX I F sd)) (hp2 := (hX I (uF F 6 (hset ((F 6)) q ((hcell ((F 6)) q) + v))) sd)) (i2 := 8) (ls := [some (.ref 5), some (.int q), some (.int v)]) (rest := []) (r := none) rfl rfl (sp_X0_set_5 (d + 0) I F sd q ((hcell ((F 6)) q) + v) )) ?_
  exact pm_EV_at 0 (d := (8, [some (.ref 5), some (.int q), some (.int v)], [], (hX I (uF F 6 (hset ((F 6)) q ((hcell ((F 6)) q) + v))) sd))) rfl rfl
set_option maxRecDepth 100000 in
set_option maxHeartbeats 4000000 in
theorem en_X0_add_5 (d : Nat) (I : Nat → Int32) (F : Nat → Nat → Int32) (sd : Int64) (q : Int32) (v : Int32) : pm_run mt (d + 2) 2 [.ref 5, .int q, .int v] (hX I F sd) = pm_EV (pm_run mt (d + 1)) none oX0_add (0, [some (.ref 5), some (.int q), some (.int v)], [], (hX I F sd)) := rfl
set_option maxRecDepth 100000 in
set_option maxHeartbeats 4000000 in
theorem sp_X0_add_5 (d : Nat) (I : Nat → Int32) (F : Nat → Nat → Int32) (sd : Int64) (q : Int32) (v : Int32) : pm_run mt (d + 2) 2 [.ref 5, .int q, .int v] (hX I F sd) = some (none, (hX I (uF F 6 (hset (F 6) q (hcell (F 6) q + v))) sd)) := by
  rw [en_X0_add_5, tr_X0_add_5_0]
set_option maxRecDepth 100000 in
set_option maxHeartbeats 4000000 in
theorem tr_X0_foods_5_0 (d : Nat) (I : Nat → Int32) (F : Nat → Nat → Int32) (sd : Int64) : pm_EV (pm_run mt (d + 0)) (some .int) oX0_foods (0, [some (.ref 5)], [], (hX I F sd)) = some (some (.int ((F 6) 21)), (hX I F sd)) := by
  exact pm_EV_at 4 (d := (4, [some (.ref 5)], [.int ((F 6) 21)], (hX I F sd))) rfl rfl
set_option maxRecDepth 100000 in
set_option maxHeartbeats 4000000 in
theorem en_X0_foods_5 (d : Nat) (I : Nat → Int32) (F : Nat → Nat → Int32) (sd : Int64) : pm_run mt (d + 1) 7 [.ref 5] (hX I F sd) = pm_EV (pm_run mt (d + 0)) (some .int) oX0_foods (0, [some (.ref 5)], [], (hX I F sd)) := rfl
set_option maxRecDepth 100000 in
set_option maxHeartbeats 4000000 in
theorem sp_X0_foods_5 (d : Nat) (I : Nat → Int32) (F : Nat → Nat → Int32) (sd : Int64) : pm_run mt (d + 1) 7 [.ref 5] (hX I F sd) = some (some (.int (F 6 21)), (hX I F sd)) := by
  rw [en_X0_foods_5, tr_X0_foods_5_0]
set_option maxRecDepth 100000 in
set_option maxHeartbeats 4000000 in
theorem tr_X0_things_5_0 (d : Nat) (I : Nat → Int32) (F : Nat → Nat → Int32) (sd : Int64) : pm_EV (pm_run mt (d + 0)) (some .int) oX0_things (0, [some (.ref 5)], [], (hX I F sd)) = some (some (.int ((F 6) 22)), (hX I F sd)) := by
  exact pm_EV_at 4 (d := (4, [some (.ref 5)], [.int ((F 6) 22)], (hX I F sd))) rfl rfl
set_option maxRecDepth 100000 in
set_option maxHeartbeats 4000000 in
theorem en_X0_things_5 (d : Nat) (I : Nat → Int32) (F : Nat → Nat → Int32) (sd : Int64) : pm_run mt (d + 1) 8 [.ref 5] (hX I F sd) = pm_EV (pm_run mt (d + 0)) (some .int) oX0_things (0, [some (.ref 5)], [], (hX I F sd)) := rfl
set_option maxRecDepth 100000 in
set_option maxHeartbeats 4000000 in
theorem sp_X0_things_5 (d : Nat) (I : Nat → Int32) (F : Nat → Nat → Int32) (sd : Int64) : pm_run mt (d + 1) 8 [.ref 5] (hX I F sd) = some (some (.int (F 6 22)), (hX I F sd)) := by
  rw [en_X0_things_5, tr_X0_things_5_0]
set_option maxRecDepth 100000 in
set_option maxHeartbeats 4000000 in
theorem tr_X0_skirting_5_0 (d : Nat) (I : Nat → Int32) (F : Nat → Nat → Int32) (sd : Int64) : pm_EV (pm_run mt (d + 0)) (some .int) oX0_skirting (0, [some (.ref 5)], [], (hX I F sd)) = some (some (.int ((F 6) 23)), (hX I F sd)) := by
  exact pm_EV_at 4 (d := (4, [some (.ref 5)], [.int ((F 6) 23)], (hX I F sd))) rfl rfl
set_option maxRecDepth 100000 in
set_option maxHeartbeats 4000000 in
theorem en_X0_skirting_5 (d : Nat) (I : Nat → Int32) (F : Nat → Nat → Int32) (sd : Int64) : pm_run mt (d + 1) 9 [.ref 5] (hX I F sd) = pm_EV (pm_run mt (d + 0)) (some .int) oX0_skirting (0, [some (.ref 5)], [], (hX I F sd)) := rfl
set_option maxRecDepth 100000 in
set_option maxHeartbeats 4000000 in
theorem sp_X0_skirting_5 (d : Nat) (I : Nat → Int32) (F : Nat → Nat → Int32) (sd : Int64) : pm_run mt (d + 1) 9 [.ref 5] (hX I F sd) = some (some (.int (F 6 23)), (hX I F sd)) := by
  rw [en_X0_skirting_5, tr_X0_skirting_5_0]
set_option maxRecDepth 100000 in
set_option maxHeartbeats 4000000 in
theorem tr_X0_goodwill_5_0 (d : Nat) (I : Nat → Int32) (F : Nat → Nat → Int32) (sd : Int64) : pm_EV (pm_run mt (d + 0)) (some .int) oX0_goodwill (0, [some (.ref 5)], [], (hX I F sd)) = some (some (.int ((F 6) 24)), (hX I F sd)) := by
  exact pm_EV_at 4 (d := (4, [some (.ref 5)], [.int ((F 6) 24)], (hX I F sd))) rfl rfl
set_option maxRecDepth 100000 in
set_option maxHeartbeats 4000000 in
theorem en_X0_goodwill_5 (d : Nat) (I : Nat → Int32) (F : Nat → Nat → Int32) (sd : Int64) : pm_run mt (d + 1) 10 [.ref 5] (hX I F sd) = pm_EV (pm_run mt (d + 0)) (some .int) oX0_goodwill (0, [some (.ref 5)], [], (hX I F sd)) := rfl
set_option maxRecDepth 100000 in
set_option maxHeartbeats 4000000 in
theorem sp_X0_goodwill_5 (d : Nat) (I : Nat → Int32) (F : Nat → Nat → Int32) (sd : Int64) : pm_run mt (d + 1) 10 [.ref 5] (hX I F sd) = some (some (.int (F 6 24)), (hX I F sd)) := by
  rw [en_X0_goodwill_5, tr_X0_goodwill_5_0]
set_option maxRecDepth 100000 in
set_option maxHeartbeats 4000000 in
theorem tr_X0_pins_5_0 (d : Nat) (I : Nat → Int32) (F : Nat → Nat → Int32) (sd : Int64) : pm_EV (pm_run mt (d + 0)) (some .int) oX0_pins (0, [some (.ref 5)], [], (hX I F sd)) = some (some (.int ((F 6) 25)), (hX I F sd)) := by
  exact pm_EV_at 4 (d := (4, [some (.ref 5)], [.int ((F 6) 25)], (hX I F sd))) rfl rfl
set_option maxRecDepth 100000 in
set_option maxHeartbeats 4000000 in
theorem en_X0_pins_5 (d : Nat) (I : Nat → Int32) (F : Nat → Nat → Int32) (sd : Int64) : pm_run mt (d + 1) 11 [.ref 5] (hX I F sd) = pm_EV (pm_run mt (d + 0)) (some .int) oX0_pins (0, [some (.ref 5)], [], (hX I F sd)) := rfl
set_option maxRecDepth 100000 in
set_option maxHeartbeats 4000000 in
theorem sp_X0_pins_5 (d : Nat) (I : Nat → Int32) (F : Nat → Nat → Int32) (sd : Int64) : pm_run mt (d + 1) 11 [.ref 5] (hX I F sd) = some (some (.int (F 6 25)), (hX I F sd)) := by
  rw [en_X0_pins_5, tr_X0_pins_5_0]
set_option maxRecDepth 100000 in
set_option maxHeartbeats 4000000 in
theorem tr_X0_powder_5_0 (d : Nat) (I : Nat → Int32) (F : Nat → Nat → Int32) (sd : Int64) : pm_EV (pm_run mt (d + 0)) (some .int) oX0_powder (0, [some (.ref 5)], [], (hX I F sd)) = some (some (.int ((F 6) 26)), (hX I F sd)) := by
  exact pm_EV_at 4 (d := (4, [some (.ref 5)], [.int ((F 6) 26)], (hX I F sd))) rfl rfl
set_option maxRecDepth 100000 in
set_option maxHeartbeats 4000000 in
theorem en_X0_powder_5 (d : Nat) (I : Nat → Int32) (F : Nat → Nat → Int32) (sd : Int64) : pm_run mt (d + 1) 12 [.ref 5] (hX I F sd) = pm_EV (pm_run mt (d + 0)) (some .int) oX0_powder (0, [some (.ref 5)], [], (hX I F sd)) := rfl
set_option maxRecDepth 100000 in
set_option maxHeartbeats 4000000 in
theorem sp_X0_powder_5 (d : Nat) (I : Nat → Int32) (F : Nat → Nat → Int32) (sd : Int64) : pm_run mt (d + 1) 12 [.ref 5] (hX I F sd) = some (some (.int (F 6 26)), (hX I F sd)) := by
  rw [en_X0_powder_5, tr_X0_powder_5_0]
set_option maxRecDepth 100000 in
set_option maxHeartbeats 4000000 in
theorem tr_X0_quartersGone_5_0 (d : Nat) (I : Nat → Int32) (F : Nat → Nat → Int32) (sd : Int64) : pm_EV (pm_run mt (d + 0)) (some .int) oX0_quartersGone (0, [some (.ref 5)], [], (hX I F sd)) = some (some (.int ((F 6) 27)), (hX I F sd)) := by
  exact pm_EV_at 4 (d := (4, [some (.ref 5)], [.int ((F 6) 27)], (hX I F sd))) rfl rfl
set_option maxRecDepth 100000 in
set_option maxHeartbeats 4000000 in
theorem en_X0_quartersGone_5 (d : Nat) (I : Nat → Int32) (F : Nat → Nat → Int32) (sd : Int64) : pm_run mt (d + 1) 13 [.ref 5] (hX I F sd) = pm_EV (pm_run mt (d + 0)) (some .int) oX0_quartersGone (0, [some (.ref 5)], [], (hX I F sd)) := rfl
set_option maxRecDepth 100000 in
set_option maxHeartbeats 4000000 in
theorem sp_X0_quartersGone_5 (d : Nat) (I : Nat → Int32) (F : Nat → Nat → Int32) (sd : Int64) : pm_run mt (d + 1) 13 [.ref 5] (hX I F sd) = some (some (.int (F 6 27)), (hX I F sd)) := by
  rw [en_X0_quartersGone_5, tr_X0_quartersGone_5_0]
set_option maxRecDepth 100000 in
set_option maxHeartbeats 4000000 in
theorem tr_X0_hasFood_5_0 (d : Nat) (I : Nat → Int32) (F : Nat → Nat → Int32) (sd : Int64) (q : Int32) : pm_EV (pm_run mt (d + 1)) (some .boolean) oX0_hasFood (0, [some (.ref 5), some (.int q)], [], (hX I F sd)) = (if q < 0 then some (some (.int 0), (hX I F sd)) else (if q < ((F 6) 21) then some (some (.int 1), (hX I F sd)) else some (some (.int 0), (hX I F sd)))) := by
  refine Eq.trans (pm_EV_at 1 (d := (1, [some (.ref 5), some (.int q)], [.int q], (hX I F sd))) (x := if q < 0 then .inl (8, [some (.ref 5), some (.int q)], [], (hX I F sd)) else .inl (2, [some (.ref 5), some (.int q)], [], (hX I F sd))) rfl rfl) ?_
  refine pm_rc (fun p1 => ?_) (fun p1 => ?_)
  · show pm_EV (pm_run mt (d + 1)) (some .boolean) oX0_hasFood (8, [some (.ref 5), some (.int q)], [], (hX I F sd)) = _
    exact pm_EV_at 1 (d := (9, [some (.ref 5), some (.int q)], [.int 0], (hX I F sd))) rfl rfl
  · show pm_EV (pm_run mt (d + 1)) (some .boolean) oX0_hasFood (2, [some (.ref 5), some (.int q)], [], (hX I F sd)) = _
    refine Eq.trans (b := pm_EV (pm_run mt (d + 1)) (some .boolean) oX0_hasFood (5, [some (.ref 5), some (.int q)], [.int ((F 6) 21), .int q], (hX I F sd))) (pm_EV_cl 2 (call := pm_run mt (d + 1)) (d := (4, [some (.ref 5), some (.int q)], [.ref 5, .int q], (hX I F sd))) (a := 7) (as := [.ref 5]) (hp := (hX I F sd)) (hp2 := (hX I F sd)) (i2 := 5) (ls := [some (.ref 5), some (.int q)]) (rest := [.int q]) (r := some (.int ((F 6) 21))) rfl rfl (sp_X0_foods_5 (d + 0) I F sd  )) ?_
    refine Eq.trans (pm_EV_at 0 (d := (5, [some (.ref 5), some (.int q)], [.int ((F 6) 21), .int q], (hX I F sd))) (x := if q < ((F 6) 21) then .inl (6, [some (.ref 5), some (.int q)], [], (hX I F sd)) else .inl (8, [some (.ref 5), some (.int q)], [], (hX I F sd))) rfl rfl) ?_
    refine pm_rc (fun p2 => ?_) (fun p2 => ?_)
    · show pm_EV (pm_run mt (d + 1)) (some .boolean) oX0_hasFood (6, [some (.ref 5), some (.int q)], [], (hX I F sd)) = _
      exact pm_EV_at 2 (d := (9, [some (.ref 5), some (.int q)], [.int 1], (hX I F sd))) rfl rfl
    · show pm_EV (pm_run mt (d + 1)) (some .boolean) oX0_hasFood (8, [some (.ref 5), some (.int q)], [], (hX I F sd)) = _
      exact pm_EV_at 1 (d := (9, [some (.ref 5), some (.int q)], [.int 0], (hX I F sd))) rfl rfl
set_option maxRecDepth 100000 in
set_option maxHeartbeats 4000000 in
theorem en_X0_hasFood_5 (d : Nat) (I : Nat → Int32) (F : Nat → Nat → Int32) (sd : Int64) (q : Int32) : pm_run mt (d + 2) 14 [.ref 5, .int q] (hX I F sd) = pm_EV (pm_run mt (d + 1)) (some .boolean) oX0_hasFood (0, [some (.ref 5), some (.int q)], [], (hX I F sd)) := rfl
set_option maxRecDepth 100000 in
set_option maxHeartbeats 4000000 in
theorem sp_X0_hasFood_5 (d : Nat) (I : Nat → Int32) (F : Nat → Nat → Int32) (sd : Int64) (q : Int32) : pm_run mt (d + 2) 14 [.ref 5, .int q] (hX I F sd) = some (some (.int (bI (inr q (F 6 21)))), (hX I F sd)) := by
  rw [en_X0_hasFood_5, tr_X0_hasFood_5_0]
  unfold inr bI
  by_cases e1 : q < 0
  · simp [e1]
  · by_cases e2 : q < F 6 21 <;> simp [e1, e2]
set_option maxRecDepth 100000 in
set_option maxHeartbeats 4000000 in
theorem tr_X0_hasThing_5_0 (d : Nat) (I : Nat → Int32) (F : Nat → Nat → Int32) (sd : Int64) (q : Int32) : pm_EV (pm_run mt (d + 1)) (some .boolean) oX0_hasThing (0, [some (.ref 5), some (.int q)], [], (hX I F sd)) = (if q < 0 then some (some (.int 0), (hX I F sd)) else (if q < ((F 6) 22) then some (some (.int 1), (hX I F sd)) else some (some (.int 0), (hX I F sd)))) := by
  refine Eq.trans (pm_EV_at 1 (d := (1, [some (.ref 5), some (.int q)], [.int q], (hX I F sd))) (x := if q < 0 then .inl (8, [some (.ref 5), some (.int q)], [], (hX I F sd)) else .inl (2, [some (.ref 5), some (.int q)], [], (hX I F sd))) rfl rfl) ?_
  refine pm_rc (fun p1 => ?_) (fun p1 => ?_)
  · show pm_EV (pm_run mt (d + 1)) (some .boolean) oX0_hasThing (8, [some (.ref 5), some (.int q)], [], (hX I F sd)) = _
    exact pm_EV_at 1 (d := (9, [some (.ref 5), some (.int q)], [.int 0], (hX I F sd))) rfl rfl
  · show pm_EV (pm_run mt (d + 1)) (some .boolean) oX0_hasThing (2, [some (.ref 5), some (.int q)], [], (hX I F sd)) = _
    refine Eq.trans (b := pm_EV (pm_run mt (d + 1)) (some .boolean) oX0_hasThing (5, [some (.ref 5), some (.int q)], [.int ((F 6) 22), .int q], (hX I F sd))) (pm_EV_cl 2 (call := pm_run mt (d + 1)) (d := (4, [some (.ref 5), some (.int q)], [.ref 5, .int q], (hX I F sd))) (a := 8) (as := [.ref 5]) (hp := (hX I F sd)) (hp2 := (hX I F sd)) (i2 := 5) (ls := [some (.ref 5), some (.int q)]) (rest := [.int q]) (r := some (.int ((F 6) 22))) rfl rfl (sp_X0_things_5 (d + 0) I F sd  )) ?_
    refine Eq.trans (pm_EV_at 0 (d := (5, [some (.ref 5), some (.int q)], [.int ((F 6) 22), .int q], (hX I F sd))) (x := if q < ((F 6) 22) then .inl (6, [some (.ref 5), some (.int q)], [], (hX I F sd)) else .inl (8, [some (.ref 5), some (.int q)], [], (hX I F sd))) rfl rfl) ?_
    refine pm_rc (fun p2 => ?_) (fun p2 => ?_)
    · show pm_EV (pm_run mt (d + 1)) (some .boolean) oX0_hasThing (6, [some (.ref 5), some (.int q)], [], (hX I F sd)) = _
      exact pm_EV_at 2 (d := (9, [some (.ref 5), some (.int q)], [.int 1], (hX I F sd))) rfl rfl
    · show pm_EV (pm_run mt (d + 1)) (some .boolean) oX0_hasThing (8, [some (.ref 5), some (.int q)], [], (hX I F sd)) = _
      exact pm_EV_at 1 (d := (9, [some (.ref 5), some (.int q)], [.int 0], (hX I F sd))) rfl rfl
set_option maxRecDepth 100000 in
set_option maxHeartbeats 4000000 in
theorem en_X0_hasThing_5 (d : Nat) (I : Nat → Int32) (F : Nat → Nat → Int32) (sd : Int64) (q : Int32) : pm_run mt (d + 2) 15 [.ref 5, .int q] (hX I F sd) = pm_EV (pm_run mt (d + 1)) (some .boolean) oX0_hasThing (0, [some (.ref 5), some (.int q)], [], (hX I F sd)) := rfl
set_option maxRecDepth 100000 in
set_option maxHeartbeats 4000000 in
theorem sp_X0_hasThing_5 (d : Nat) (I : Nat → Int32) (F : Nat → Nat → Int32) (sd : Int64) (q : Int32) : pm_run mt (d + 2) 15 [.ref 5, .int q] (hX I F sd) = some (some (.int (bI (inr q (F 6 22)))), (hX I F sd)) := by
  rw [en_X0_hasThing_5, tr_X0_hasThing_5_0]
  unfold inr bI
  by_cases e1 : q < 0
  · simp [e1]
  · by_cases e2 : q < F 6 22 <;> simp [e1, e2]
set_option maxRecDepth 100000 in
set_option maxHeartbeats 4000000 in
theorem tr_X0_kind_5_0 (d : Nat) (I : Nat → Int32) (F : Nat → Nat → Int32) (sd : Int64) (q : Int32) : pm_EV (pm_run mt (d + 1)) (some .int) oX0_kind (0, [some (.ref 5), some (.int q)], [], (hX I F sd)) = some (some (.int (hcell ((F 6)) (0 + q))), (hX I F sd)) := by
  refine Eq.trans (b := pm_EV (pm_run mt (d + 1)) (some .int) oX0_kind (5, [some (.ref 5), some (.int q)], [.int (hcell ((F 6)) (0 + q))], (hX I F sd))) (pm_EV_cl 4 (call := pm_run mt (d + 1)) (d := (4, [some (.ref 5), some (.int q)], [.int (0 + q), .ref 5], (hX I F sd))) (a := 0) (as := [.ref 5, .int (0 + q)]) (hp := (hX I F sd)) (hp2 := (hX I F sd)) (i2 := 5) (ls := [some (.ref 5), some (.int q)]) (rest := []) (r := some (.int (hcell ((F 6)) (0 + q)))) rfl rfl (sp_X0_cell_5 (d + 0) I F sd (0 + q) )) ?_
  exact pm_EV_at 0 (d := (5, [some (.ref 5), some (.int q)], [.int (hcell ((F 6)) (0 + q))], (hX I F sd))) rfl rfl
set_option maxRecDepth 100000 in
set_option maxHeartbeats 4000000 in
theorem en_X0_kind_5 (d : Nat) (I : Nat → Int32) (F : Nat → Nat → Int32) (sd : Int64) (q : Int32) : pm_run mt (d + 2) 16 [.ref 5, .int q] (hX I F sd) = pm_EV (pm_run mt (d + 1)) (some .int) oX0_kind (0, [some (.ref 5), some (.int q)], [], (hX I F sd)) := rfl
set_option maxRecDepth 100000 in
set_option maxHeartbeats 4000000 in
theorem sp_X0_kind_5 (d : Nat) (I : Nat → Int32) (F : Nat → Nat → Int32) (sd : Int64) (q : Int32) : pm_run mt (d + 2) 16 [.ref 5, .int q] (hX I F sd) = some (some (.int (hcell (F 6) (0 + q))), (hX I F sd)) := by
  rw [en_X0_kind_5, tr_X0_kind_5_0]
set_option maxRecDepth 100000 in
set_option maxHeartbeats 4000000 in
theorem tr_X0_inLarder_5_0 (d : Nat) (I : Nat → Int32) (F : Nat → Nat → Int32) (sd : Int64) (q : Int32) : pm_EV (pm_run mt (d + 1)) (some .int) oX0_inLarder (0, [some (.ref 5), some (.int q)], [], (hX I F sd)) = some (some (.int (hcell ((F 6)) (4 + q))), (hX I F sd)) := by
  refine Eq.trans (b := pm_EV (pm_run mt (d + 1)) (some .int) oX0_inLarder (5, [some (.ref 5), some (.int q)], [.int (hcell ((F 6)) (4 + q))], (hX I F sd))) (pm_EV_cl 4 (call := pm_run mt (d + 1)) (d := (4, [some (.ref 5), some (.int q)], [.int (4 + q), .ref 5], (hX I F sd))) (a := 0) (as := [.ref 5, .int (4 + q)]) (hp := (hX I F sd)) (hp2 := (hX I F sd)) (i2 := 5) (ls := [some (.ref 5), some (.int q)]) (rest := []) (r := some (.int (hcell ((F 6)) (4 + q)))) rfl rfl (sp_X0_cell_5 (d + 0) I F sd (4 + q) )) ?_
  exact pm_EV_at 0 (d := (5, [some (.ref 5), some (.int q)], [.int (hcell ((F 6)) (4 + q))], (hX I F sd))) rfl rfl
set_option maxRecDepth 100000 in
set_option maxHeartbeats 4000000 in
theorem en_X0_inLarder_5 (d : Nat) (I : Nat → Int32) (F : Nat → Nat → Int32) (sd : Int64) (q : Int32) : pm_run mt (d + 2) 17 [.ref 5, .int q] (hX I F sd) = pm_EV (pm_run mt (d + 1)) (some .int) oX0_inLarder (0, [some (.ref 5), some (.int q)], [], (hX I F sd)) := rfl
set_option maxRecDepth 100000 in
set_option maxHeartbeats 4000000 in
theorem sp_X0_inLarder_5 (d : Nat) (I : Nat → Int32) (F : Nat → Nat → Int32) (sd : Int64) (q : Int32) : pm_run mt (d + 2) 17 [.ref 5, .int q] (hX I F sd) = some (some (.int (hcell (F 6) (4 + q))), (hX I F sd)) := by
  rw [en_X0_inLarder_5, tr_X0_inLarder_5_0]
set_option maxRecDepth 100000 in
set_option maxHeartbeats 4000000 in
theorem tr_X0_onFloor_5_0 (d : Nat) (I : Nat → Int32) (F : Nat → Nat → Int32) (sd : Int64) (q : Int32) : pm_EV (pm_run mt (d + 1)) (some .int) oX0_onFloor (0, [some (.ref 5), some (.int q)], [], (hX I F sd)) = some (some (.int (hcell ((F 6)) (8 + q))), (hX I F sd)) := by
  refine Eq.trans (b := pm_EV (pm_run mt (d + 1)) (some .int) oX0_onFloor (5, [some (.ref 5), some (.int q)], [.int (hcell ((F 6)) (8 + q))], (hX I F sd))) (pm_EV_cl 4 (call := pm_run mt (d + 1)) (d := (4, [some (.ref 5), some (.int q)], [.int (8 + q), .ref 5], (hX I F sd))) (a := 0) (as := [.ref 5, .int (8 + q)]) (hp := (hX I F sd)) (hp2 := (hX I F sd)) (i2 := 5) (ls := [some (.ref 5), some (.int q)]) (rest := []) (r := some (.int (hcell ((F 6)) (8 + q)))) rfl rfl (sp_X0_cell_5 (d + 0) I F sd (8 + q) )) ?_
  exact pm_EV_at 0 (d := (5, [some (.ref 5), some (.int q)], [.int (hcell ((F 6)) (8 + q))], (hX I F sd))) rfl rfl
set_option maxRecDepth 100000 in
set_option maxHeartbeats 4000000 in
theorem en_X0_onFloor_5 (d : Nat) (I : Nat → Int32) (F : Nat → Nat → Int32) (sd : Int64) (q : Int32) : pm_run mt (d + 2) 18 [.ref 5, .int q] (hX I F sd) = pm_EV (pm_run mt (d + 1)) (some .int) oX0_onFloor (0, [some (.ref 5), some (.int q)], [], (hX I F sd)) := rfl
set_option maxRecDepth 100000 in
set_option maxHeartbeats 4000000 in
theorem sp_X0_onFloor_5 (d : Nat) (I : Nat → Int32) (F : Nat → Nat → Int32) (sd : Int64) (q : Int32) : pm_run mt (d + 2) 18 [.ref 5, .int q] (hX I F sd) = some (some (.int (hcell (F 6) (8 + q))), (hX I F sd)) := by
  rw [en_X0_onFloor_5, tr_X0_onFloor_5_0]
set_option maxRecDepth 100000 in
set_option maxHeartbeats 4000000 in
theorem tr_X0_newlyPut_5_0 (d : Nat) (I : Nat → Int32) (F : Nat → Nat → Int32) (sd : Int64) (q : Int32) : pm_EV (pm_run mt (d + 1)) (some .int) oX0_newlyPut (0, [some (.ref 5), some (.int q)], [], (hX I F sd)) = some (some (.int (hcell ((F 6)) (12 + q))), (hX I F sd)) := by
  refine Eq.trans (b := pm_EV (pm_run mt (d + 1)) (some .int) oX0_newlyPut (5, [some (.ref 5), some (.int q)], [.int (hcell ((F 6)) (12 + q))], (hX I F sd))) (pm_EV_cl 4 (call := pm_run mt (d + 1)) (d := (4, [some (.ref 5), some (.int q)], [.int (12 + q), .ref 5], (hX I F sd))) (a := 0) (as := [.ref 5, .int (12 + q)]) (hp := (hX I F sd)) (hp2 := (hX I F sd)) (i2 := 5) (ls := [some (.ref 5), some (.int q)]) (rest := []) (r := some (.int (hcell ((F 6)) (12 + q)))) rfl rfl (sp_X0_cell_5 (d + 0) I F sd (12 + q) )) ?_
  exact pm_EV_at 0 (d := (5, [some (.ref 5), some (.int q)], [.int (hcell ((F 6)) (12 + q))], (hX I F sd))) rfl rfl
set_option maxRecDepth 100000 in
set_option maxHeartbeats 4000000 in
theorem en_X0_newlyPut_5 (d : Nat) (I : Nat → Int32) (F : Nat → Nat → Int32) (sd : Int64) (q : Int32) : pm_run mt (d + 2) 19 [.ref 5, .int q] (hX I F sd) = pm_EV (pm_run mt (d + 1)) (some .int) oX0_newlyPut (0, [some (.ref 5), some (.int q)], [], (hX I F sd)) := rfl
set_option maxRecDepth 100000 in
set_option maxHeartbeats 4000000 in
theorem sp_X0_newlyPut_5 (d : Nat) (I : Nat → Int32) (F : Nat → Nat → Int32) (sd : Int64) (q : Int32) : pm_run mt (d + 2) 19 [.ref 5, .int q] (hX I F sd) = some (some (.int (hcell (F 6) (12 + q))), (hX I F sd)) := by
  rw [en_X0_newlyPut_5, tr_X0_newlyPut_5_0]
set_option maxRecDepth 100000 in
set_option maxHeartbeats 4000000 in
theorem tr_X0_placeOf_5_0 (d : Nat) (I : Nat → Int32) (F : Nat → Nat → Int32) (sd : Int64) (q : Int32) : pm_EV (pm_run mt (d + 1)) (some .int) oX0_placeOf (0, [some (.ref 5), some (.int q)], [], (hX I F sd)) = some (some (.int (hcell ((F 6)) (16 + q))), (hX I F sd)) := by
  refine Eq.trans (b := pm_EV (pm_run mt (d + 1)) (some .int) oX0_placeOf (5, [some (.ref 5), some (.int q)], [.int (hcell ((F 6)) (16 + q))], (hX I F sd))) (pm_EV_cl 4 (call := pm_run mt (d + 1)) (d := (4, [some (.ref 5), some (.int q)], [.int (16 + q), .ref 5], (hX I F sd))) (a := 0) (as := [.ref 5, .int (16 + q)]) (hp := (hX I F sd)) (hp2 := (hX I F sd)) (i2 := 5) (ls := [some (.ref 5), some (.int q)]) (rest := []) (r := some (.int (hcell ((F 6)) (16 + q)))) rfl rfl (sp_X0_cell_5 (d + 0) I F sd (16 + q) )) ?_
  exact pm_EV_at 0 (d := (5, [some (.ref 5), some (.int q)], [.int (hcell ((F 6)) (16 + q))], (hX I F sd))) rfl rfl
set_option maxRecDepth 100000 in
set_option maxHeartbeats 4000000 in
theorem en_X0_placeOf_5 (d : Nat) (I : Nat → Int32) (F : Nat → Nat → Int32) (sd : Int64) (q : Int32) : pm_run mt (d + 2) 20 [.ref 5, .int q] (hX I F sd) = pm_EV (pm_run mt (d + 1)) (some .int) oX0_placeOf (0, [some (.ref 5), some (.int q)], [], (hX I F sd)) := rfl
set_option maxRecDepth 100000 in
set_option maxHeartbeats 4000000 in
theorem sp_X0_placeOf_5 (d : Nat) (I : Nat → Int32) (F : Nat → Nat → Int32) (sd : Int64) (q : Int32) : pm_run mt (d + 2) 20 [.ref 5, .int q] (hX I F sd) = some (some (.int (hcell (F 6) (16 + q))), (hX I F sd)) := by
  rw [en_X0_placeOf_5, tr_X0_placeOf_5_0]
def hworth (f : Nat → Int32) (q m : Int32) : Int32 := if hcell f (0 + q) = 1 then 2 * (hcell f (8 + q) + m) else if hcell f (0 + q) = 2 then (hcell f (8 + q) + m) / 2 else hcell f (8 + q) + m
def hgr (f : Nat → Int32) (q : Int32) : Int32 := if hcell f (0 + q) = 3 then 10 else 1
def hdueS (f : Nat → Int32) : Nat → Int32
  | 0 => 0
  | k + 1 => hdueS f k + hcell f (12 + nI k)
def hdue (f : Nat → Int32) : Int32 := hdueS f (f 21).toNatClampNeg / 10
def hlackS (f : Nat → Int32) : Nat → Int32
  | 0 => hdue f
  | k + 1 => hlackS f k - hworth f (nI k) 0
def hshort (f : Nat → Int32) : Int32 := if 0 < hlackS f (f 21).toNatClampNeg then hlackS f (f 21).toNatClampNeg else 0
set_option maxRecDepth 100000 in
set_option maxHeartbeats 4000000 in
theorem tr_X0_worthWith_3_0 (d : Nat) (I : Nat → Int32) (F : Nat → Nat → Int32) (sd : Int64) (q : Int32) (m : Int32) : pm_EV (pm_run mt (d + 1)) (some .int) oX0_worthWith (0, [some (.ref 3), some (.int q), some (.int m), none], [], (hX I F sd)) = (if (hcell ((F 4)) (0 + q)) = 1 then some (some (.int (2 * ((hcell ((F 4)) (8 + q)) + m))), (hX I F sd)) else (if (hcell ((F 4)) (0 + q)) = 2 then some (some (.int (((hcell ((F 4)) (8 + q)) + m) / 2)), (hX I F sd)) else some (some (.int ((hcell ((F 4)) (8 + q)) + m)), (hX I F sd)))) := by
  refine Eq.trans (b := pm_EV (pm_run mt (d + 1)) (some .int) oX0_worthWith (5, [some (.ref 3), some (.int q), some (.int m), none], [.int (hcell ((F 4)) (8 + q))], (hX I F sd))) (pm_EV_cl 4 (call := pm_run mt (d + 1)) (d := (4, [some (.ref 3), some (.int q), some (.int m), none], [.int (8 + q), .ref 3], (hX I F sd))) (a := 0) (as := [.ref 3, .int (8 + q)]) (hp := (hX I F sd)) (hp2 := (hX I F sd)) (i2 := 5) (ls := [some (.ref 3), some (.int q), some (.int m), none]) (rest := []) (r := some (.int (hcell ((F 4)) (8 + q)))) rfl rfl (sp_X0_cell_3 (d + 0) I F sd (8 + q) )) ?_
  refine Eq.trans (b := pm_EV (pm_run mt (d + 1)) (some .int) oX0_worthWith (13, [some (.ref 3), some (.int q), some (.int m), some (.int ((hcell ((F 4)) (8 + q)) + m))], [.int (hcell ((F 4)) (0 + q))], (hX I F sd))) (pm_EV_cl 7 (call := pm_run mt (d + 1)) (d := (12, [some (.ref 3), some (.int q), some (.int m), some (.int ((hcell ((F 4)) (8 + q)) + m))], [.int (0 + q), .ref 3], (hX I F sd))) (a := 0) (as := [.ref 3, .int (0 + q)]) (hp := (hX I F sd)) (hp2 := (hX I F sd)) (i2 := 13) (ls := [some (.ref 3), some (.int q), some (.int m), some (.int ((hcell ((F 4)) (8 + q)) + m))]) (rest := []) (r := some (.int (hcell ((F 4)) (0 + q)))) rfl rfl (sp_X0_cell_3 (d + 0) I F sd (0 + q) )) ?_
  refine Eq.trans (pm_EV_at 0 (d := (13, [some (.ref 3), some (.int q), some (.int m), some (.int ((hcell ((F 4)) (8 + q)) + m))], [.int (hcell ((F 4)) (0 + q))], (hX I F sd))) (x := if (hcell ((F 4)) (0 + q)) = 1 then .inl (14, [some (.ref 3), some (.int q), some (.int m), some (.int ((hcell ((F 4)) (8 + q)) + m))], [], (hX I F sd)) else if (hcell ((F 4)) (0 + q)) = 2 then .inl (18, [some (.ref 3), some (.int q), some (.int m), some (.int ((hcell ((F 4)) (8 + q)) + m))], [], (hX I F sd)) else .inl (22, [some (.ref 3), some (.int q), some (.int m), some (.int ((hcell ((F 4)) (8 + q)) + m))], [], (hX I F sd))) rfl rfl) ?_
  refine pm_rc (fun p1 => ?_) (fun p1 => ?_)
  · show pm_EV (pm_run mt (d + 1)) (some .int) oX0_worthWith (14, [some (.ref 3), some (.int q), some (.int m), some (.int ((hcell ((F 4)) (8 + q)) + m))], [], (hX I F sd)) = _
    exact pm_EV_at 3 (d := (17, [some (.ref 3), some (.int q), some (.int m), some (.int ((hcell ((F 4)) (8 + q)) + m))], [.int (2 * ((hcell ((F 4)) (8 + q)) + m))], (hX I F sd))) rfl rfl
  · refine pm_rc (fun p2 => ?_) (fun p2 => ?_)
    · show pm_EV (pm_run mt (d + 1)) (some .int) oX0_worthWith (18, [some (.ref 3), some (.int q), some (.int m), some (.int ((hcell ((F 4)) (8 + q)) + m))], [], (hX I F sd)) = _
      exact pm_EV_at 3 (d := (21, [some (.ref 3), some (.int q), some (.int m), some (.int ((hcell ((F 4)) (8 + q)) + m))], [.int (((hcell ((F 4)) (8 + q)) + m) / 2)], (hX I F sd))) rfl rfl
    · show pm_EV (pm_run mt (d + 1)) (some .int) oX0_worthWith (22, [some (.ref 3), some (.int q), some (.int m), some (.int ((hcell ((F 4)) (8 + q)) + m))], [], (hX I F sd)) = _
      exact pm_EV_at 1 (d := (23, [some (.ref 3), some (.int q), some (.int m), some (.int ((hcell ((F 4)) (8 + q)) + m))], [.int ((hcell ((F 4)) (8 + q)) + m)], (hX I F sd))) rfl rfl
set_option maxRecDepth 100000 in
set_option maxHeartbeats 4000000 in
theorem en_X0_worthWith_3 (d : Nat) (I : Nat → Int32) (F : Nat → Nat → Int32) (sd : Int64) (q : Int32) (m : Int32) : pm_run mt (d + 2) 22 [.ref 3, .int q, .int m] (hX I F sd) = pm_EV (pm_run mt (d + 1)) (some .int) oX0_worthWith (0, [some (.ref 3), some (.int q), some (.int m), none], [], (hX I F sd)) := rfl
set_option maxRecDepth 100000 in
set_option maxHeartbeats 4000000 in
theorem sp_X0_worthWith_3 (d : Nat) (I : Nat → Int32) (F : Nat → Nat → Int32) (sd : Int64) (q : Int32) (m : Int32) : pm_run mt (d + 2) 22 [.ref 3, .int q, .int m] (hX I F sd) = some (some (.int (hworth (F 4) q m)), (hX I F sd)) := by
  rw [en_X0_worthWith_3, tr_X0_worthWith_3_0]
  unfold hworth
  simp only [pm_pi]
set_option maxRecDepth 100000 in
set_option maxHeartbeats 4000000 in
theorem tr_X0_worth_3_0 (d : Nat) (I : Nat → Int32) (F : Nat → Nat → Int32) (sd : Int64) (q : Int32) : pm_EV (pm_run mt (d + 2)) (some .int) oX0_worth (0, [some (.ref 3), some (.int q)], [], (hX I F sd)) = some (some (.int (hworth ((F 4)) q 0)), (hX I F sd)) := by
  refine Eq.trans (b := pm_EV (pm_run mt (d + 2)) (some .int) oX0_worth (4, [some (.ref 3), some (.int q)], [.int (hworth ((F 4)) q 0)], (hX I F sd))) (pm_EV_cl 3 (call := pm_run mt (d + 2)) (d := (3, [some (.ref 3), some (.int q)], [.int 0, .int q, .ref 3], (hX I F sd))) (a := 22) (as := [.ref 3, .int q, .int 0]) (hp := (hX I F sd)) (hp2 := (hX I F sd)) (i2 := 4) (ls := [some (.ref 3), some (.int q)]) (rest := []) (r := some (.int (hworth ((F 4)) q 0))) rfl rfl (sp_X0_worthWith_3 (d + 0) I F sd q 0 )) ?_
  exact pm_EV_at 0 (d := (4, [some (.ref 3), some (.int q)], [.int (hworth ((F 4)) q 0)], (hX I F sd))) rfl rfl
set_option maxRecDepth 100000 in
set_option maxHeartbeats 4000000 in
theorem en_X0_worth_3 (d : Nat) (I : Nat → Int32) (F : Nat → Nat → Int32) (sd : Int64) (q : Int32) : pm_run mt (d + 3) 21 [.ref 3, .int q] (hX I F sd) = pm_EV (pm_run mt (d + 2)) (some .int) oX0_worth (0, [some (.ref 3), some (.int q)], [], (hX I F sd)) := rfl
set_option maxRecDepth 100000 in
set_option maxHeartbeats 4000000 in
theorem sp_X0_worth_3 (d : Nat) (I : Nat → Int32) (F : Nat → Nat → Int32) (sd : Int64) (q : Int32) : pm_run mt (d + 3) 21 [.ref 3, .int q] (hX I F sd) = some (some (.int (hworth (F 4) q 0)), (hX I F sd)) := by
  rw [en_X0_worth_3, tr_X0_worth_3_0]
set_option maxRecDepth 100000 in
set_option maxHeartbeats 4000000 in
theorem tr_X0_grainsAtOnce_3_0 (d : Nat) (I : Nat → Int32) (F : Nat → Nat → Int32) (sd : Int64) (q : Int32) : pm_EV (pm_run mt (d + 2)) (some .int) oX0_grainsAtOnce (0, [some (.ref 3), some (.int q)], [], (hX I F sd)) = (if (hcell ((F 4)) (0 + q)) = 3 then some (some (.int 10), (hX I F sd)) else some (some (.int 1), (hX I F sd))) := by
  refine Eq.trans (b := pm_EV (pm_run mt (d + 2)) (some .int) oX0_grainsAtOnce (3, [some (.ref 3), some (.int q)], [.int (hcell ((F 4)) (0 + q))], (hX I F sd))) (pm_EV_cl 2 (call := pm_run mt (d + 2)) (d := (2, [some (.ref 3), some (.int q)], [.int q, .ref 3], (hX I F sd))) (a := 16) (as := [.ref 3, .int q]) (hp := (hX I F sd)) (hp2 := (hX I F sd)) (i2 := 3) (ls := [some (.ref 3), some (.int q)]) (rest := []) (r := some (.int (hcell ((F 4)) (0 + q)))) rfl rfl (sp_X0_kind_3 (d + 0) I F sd q )) ?_
  refine Eq.trans (pm_EV_at 1 (d := (4, [some (.ref 3), some (.int q)], [.int 3, .int (hcell ((F 4)) (0 + q))], (hX I F sd))) (x := if (hcell ((F 4)) (0 + q)) = 3 then .inl (5, [some (.ref 3), some (.int q)], [], (hX I F sd)) else .inl (7, [some (.ref 3), some (.int q)], [], (hX I F sd))) rfl rfl) ?_
  refine pm_rc (fun p1 => ?_) (fun p1 => ?_)
  · show pm_EV (pm_run mt (d + 2)) (some .int) oX0_grainsAtOnce (5, [some (.ref 3), some (.int q)], [], (hX I F sd)) = _
    exact pm_EV_at 2 (d := (8, [some (.ref 3), some (.int q)], [.int 10], (hX I F sd))) rfl rfl
  · show pm_EV (pm_run mt (d + 2)) (some .int) oX0_grainsAtOnce (7, [some (.ref 3), some (.int q)], [], (hX I F sd)) = _
    exact pm_EV_at 1 (d := (8, [some (.ref 3), some (.int q)], [.int 1], (hX I F sd))) rfl rfl
set_option maxRecDepth 100000 in
set_option maxHeartbeats 4000000 in
theorem en_X0_grainsAtOnce_3 (d : Nat) (I : Nat → Int32) (F : Nat → Nat → Int32) (sd : Int64) (q : Int32) : pm_run mt (d + 3) 23 [.ref 3, .int q] (hX I F sd) = pm_EV (pm_run mt (d + 2)) (some .int) oX0_grainsAtOnce (0, [some (.ref 3), some (.int q)], [], (hX I F sd)) := rfl
set_option maxRecDepth 100000 in
set_option maxHeartbeats 4000000 in
theorem sp_X0_grainsAtOnce_3 (d : Nat) (I : Nat → Int32) (F : Nat → Nat → Int32) (sd : Int64) (q : Int32) : pm_run mt (d + 3) 23 [.ref 3, .int q] (hX I F sd) = some (some (.int (hgr (F 4) q)), (hX I F sd)) := by
  rw [en_X0_grainsAtOnce_3, tr_X0_grainsAtOnce_3_0]
  unfold hgr
  by_cases e1 : hcell (F 4) (0 + q) = 3 <;> simp only [e1, if_true, if_false]
set_option maxRecDepth 100000 in
set_option maxHeartbeats 4000000 in
theorem tr_X0_due_3_0 (d : Nat) (I : Nat → Int32) (F : Nat → Nat → Int32) (sd : Int64) : pm_EV (pm_run mt (d + 2)) (some .int) oX0_due (0, [some (.ref 3), none, none], [], (hX I F sd)) = pm_EV (pm_run mt (d + 2)) (some .int) oX0_due (4, [some (.ref 3), some (.int 0), some (.int 0)], [], (hX I F sd)) := by
  exact pm_EV_go 4 (d := (4, [some (.ref 3), some (.int 0), some (.int 0)], [], (hX I F sd))) rfl
set_option maxRecDepth 100000 in
set_option maxHeartbeats 4000000 in
theorem tr_X0_due_3_4 (d : Nat) (I : Nat → Int32) (F : Nat → Nat → Int32) (sd : Int64) (x1 : Int32) (x2 : Int32) : pm_EV (pm_run mt (d + 2)) (some .int) oX0_due (4, [some (.ref 3), some (.int x1), some (.int x2)], [], (hX I F sd)) = (if x2 < ((F 4) 21) then pm_EV (pm_run mt (d + 2)) (some .int) oX0_due (4, [some (.ref 3), some (.int (x1 + (hcell ((F 4)) (12 + x2)))), some (.int (x2 + 1))], [], (hX I F sd)) else some (some (.int (x1 / 10)), (hX I F sd))) := by
  refine Eq.trans (b := pm_EV (pm_run mt (d + 2)) (some .int) oX0_due (7, [some (.ref 3), some (.int x1), some (.int x2)], [.int ((F 4) 21), .int x2], (hX I F sd))) (pm_EV_cl 2 (call := pm_run mt (d + 2)) (d := (6, [some (.ref 3), some (.int x1), some (.int x2)], [.ref 3, .int x2], (hX I F sd))) (a := 7) (as := [.ref 3]) (hp := (hX I F sd)) (hp2 := (hX I F sd)) (i2 := 7) (ls := [some (.ref 3), some (.int x1), some (.int x2)]) (rest := [.int x2]) (r := some (.int ((F 4) 21))) rfl rfl (sp_X0_foods_3 (d + 1) I F sd  )) ?_
  refine Eq.trans (pm_EV_at 0 (d := (7, [some (.ref 3), some (.int x1), some (.int x2)], [.int ((F 4) 21), .int x2], (hX I F sd))) (x := if x2 < ((F 4) 21) then .inl (8, [some (.ref 3), some (.int x1), some (.int x2)], [], (hX I F sd)) else .inl (16, [some (.ref 3), some (.int x1), some (.int x2)], [], (hX I F sd))) rfl rfl) ?_
  refine pm_rc (fun p1 => ?_) (fun p1 => ?_)
  · show pm_EV (pm_run mt (d + 2)) (some .int) oX0_due (8, [some (.ref 3), some (.int x1), some (.int x2)], [], (hX I F sd)) = _
    refine Eq.trans (b := pm_EV (pm_run mt (d + 2)) (some .int) oX0_due (12, [some (.ref 3), some (.int x1), some (.int x2)], [.int (hcell ((F 4)) (12 + x2)), .int x1], (hX I F sd))) (pm_EV_cl 3 (call := pm_run mt (d + 2)) (d := (11, [some (.ref 3), some (.int x1), some (.int x2)], [.int x2, .ref 3, .int x1], (hX I F sd))) (a := 19) (as := [.ref 3, .int x2]) (hp := (hX I F sd)) (hp2 := (hX I F sd)) (i2 := 12) (ls := [some (.ref 3), some (.int x1), some (.int x2)]) (rest := [.int x1]) (r := some (.int (hcell ((F 4)) (12 + x2)))) rfl rfl (sp_X0_newlyPut_3 (d + 0) I F sd x2 )) ?_
    exact pm_EV_go 4 (d := (4, [some (.ref 3), some (.int (x1 + (hcell ((F 4)) (12 + x2)))), some (.int (x2 + 1))], [], (hX I F sd))) rfl
  · show pm_EV (pm_run mt (d + 2)) (some .int) oX0_due (16, [some (.ref 3), some (.int x1), some (.int x2)], [], (hX I F sd)) = _
    exact pm_EV_at 3 (d := (19, [some (.ref 3), some (.int x1), some (.int x2)], [.int (x1 / 10)], (hX I F sd))) rfl rfl
set_option maxRecDepth 100000 in
set_option maxHeartbeats 4000000 in
theorem en_X0_due_3 (d : Nat) (I : Nat → Int32) (F : Nat → Nat → Int32) (sd : Int64) : pm_run mt (d + 3) 24 [.ref 3] (hX I F sd) = pm_EV (pm_run mt (d + 2)) (some .int) oX0_due (0, [some (.ref 3), none, none], [], (hX I F sd)) := rfl
set_option maxRecDepth 100000 in
set_option maxHeartbeats 4000000 in
theorem sp_X0_due_3 (d : Nat) (I : Nat → Int32) (F : Nat → Nat → Int32) (sd : Int64) : pm_run mt (d + 3) 24 [.ref 3] (hX I F sd) = some (some (.int (hdue (F 4))), (hX I F sd)) := by
  rw [en_X0_due_3, tr_X0_due_3_0]
  have key : ∀ (m k : Nat), k + m = (F 4 21).toNatClampNeg → pm_EV (pm_run mt (d + 2)) (some .int) oX0_due (4, [some (.ref 3), some (.int (hdueS (F 4) k)), some (.int (nI k))], [], hX I F sd) = some (some (.int (hdue (F 4))), hX I F sd) := by
    intro m
    induction m with
    | zero =>
      intro k hk
      have hb := cl_bd (F 4 21)
      rw [tr_X0_due_3_4, if_neg (fun h => by rw [cl_lt (by omega)] at h; omega), hdue, ← hk]
      rfl
    | succ m ih =>
      intro k hk
      have hb := cl_bd (F 4 21)
      rw [tr_X0_due_3_4, if_pos ((cl_lt (by omega)).mpr (by omega)), nI_p1]
      exact ih (k + 1) (by omega)
  exact key _ 0 (Nat.zero_add _)
set_option maxRecDepth 100000 in
set_option maxHeartbeats 4000000 in
theorem tr_X0_shortBy_3_0 (d : Nat) (I : Nat → Int32) (F : Nat → Nat → Int32) (sd : Int64) : pm_EV (pm_run mt (d + 3)) (some .int) oX0_shortBy (0, [some (.ref 3), none, none], [], (hX I F sd)) = pm_EV (pm_run mt (d + 3)) (some .int) oX0_shortBy (5, [some (.ref 3), some (.int (hdue ((F 4)))), some (.int 0)], [], (hX I F sd)) := by
  refine Eq.trans (b := pm_EV (pm_run mt (d + 3)) (some .int) oX0_shortBy (2, [some (.ref 3), none, none], [.int (hdue ((F 4)))], (hX I F sd))) (pm_EV_cl 1 (call := pm_run mt (d + 3)) (d := (1, [some (.ref 3), none, none], [.ref 3], (hX I F sd))) (a := 24) (as := [.ref 3]) (hp := (hX I F sd)) (hp2 := (hX I F sd)) (i2 := 2) (ls := [some (.ref 3), none, none]) (rest := []) (r := some (.int (hdue ((F 4))))) rfl rfl (sp_X0_due_3 (d + 0) I F sd  )) ?_
  exact pm_EV_go 3 (d := (5, [some (.ref 3), some (.int (hdue ((F 4)))), some (.int 0)], [], (hX I F sd))) rfl
set_option maxRecDepth 100000 in
set_option maxHeartbeats 4000000 in
theorem tr_X0_shortBy_3_5 (d : Nat) (I : Nat → Int32) (F : Nat → Nat → Int32) (sd : Int64) (x1 : Int32) (x2 : Int32) : pm_EV (pm_run mt (d + 3)) (some .int) oX0_shortBy (5, [some (.ref 3), some (.int x1), some (.int x2)], [], (hX I F sd)) = (if x2 < ((F 4) 21) then pm_EV (pm_run mt (d + 3)) (some .int) oX0_shortBy (5, [some (.ref 3), some (.int (x1 - (hworth ((F 4)) x2 0))), some (.int (x2 + 1))], [], (hX I F sd)) else some (some (.int (if 0 < x1 then x1 else 0)), (hX I F sd))) := by
  refine Eq.trans (b := pm_EV (pm_run mt (d + 3)) (some .int) oX0_shortBy (8, [some (.ref 3), some (.int x1), some (.int x2)], [.int ((F 4) 21), .int x2], (hX I F sd))) (pm_EV_cl 2 (call := pm_run mt (d + 3)) (d := (7, [some (.ref 3), some (.int x1), some (.int x2)], [.ref 3, .int x2], (hX I F sd))) (a := 7) (as := [.ref 3]) (hp := (hX I F sd)) (hp2 := (hX I F sd)) (i2 := 8) (ls := [some (.ref 3), some (.int x1), some (.int x2)]) (rest := [.int x2]) (r := some (.int ((F 4) 21))) rfl rfl (sp_X0_foods_3 (d + 2) I F sd  )) ?_
  refine Eq.trans (pm_EV_at 0 (d := (8, [some (.ref 3), some (.int x1), some (.int x2)], [.int ((F 4) 21), .int x2], (hX I F sd))) (x := if x2 < ((F 4) 21) then .inl (9, [some (.ref 3), some (.int x1), some (.int x2)], [], (hX I F sd)) else .inl (17, [some (.ref 3), some (.int x1), some (.int x2)], [], (hX I F sd))) rfl rfl) ?_
  refine pm_rc (fun p1 => ?_) (fun p1 => ?_)
  · show pm_EV (pm_run mt (d + 3)) (some .int) oX0_shortBy (9, [some (.ref 3), some (.int x1), some (.int x2)], [], (hX I F sd)) = _
    refine Eq.trans (b := pm_EV (pm_run mt (d + 3)) (some .int) oX0_shortBy (13, [some (.ref 3), some (.int x1), some (.int x2)], [.int (hworth ((F 4)) x2 0), .int x1], (hX I F sd))) (pm_EV_cl 3 (call := pm_run mt (d + 3)) (d := (12, [some (.ref 3), some (.int x1), some (.int x2)], [.int x2, .ref 3, .int x1], (hX I F sd))) (a := 21) (as := [.ref 3, .int x2]) (hp := (hX I F sd)) (hp2 := (hX I F sd)) (i2 := 13) (ls := [some (.ref 3), some (.int x1), some (.int x2)]) (rest := [.int x1]) (r := some (.int (hworth ((F 4)) x2 0))) rfl rfl (sp_X0_worth_3 (d + 0) I F sd x2 )) ?_
    exact pm_EV_go 4 (d := (5, [some (.ref 3), some (.int (x1 - (hworth ((F 4)) x2 0))), some (.int (x2 + 1))], [], (hX I F sd))) rfl
  · show pm_EV (pm_run mt (d + 3)) (some .int) oX0_shortBy (17, [some (.ref 3), some (.int x1), some (.int x2)], [], (hX I F sd)) = _
    exact pm_EV_at 3 (d := (20, [some (.ref 3), some (.int x1), some (.int x2)], [.int (if 0 < x1 then x1 else 0)], (hX I F sd))) rfl rfl
set_option maxRecDepth 100000 in
set_option maxHeartbeats 4000000 in
theorem en_X0_shortBy_3 (d : Nat) (I : Nat → Int32) (F : Nat → Nat → Int32) (sd : Int64) : pm_run mt (d + 4) 25 [.ref 3] (hX I F sd) = pm_EV (pm_run mt (d + 3)) (some .int) oX0_shortBy (0, [some (.ref 3), none, none], [], (hX I F sd)) := rfl
set_option maxRecDepth 100000 in
set_option maxHeartbeats 4000000 in
theorem sp_X0_shortBy_3 (d : Nat) (I : Nat → Int32) (F : Nat → Nat → Int32) (sd : Int64) : pm_run mt (d + 4) 25 [.ref 3] (hX I F sd) = some (some (.int (hshort (F 4))), (hX I F sd)) := by
  rw [en_X0_shortBy_3, tr_X0_shortBy_3_0]
  have key : ∀ (m k : Nat), k + m = (F 4 21).toNatClampNeg → pm_EV (pm_run mt (d + 3)) (some .int) oX0_shortBy (5, [some (.ref 3), some (.int (hlackS (F 4) k)), some (.int (nI k))], [], hX I F sd) = some (some (.int (hshort (F 4))), hX I F sd) := by
    intro m
    induction m with
    | zero =>
      intro k hk
      have hb := cl_bd (F 4 21)
      rw [tr_X0_shortBy_3_5, if_neg (fun h => by rw [cl_lt (by omega)] at h; omega), hshort, ← hk]
      rfl
    | succ m ih =>
      intro k hk
      have hb := cl_bd (F 4 21)
      rw [tr_X0_shortBy_3_5, if_pos ((cl_lt (by omega)).mpr (by omega)), nI_p1]
      exact ih (k + 1) (by omega)
  exact key _ 0 (Nat.zero_add _)
set_option maxRecDepth 100000 in
set_option maxHeartbeats 4000000 in
theorem tr_X0_worthWith_5_0 (d : Nat) (I : Nat → Int32) (F : Nat → Nat → Int32) (sd : Int64) (q : Int32) (m : Int32) : pm_EV (pm_run mt (d + 1)) (some .int) oX0_worthWith (0, [some (.ref 5), some (.int q), some (.int m), none], [], (hX I F sd)) = (if (hcell ((F 6)) (0 + q)) = 1 then some (some (.int (2 * ((hcell ((F 6)) (8 + q)) + m))), (hX I F sd)) else (if (hcell ((F 6)) (0 + q)) = 2 then some (some (.int (((hcell ((F 6)) (8 + q)) + m) / 2)), (hX I F sd)) else some (some (.int ((hcell ((F 6)) (8 + q)) + m)), (hX I F sd)))) := by
  refine Eq.trans (b := pm_EV (pm_run mt (d + 1)) (some .int) oX0_worthWith (5, [some (.ref 5), some (.int q), some (.int m), none], [.int (hcell ((F 6)) (8 + q))], (hX I F sd))) (pm_EV_cl 4 (call := pm_run mt (d + 1)) (d := (4, [some (.ref 5), some (.int q), some (.int m), none], [.int (8 + q), .ref 5], (hX I F sd))) (a := 0) (as := [.ref 5, .int (8 + q)]) (hp := (hX I F sd)) (hp2 := (hX I F sd)) (i2 := 5) (ls := [some (.ref 5), some (.int q), some (.int m), none]) (rest := []) (r := some (.int (hcell ((F 6)) (8 + q)))) rfl rfl (sp_X0_cell_5 (d + 0) I F sd (8 + q) )) ?_
  refine Eq.trans (b := pm_EV (pm_run mt (d + 1)) (some .int) oX0_worthWith (13, [some (.ref 5), some (.int q), some (.int m), some (.int ((hcell ((F 6)) (8 + q)) + m))], [.int (hcell ((F 6)) (0 + q))], (hX I F sd))) (pm_EV_cl 7 (call := pm_run mt (d + 1)) (d := (12, [some (.ref 5), some (.int q), some (.int m), some (.int ((hcell ((F 6)) (8 + q)) + m))], [.int (0 + q), .ref 5], (hX I F sd))) (a := 0) (as := [.ref 5, .int (0 + q)]) (hp := (hX I F sd)) (hp2 := (hX I F sd)) (i2 := 13) (ls := [some (.ref 5), some (.int q), some (.int m), some (.int ((hcell ((F 6)) (8 + q)) + m))]) (rest := []) (r := some (.int (hcell ((F 6)) (0 + q)))) rfl rfl (sp_X0_cell_5 (d + 0) I F sd (0 + q) )) ?_
  refine Eq.trans (pm_EV_at 0 (d := (13, [some (.ref 5), some (.int q), some (.int m), some (.int ((hcell ((F 6)) (8 + q)) + m))], [.int (hcell ((F 6)) (0 + q))], (hX I F sd))) (x := if (hcell ((F 6)) (0 + q)) = 1 then .inl (14, [some (.ref 5), some (.int q), some (.int m), some (.int ((hcell ((F 6)) (8 + q)) + m))], [], (hX I F sd)) else if (hcell ((F 6)) (0 + q)) = 2 then .inl (18, [some (.ref 5), some (.int q), some (.int m), some (.int ((hcell ((F 6)) (8 + q)) + m))], [], (hX I F sd)) else .inl (22, [some (.ref 5), some (.int q), some (.int m), some (.int ((hcell ((F 6)) (8 + q)) + m))], [], (hX I F sd))) rfl rfl) ?_
  refine pm_rc (fun p1 => ?_) (fun p1 => ?_)
  · show pm_EV (pm_run mt (d + 1)) (some .int) oX0_worthWith (14, [some (.ref 5), some (.int q), some (.int m), some (.int ((hcell ((F 6)) (8 + q)) + m))], [], (hX I F sd)) = _
    exact pm_EV_at 3 (d := (17, [some (.ref 5), some (.int q), some (.int m), some (.int ((hcell ((F 6)) (8 + q)) + m))], [.int (2 * ((hcell ((F 6)) (8 + q)) + m))], (hX I F sd))) rfl rfl
  · refine pm_rc (fun p2 => ?_) (fun p2 => ?_)
    · show pm_EV (pm_run mt (d + 1)) (some .int) oX0_worthWith (18, [some (.ref 5), some (.int q), some (.int m), some (.int ((hcell ((F 6)) (8 + q)) + m))], [], (hX I F sd)) = _
      exact pm_EV_at 3 (d := (21, [some (.ref 5), some (.int q), some (.int m), some (.int ((hcell ((F 6)) (8 + q)) + m))], [.int (((hcell ((F 6)) (8 + q)) + m) / 2)], (hX I F sd))) rfl rfl
    · show pm_EV (pm_run mt (d + 1)) (some .int) oX0_worthWith (22, [some (.ref 5), some (.int q), some (.int m), some (.int ((hcell ((F 6)) (8 + q)) + m))], [], (hX I F sd)) = _
      exact pm_EV_at 1 (d := (23, [some (.ref 5), some (.int q), some (.int m), some (.int ((hcell ((F 6)) (8 + q)) + m))], [.int ((hcell ((F 6)) (8 + q)) + m)], (hX I F sd))) rfl rfl
set_option maxRecDepth 100000 in
set_option maxHeartbeats 4000000 in
theorem en_X0_worthWith_5 (d : Nat) (I : Nat → Int32) (F : Nat → Nat → Int32) (sd : Int64) (q : Int32) (m : Int32) : pm_run mt (d + 2) 22 [.ref 5, .int q, .int m] (hX I F sd) = pm_EV (pm_run mt (d + 1)) (some .int) oX0_worthWith (0, [some (.ref 5), some (.int q), some (.int m), none], [], (hX I F sd)) := rfl
set_option maxRecDepth 100000 in
set_option maxHeartbeats 4000000 in
theorem sp_X0_worthWith_5 (d : Nat) (I : Nat → Int32) (F : Nat → Nat → Int32) (sd : Int64) (q : Int32) (m : Int32) : pm_run mt (d + 2) 22 [.ref 5, .int q, .int m] (hX I F sd) = some (some (.int (hworth (F 6) q m)), (hX I F sd)) := by
  rw [en_X0_worthWith_5, tr_X0_worthWith_5_0]
  unfold hworth
  simp only [pm_pi]
set_option maxRecDepth 100000 in
set_option maxHeartbeats 4000000 in
theorem tr_X0_worth_5_0 (d : Nat) (I : Nat → Int32) (F : Nat → Nat → Int32) (sd : Int64) (q : Int32) : pm_EV (pm_run mt (d + 2)) (some .int) oX0_worth (0, [some (.ref 5), some (.int q)], [], (hX I F sd)) = some (some (.int (hworth ((F 6)) q 0)), (hX I F sd)) := by
  refine Eq.trans (b := pm_EV (pm_run mt (d + 2)) (some .int) oX0_worth (4, [some (.ref 5), some (.int q)], [.int (hworth ((F 6)) q 0)], (hX I F sd))) (pm_EV_cl 3 (call := pm_run mt (d + 2)) (d := (3, [some (.ref 5), some (.int q)], [.int 0, .int q, .ref 5], (hX I F sd))) (a := 22) (as := [.ref 5, .int q, .int 0]) (hp := (hX I F sd)) (hp2 := (hX I F sd)) (i2 := 4) (ls := [some (.ref 5), some (.int q)]) (rest := []) (r := some (.int (hworth ((F 6)) q 0))) rfl rfl (sp_X0_worthWith_5 (d + 0) I F sd q 0 )) ?_
  exact pm_EV_at 0 (d := (4, [some (.ref 5), some (.int q)], [.int (hworth ((F 6)) q 0)], (hX I F sd))) rfl rfl
set_option maxRecDepth 100000 in
set_option maxHeartbeats 4000000 in
theorem en_X0_worth_5 (d : Nat) (I : Nat → Int32) (F : Nat → Nat → Int32) (sd : Int64) (q : Int32) : pm_run mt (d + 3) 21 [.ref 5, .int q] (hX I F sd) = pm_EV (pm_run mt (d + 2)) (some .int) oX0_worth (0, [some (.ref 5), some (.int q)], [], (hX I F sd)) := rfl
set_option maxRecDepth 100000 in
set_option maxHeartbeats 4000000 in
theorem sp_X0_worth_5 (d : Nat) (I : Nat → Int32) (F : Nat → Nat → Int32) (sd : Int64) (q : Int32) : pm_run mt (d + 3) 21 [.ref 5, .int q] (hX I F sd) = some (some (.int (hworth (F 6) q 0)), (hX I F sd)) := by
  rw [en_X0_worth_5, tr_X0_worth_5_0]
set_option maxRecDepth 100000 in
set_option maxHeartbeats 4000000 in
theorem tr_X0_grainsAtOnce_5_0 (d : Nat) (I : Nat → Int32) (F : Nat → Nat → Int32) (sd : Int64) (q : Int32) : pm_EV (pm_run mt (d + 2)) (some .int) oX0_grainsAtOnce (0, [some (.ref 5), some (.int q)], [], (hX I F sd)) = (if (hcell ((F 6)) (0 + q)) = 3 then some (some (.int 10), (hX I F sd)) else some (some (.int 1), (hX I F sd))) := by
  refine Eq.trans (b := pm_EV (pm_run mt (d + 2)) (some .int) oX0_grainsAtOnce (3, [some (.ref 5), some (.int q)], [.int (hcell ((F 6)) (0 + q))], (hX I F sd))) (pm_EV_cl 2 (call := pm_run mt (d + 2)) (d := (2, [some (.ref 5), some (.int q)], [.int q, .ref 5], (hX I F sd))) (a := 16) (as := [.ref 5, .int q]) (hp := (hX I F sd)) (hp2 := (hX I F sd)) (i2 := 3) (ls := [some (.ref 5), some (.int q)]) (rest := []) (r := some (.int (hcell ((F 6)) (0 + q)))) rfl rfl (sp_X0_kind_5 (d + 0) I F sd q )) ?_
  refine Eq.trans (pm_EV_at 1 (d := (4, [some (.ref 5), some (.int q)], [.int 3, .int (hcell ((F 6)) (0 + q))], (hX I F sd))) (x := if (hcell ((F 6)) (0 + q)) = 3 then .inl (5, [some (.ref 5), some (.int q)], [], (hX I F sd)) else .inl (7, [some (.ref 5), some (.int q)], [], (hX I F sd))) rfl rfl) ?_
  refine pm_rc (fun p1 => ?_) (fun p1 => ?_)
  · show pm_EV (pm_run mt (d + 2)) (some .int) oX0_grainsAtOnce (5, [some (.ref 5), some (.int q)], [], (hX I F sd)) = _
    exact pm_EV_at 2 (d := (8, [some (.ref 5), some (.int q)], [.int 10], (hX I F sd))) rfl rfl
  · show pm_EV (pm_run mt (d + 2)) (some .int) oX0_grainsAtOnce (7, [some (.ref 5), some (.int q)], [], (hX I F sd)) = _
    exact pm_EV_at 1 (d := (8, [some (.ref 5), some (.int q)], [.int 1], (hX I F sd))) rfl rfl
set_option maxRecDepth 100000 in
set_option maxHeartbeats 4000000 in
theorem en_X0_grainsAtOnce_5 (d : Nat) (I : Nat → Int32) (F : Nat → Nat → Int32) (sd : Int64) (q : Int32) : pm_run mt (d + 3) 23 [.ref 5, .int q] (hX I F sd) = pm_EV (pm_run mt (d + 2)) (some .int) oX0_grainsAtOnce (0, [some (.ref 5), some (.int q)], [], (hX I F sd)) := rfl
set_option maxRecDepth 100000 in
set_option maxHeartbeats 4000000 in
theorem sp_X0_grainsAtOnce_5 (d : Nat) (I : Nat → Int32) (F : Nat → Nat → Int32) (sd : Int64) (q : Int32) : pm_run mt (d + 3) 23 [.ref 5, .int q] (hX I F sd) = some (some (.int (hgr (F 6) q)), (hX I F sd)) := by
  rw [en_X0_grainsAtOnce_5, tr_X0_grainsAtOnce_5_0]
  unfold hgr
  by_cases e1 : hcell (F 6) (0 + q) = 3 <;> simp only [e1, if_true, if_false]
set_option maxRecDepth 100000 in
set_option maxHeartbeats 4000000 in
theorem tr_X0_due_5_0 (d : Nat) (I : Nat → Int32) (F : Nat → Nat → Int32) (sd : Int64) : pm_EV (pm_run mt (d + 2)) (some .int) oX0_due (0, [some (.ref 5), none, none], [], (hX I F sd)) = pm_EV (pm_run mt (d + 2)) (some .int) oX0_due (4, [some (.ref 5), some (.int 0), some (.int 0)], [], (hX I F sd)) := by
  exact pm_EV_go 4 (d := (4, [some (.ref 5), some (.int 0), some (.int 0)], [], (hX I F sd))) rfl
set_option maxRecDepth 100000 in
set_option maxHeartbeats 4000000 in
theorem tr_X0_due_5_4 (d : Nat) (I : Nat → Int32) (F : Nat → Nat → Int32) (sd : Int64) (x1 : Int32) (x2 : Int32) : pm_EV (pm_run mt (d + 2)) (some .int) oX0_due (4, [some (.ref 5), some (.int x1), some (.int x2)], [], (hX I F sd)) = (if x2 < ((F 6) 21) then pm_EV (pm_run mt (d + 2)) (some .int) oX0_due (4, [some (.ref 5), some (.int (x1 + (hcell ((F 6)) (12 + x2)))), some (.int (x2 + 1))], [], (hX I F sd)) else some (some (.int (x1 / 10)), (hX I F sd))) := by
  refine Eq.trans (b := pm_EV (pm_run mt (d + 2)) (some .int) oX0_due (7, [some (.ref 5), some (.int x1), some (.int x2)], [.int ((F 6) 21), .int x2], (hX I F sd))) (pm_EV_cl 2 (call := pm_run mt (d + 2)) (d := (6, [some (.ref 5), some (.int x1), some (.int x2)], [.ref 5, .int x2], (hX I F sd))) (a := 7) (as := [.ref 5]) (hp := (hX I F sd)) (hp2 := (hX I F sd)) (i2 := 7) (ls := [some (.ref 5), some (.int x1), some (.int x2)]) (rest := [.int x2]) (r := some (.int ((F 6) 21))) rfl rfl (sp_X0_foods_5 (d + 1) I F sd  )) ?_
  refine Eq.trans (pm_EV_at 0 (d := (7, [some (.ref 5), some (.int x1), some (.int x2)], [.int ((F 6) 21), .int x2], (hX I F sd))) (x := if x2 < ((F 6) 21) then .inl (8, [some (.ref 5), some (.int x1), some (.int x2)], [], (hX I F sd)) else .inl (16, [some (.ref 5), some (.int x1), some (.int x2)], [], (hX I F sd))) rfl rfl) ?_
  refine pm_rc (fun p1 => ?_) (fun p1 => ?_)
  · show pm_EV (pm_run mt (d + 2)) (some .int) oX0_due (8, [some (.ref 5), some (.int x1), some (.int x2)], [], (hX I F sd)) = _
    refine Eq.trans (b := pm_EV (pm_run mt (d + 2)) (some .int) oX0_due (12, [some (.ref 5), some (.int x1), some (.int x2)], [.int (hcell ((F 6)) (12 + x2)), .int x1], (hX I F sd))) (pm_EV_cl 3 (call := pm_run mt (d + 2)) (d := (11, [some (.ref 5), some (.int x1), some (.int x2)], [.int x2, .ref 5, .int x1], (hX I F sd))) (a := 19) (as := [.ref 5, .int x2]) (hp := (hX I F sd)) (hp2 := (hX I F sd)) (i2 := 12) (ls := [some (.ref 5), some (.int x1), some (.int x2)]) (rest := [.int x1]) (r := some (.int (hcell ((F 6)) (12 + x2)))) rfl rfl (sp_X0_newlyPut_5 (d + 0) I F sd x2 )) ?_
    exact pm_EV_go 4 (d := (4, [some (.ref 5), some (.int (x1 + (hcell ((F 6)) (12 + x2)))), some (.int (x2 + 1))], [], (hX I F sd))) rfl
  · show pm_EV (pm_run mt (d + 2)) (some .int) oX0_due (16, [some (.ref 5), some (.int x1), some (.int x2)], [], (hX I F sd)) = _
    exact pm_EV_at 3 (d := (19, [some (.ref 5), some (.int x1), some (.int x2)], [.int (x1 / 10)], (hX I F sd))) rfl rfl
set_option maxRecDepth 100000 in
set_option maxHeartbeats 4000000 in
theorem en_X0_due_5 (d : Nat) (I : Nat → Int32) (F : Nat → Nat → Int32) (sd : Int64) : pm_run mt (d + 3) 24 [.ref 5] (hX I F sd) = pm_EV (pm_run mt (d + 2)) (some .int) oX0_due (0, [some (.ref 5), none, none], [], (hX I F sd)) := rfl
set_option maxRecDepth 100000 in
set_option maxHeartbeats 4000000 in
theorem sp_X0_due_5 (d : Nat) (I : Nat → Int32) (F : Nat → Nat → Int32) (sd : Int64) : pm_run mt (d + 3) 24 [.ref 5] (hX I F sd) = some (some (.int (hdue (F 6))), (hX I F sd)) := by
  rw [en_X0_due_5, tr_X0_due_5_0]
  have key : ∀ (m k : Nat), k + m = (F 6 21).toNatClampNeg → pm_EV (pm_run mt (d + 2)) (some .int) oX0_due (4, [some (.ref 5), some (.int (hdueS (F 6) k)), some (.int (nI k))], [], hX I F sd) = some (some (.int (hdue (F 6))), hX I F sd) := by
    intro m
    induction m with
    | zero =>
      intro k hk
      have hb := cl_bd (F 6 21)
      rw [tr_X0_due_5_4, if_neg (fun h => by rw [cl_lt (by omega)] at h; omega), hdue, ← hk]
      rfl
    | succ m ih =>
      intro k hk
      have hb := cl_bd (F 6 21)
      rw [tr_X0_due_5_4, if_pos ((cl_lt (by omega)).mpr (by omega)), nI_p1]
      exact ih (k + 1) (by omega)
  exact key _ 0 (Nat.zero_add _)
set_option maxRecDepth 100000 in
set_option maxHeartbeats 4000000 in
theorem tr_X0_shortBy_5_0 (d : Nat) (I : Nat → Int32) (F : Nat → Nat → Int32) (sd : Int64) : pm_EV (pm_run mt (d + 3)) (some .int) oX0_shortBy (0, [some (.ref 5), none, none], [], (hX I F sd)) = pm_EV (pm_run mt (d + 3)) (some .int) oX0_shortBy (5, [some (.ref 5), some (.int (hdue ((F 6)))), some (.int 0)], [], (hX I F sd)) := by
  refine Eq.trans (b := pm_EV (pm_run mt (d + 3)) (some .int) oX0_shortBy (2, [some (.ref 5), none, none], [.int (hdue ((F 6)))], (hX I F sd))) (pm_EV_cl 1 (call := pm_run mt (d + 3)) (d := (1, [some (.ref 5), none, none], [.ref 5], (hX I F sd))) (a := 24) (as := [.ref 5]) (hp := (hX I F sd)) (hp2 := (hX I F sd)) (i2 := 2) (ls := [some (.ref 5), none, none]) (rest := []) (r := some (.int (hdue ((F 6))))) rfl rfl (sp_X0_due_5 (d + 0) I F sd  )) ?_
  exact pm_EV_go 3 (d := (5, [some (.ref 5), some (.int (hdue ((F 6)))), some (.int 0)], [], (hX I F sd))) rfl
set_option maxRecDepth 100000 in
set_option maxHeartbeats 4000000 in
theorem tr_X0_shortBy_5_5 (d : Nat) (I : Nat → Int32) (F : Nat → Nat → Int32) (sd : Int64) (x1 : Int32) (x2 : Int32) : pm_EV (pm_run mt (d + 3)) (some .int) oX0_shortBy (5, [some (.ref 5), some (.int x1), some (.int x2)], [], (hX I F sd)) = (if x2 < ((F 6) 21) then pm_EV (pm_run mt (d + 3)) (some .int) oX0_shortBy (5, [some (.ref 5), some (.int (x1 - (hworth ((F 6)) x2 0))), some (.int (x2 + 1))], [], (hX I F sd)) else some (some (.int (if 0 < x1 then x1 else 0)), (hX I F sd))) := by
  refine Eq.trans (b := pm_EV (pm_run mt (d + 3)) (some .int) oX0_shortBy (8, [some (.ref 5), some (.int x1), some (.int x2)], [.int ((F 6) 21), .int x2], (hX I F sd))) (pm_EV_cl 2 (call := pm_run mt (d + 3)) (d := (7, [some (.ref 5), some (.int x1), some (.int x2)], [.ref 5, .int x2], (hX I F sd))) (a := 7) (as := [.ref 5]) (hp := (hX I F sd)) (hp2 := (hX I F sd)) (i2 := 8) (ls := [some (.ref 5), some (.int x1), some (.int x2)]) (rest := [.int x2]) (r := some (.int ((F 6) 21))) rfl rfl (sp_X0_foods_5 (d + 2) I F sd  )) ?_
  refine Eq.trans (pm_EV_at 0 (d := (8, [some (.ref 5), some (.int x1), some (.int x2)], [.int ((F 6) 21), .int x2], (hX I F sd))) (x := if x2 < ((F 6) 21) then .inl (9, [some (.ref 5), some (.int x1), some (.int x2)], [], (hX I F sd)) else .inl (17, [some (.ref 5), some (.int x1), some (.int x2)], [], (hX I F sd))) rfl rfl) ?_
  refine pm_rc (fun p1 => ?_) (fun p1 => ?_)
  · show pm_EV (pm_run mt (d + 3)) (some .int) oX0_shortBy (9, [some (.ref 5), some (.int x1), some (.int x2)], [], (hX I F sd)) = _
    refine Eq.trans (b := pm_EV (pm_run mt (d + 3)) (some .int) oX0_shortBy (13, [some (.ref 5), some (.int x1), some (.int x2)], [.int (hworth ((F 6)) x2 0), .int x1], (hX I F sd))) (pm_EV_cl 3 (call := pm_run mt (d + 3)) (d := (12, [some (.ref 5), some (.int x1), some (.int x2)], [.int x2, .ref 5, .int x1], (hX I F sd))) (a := 21) (as := [.ref 5, .int x2]) (hp := (hX I F sd)) (hp2 := (hX I F sd)) (i2 := 13) (ls := [some (.ref 5), some (.int x1), some (.int x2)]) (rest := [.int x1]) (r := some (.int (hworth ((F 6)) x2 0))) rfl rfl (sp_X0_worth_5 (d + 0) I F sd x2 )) ?_
    exact pm_EV_go 4 (d := (5, [some (.ref 5), some (.int (x1 - (hworth ((F 6)) x2 0))), some (.int (x2 + 1))], [], (hX I F sd))) rfl
  · show pm_EV (pm_run mt (d + 3)) (some .int) oX0_shortBy (17, [some (.ref 5), some (.int x1), some (.int x2)], [], (hX I F sd)) = _
    exact pm_EV_at 3 (d := (20, [some (.ref 5), some (.int x1), some (.int x2)], [.int (if 0 < x1 then x1 else 0)], (hX I F sd))) rfl rfl
set_option maxRecDepth 100000 in
set_option maxHeartbeats 4000000 in
theorem en_X0_shortBy_5 (d : Nat) (I : Nat → Int32) (F : Nat → Nat → Int32) (sd : Int64) : pm_run mt (d + 4) 25 [.ref 5] (hX I F sd) = pm_EV (pm_run mt (d + 3)) (some .int) oX0_shortBy (0, [some (.ref 5), none, none], [], (hX I F sd)) := rfl
set_option maxRecDepth 100000 in
set_option maxHeartbeats 4000000 in
theorem sp_X0_shortBy_5 (d : Nat) (I : Nat → Int32) (F : Nat → Nat → Int32) (sd : Int64) : pm_run mt (d + 4) 25 [.ref 5] (hX I F sd) = some (some (.int (hshort (F 6))), (hX I F sd)) := by
  rw [en_X0_shortBy_5, tr_X0_shortBy_5_0]
  have key : ∀ (m k : Nat), k + m = (F 6 21).toNatClampNeg → pm_EV (pm_run mt (d + 3)) (some .int) oX0_shortBy (5, [some (.ref 5), some (.int (hlackS (F 6) k)), some (.int (nI k))], [], hX I F sd) = some (some (.int (hshort (F 6))), hX I F sd) := by
    intro m
    induction m with
    | zero =>
      intro k hk
      have hb := cl_bd (F 6 21)
      rw [tr_X0_shortBy_5_5, if_neg (fun h => by rw [cl_lt (by omega)] at h; omega), hshort, ← hk]
      rfl
    | succ m ih =>
      intro k hk
      have hb := cl_bd (F 6 21)
      rw [tr_X0_shortBy_5_5, if_pos ((cl_lt (by omega)).mpr (by omega)), nI_p1]
      exact ih (k + 1) (by omega)
  exact key _ 0 (Nat.zero_add _)
end
section
/-! the class: text; the house's larger methods -/
def txOk (n : Int32) : Prop := ∃ k : Nat, k ≤ 48 ∧ n = nI k
def tby (n : Int32) (f : Nat → Int32) (q : Int32) : Int32 := if q < 0 then 0 else if q < n then f q.toNatClampNeg else 0
def tfit (l w : Int32) : Bool := if w = 0 then decide (l = 76) else if w = 3 then (decide (l = 70) || decide (l = 84)) else if w = 5 then (!decide (l < 48) && !decide (51 < l)) else (!decide (l < 48) && !decide (57 < l))
def twan (w l : Int32) : Int32 := if w = 0 then 1 else if w = 1 then 2 else if w = 2 then 3 else if w = 3 then (if l = 70 then 4 else 6) else if w = 4 then 5 else 3
theorem txIn {n q : Int32} (h : txOk n) (h0 : ¬ q < 0) (h1 : q < n) : pm_in q 48 = true := by
  obtain ⟨k, hk, rfl⟩ := h
  obtain ⟨j, hj, rfl⟩ := nI_of h0
  rw [nI_ltI hj (by omega)] at h1
  exact pm_in_nI (by omega) (by decide)
set_option maxRecDepth 100000 in
set_option maxHeartbeats 4000000 in
theorem tr_X6_length_1_0 (d : Nat) (I : Nat → Int32) (F : Nat → Nat → Int32) (sd : Int64) : pm_EV (pm_run mt (d + 0)) (some .int) oX6_length (0, [some (.ref 1)], [], (hX I F sd)) = some (some (.int (I 0)), (hX I F sd)) := by
  exact pm_EV_at 2 (d := (2, [some (.ref 1)], [.int (I 0)], (hX I F sd))) rfl rfl
set_option maxRecDepth 100000 in
set_option maxHeartbeats 4000000 in
theorem en_X6_length_1 (d : Nat) (I : Nat → Int32) (F : Nat → Nat → Int32) (sd : Int64) : pm_run mt (d + 1) 62 [.ref 1] (hX I F sd) = pm_EV (pm_run mt (d + 0)) (some .int) oX6_length (0, [some (.ref 1)], [], (hX I F sd)) := rfl
set_option maxRecDepth 100000 in
set_option maxHeartbeats 4000000 in
theorem sp_X6_length_1 (d : Nat) (I : Nat → Int32) (F : Nat → Nat → Int32) (sd : Int64) : pm_run mt (d + 1) 62 [.ref 1] (hX I F sd) = some (some (.int (I 0)), (hX I F sd)) := by
  rw [en_X6_length_1, tr_X6_length_1_0]
def txA (n l : Int32) : Int32 := if l < 0 then -2 else if 255 < l then -2 else if n < 48 then n + 1 else -4
def txG (n l : Int32) : Prop := ¬ l < 0 ∧ ¬ 255 < l ∧ n < 48
theorem txG_dec (n l : Int32) : txG n l ∨ ¬ txG n l := Classical.em _
noncomputable def txN (n l : Int32) : Int32 := @ite _ (txG n l) (Classical.propDecidable _) (n + 1) n
noncomputable def txB (n l : Int32) (f : Nat → Int32) : Nat → Int32 := @ite _ (txG n l) (Classical.propDecidable _) (upd f n.toNatClampNeg l) f
theorem upd_self (f : Nat → Int32) (k : Nat) : upd f k (f k) = f := by
  funext j
  unfold upd
  by_cases h : j = k
  · rw [if_pos h, h]
  · rw [if_neg h]
theorem uF_self (F : Nat → Nat → Int32) (k : Nat) : uF F k (F k) = F := by
  funext j
  unfold uF
  by_cases h : j = k
  · rw [if_pos h, h]
  · rw [if_neg h]
set_option maxRecDepth 100000 in
set_option maxHeartbeats 4000000 in
theorem tr_X6_add_1_0 (d : Nat) (I : Nat → Int32) (F : Nat → Nat → Int32) (sd : Int64) (l : Int32) (g1 : (¬ (l < 0)) → (¬ (255 < l)) → ((I 0) < 48) → pm_in (I 0) 48 = true) : pm_EV (pm_run mt (d + 0)) (some .int) oX6_add (0, [some (.ref 1), some (.int l)], [], (hX I F sd)) = (if l < 0 then some (some (.int (-2)), (hX I F sd)) else (if 255 < l then some (some (.int (-2)), (hX I F sd)) else (if (I 0) < 48 then some (some (.int ((I 0) + 1)), (hX (upd I 0 ((I 0) + 1)) (uF F 2 (upd (F 2) (I 0).toNatClampNeg l)) sd)) else some (some (.int (-4)), (hX I F sd))))) := by
  refine Eq.trans (pm_EV_at 1 (d := (1, [some (.ref 1), some (.int l)], [.int l], (hX I F sd))) (x := if l < 0 then .inl (5, [some (.ref 1), some (.int l)], [], (hX I F sd)) else .inl (2, [some (.ref 1), some (.int l)], [], (hX I F sd))) rfl rfl) ?_
  refine pm_rc (fun p1 => ?_) (fun p1 => ?_)
  · show pm_EV (pm_run mt (d + 0)) (some .int) oX6_add (5, [some (.ref 1), some (.int l)], [], (hX I F sd)) = _
    exact pm_EV_at 1 (d := (6, [some (.ref 1), some (.int l)], [.int (-2)], (hX I F sd))) rfl rfl
  · show pm_EV (pm_run mt (d + 0)) (some .int) oX6_add (2, [some (.ref 1), some (.int l)], [], (hX I F sd)) = _
    refine Eq.trans (pm_EV_at 2 (d := (4, [some (.ref 1), some (.int l)], [.int 255, .int l], (hX I F sd))) (x := if 255 < l then .inl (5, [some (.ref 1), some (.int l)], [], (hX I F sd)) else .inl (7, [some (.ref 1), some (.int l)], [], (hX I F sd))) rfl rfl) ?_
    refine pm_rc (fun p2 => ?_) (fun p2 => ?_)
    · show pm_EV (pm_run mt (d + 0)) (some .int) oX6_add (5, [some (.ref 1), some (.int l)], [], (hX I F sd)) = _
      exact pm_EV_at 1 (d := (6, [some (.ref 1), some (.int l)], [.int (-2)], (hX I F sd))) rfl rfl
    · show pm_EV (pm_run mt (d + 0)) (some .int) oX6_add (7, [some (.ref 1), some (.int l)], [], (hX I F sd)) = _
      refine Eq.trans (pm_EV_at 3 (d := (10, [some (.ref 1), some (.int l)], [.int 48, .int (I 0)], (hX I F sd))) (x := if (I 0) < 48 then .inl (13, [some (.ref 1), some (.int l)], [], (hX I F sd)) else .inl (11, [some (.ref 1), some (.int l)], [], (hX I F sd))) rfl rfl) ?_
      refine pm_rc (fun p3 => ?_) (fun p3 => ?_)
      · show pm_EV (pm_run mt (d + 0)) (some .int) oX6_add (13, [some (.ref 1), some (.int l)], [], (hX I F sd)) = _
        refine Eq.trans (b := pm_EV (pm_run mt (d + 0)) (some .int) oX6_add (19, [some (.ref 1), some (.int l)], [], (hX I (uF F 2 (upd (F 2) (I 0).toNatClampNeg l)) sd))) (pm_EV_gd 5 (d := (18, [some (.ref 1), some (.int l)], [.int l, .int (I 0), .ref 2], (hX I F sd))) (c1 := (19, [some (.ref 1), some (.int l)], [], (hX I (uF F 2 (upd (F 2) (I 0).toNatClampNeg l)) sd))) rfl rfl (⟨rfl, g1 p1 p2 p3⟩)) ?_
        exact pm_EV_at 8 (d := (27, [some (.ref 1), some (.int l)], [.int ((I 0) + 1)], (hX (upd I 0 ((I 0) + 1)) (uF F 2 (upd (F 2) (I 0).toNatClampNeg l)) sd))) rfl rfl
      · show pm_EV (pm_run mt (d + 0)) (some .int) oX6_add (11, [some (.ref 1), some (.int l)], [], (hX I F sd)) = _
        exact pm_EV_at 1 (d := (12, [some (.ref 1), some (.int l)], [.int (-4)], (hX I F sd))) rfl rfl
set_option maxRecDepth 100000 in
set_option maxHeartbeats 4000000 in
theorem en_X6_add_1 (d : Nat) (I : Nat → Int32) (F : Nat → Nat → Int32) (sd : Int64) (l : Int32) : pm_run mt (d + 1) 63 [.ref 1, .int l] (hX I F sd) = pm_EV (pm_run mt (d + 0)) (some .int) oX6_add (0, [some (.ref 1), some (.int l)], [], (hX I F sd)) := rfl
set_option maxRecDepth 100000 in
set_option maxHeartbeats 4000000 in
theorem sp_X6_add_1 (d : Nat) (I : Nat → Int32) (F : Nat → Nat → Int32) (sd : Int64) (l : Int32) (h1 : txOk (I 0)) : pm_run mt (d + 1) 63 [.ref 1, .int l] (hX I F sd) = some (some (.int (txA (I 0) l)), (hX (upd I 0 (txN (I 0) l)) (uF F 2 (txB (I 0) l (F 2))) sd)) := by
  rw [en_X6_add_1, tr_X6_add_1_0 _ _ _ _ _ (fun _ _ h => by obtain ⟨k, hk, e⟩ := h1; rw [e] at h ⊢; rw [show (48 : Int32) = nI 48 from rfl, nI_ltI (by omega) (by decide)] at h; exact pm_in_nI h (by decide))]
  by_cases hg : txG (I 0) l
  · rw [txN, txB, if_pos hg, if_pos hg, txA, if_neg hg.1, if_neg hg.1, if_neg hg.2.1, if_neg hg.2.1, if_pos hg.2.2, if_pos hg.2.2]
  · rw [txN, txB, if_neg hg, if_neg hg, upd_self, uF_self, txA]
    by_cases e1 : l < 0
    · rw [if_pos e1, if_pos e1]
    · by_cases e2 : 255 < l
      · rw [if_neg e1, if_neg e1, if_pos e2, if_pos e2]
      · rw [if_neg e1, if_neg e1, if_neg e2, if_neg e2, if_neg (fun e3 => hg ⟨e1, e2, e3⟩), if_neg (fun e3 => hg ⟨e1, e2, e3⟩)]
set_option maxRecDepth 100000 in
set_option maxHeartbeats 4000000 in
theorem tr_X6_byteAt_1_0 (d : Nat) (I : Nat → Int32) (F : Nat → Nat → Int32) (sd : Int64) (q : Int32) (g1 : (¬ (q < 0)) → (q < (I 0)) → pm_in q 48 = true) : pm_EV (pm_run mt (d + 0)) (some .int) oX6_byteAt (0, [some (.ref 1), some (.int q)], [], (hX I F sd)) = (if q < 0 then some (some (.int 0), (hX I F sd)) else (if q < (I 0) then some (some (.int ((F 2) q.toNatClampNeg)), (hX I F sd)) else some (some (.int 0), (hX I F sd)))) := by
  refine Eq.trans (pm_EV_at 1 (d := (1, [some (.ref 1), some (.int q)], [.int q], (hX I F sd))) (x := if q < 0 then .inl (11, [some (.ref 1), some (.int q)], [], (hX I F sd)) else .inl (2, [some (.ref 1), some (.int q)], [], (hX I F sd))) rfl rfl) ?_
  refine pm_rc (fun p1 => ?_) (fun p1 => ?_)
  · show pm_EV (pm_run mt (d + 0)) (some .int) oX6_byteAt (11, [some (.ref 1), some (.int q)], [], (hX I F sd)) = _
    exact pm_EV_at 1 (d := (12, [some (.ref 1), some (.int q)], [.int 0], (hX I F sd))) rfl rfl
  · show pm_EV (pm_run mt (d + 0)) (some .int) oX6_byteAt (2, [some (.ref 1), some (.int q)], [], (hX I F sd)) = _
    refine Eq.trans (pm_EV_at 3 (d := (5, [some (.ref 1), some (.int q)], [.int (I 0), .int q], (hX I F sd))) (x := if q < (I 0) then .inl (6, [some (.ref 1), some (.int q)], [], (hX I F sd)) else .inl (11, [some (.ref 1), some (.int q)], [], (hX I F sd))) rfl rfl) ?_
    refine pm_rc (fun p2 => ?_) (fun p2 => ?_)
    · show pm_EV (pm_run mt (d + 0)) (some .int) oX6_byteAt (6, [some (.ref 1), some (.int q)], [], (hX I F sd)) = _
      refine Eq.trans (b := pm_EV (pm_run mt (d + 0)) (some .int) oX6_byteAt (10, [some (.ref 1), some (.int q)], [.int ((F 2) q.toNatClampNeg)], (hX I F sd))) (pm_EV_gd 3 (d := (9, [some (.ref 1), some (.int q)], [.int q, .ref 2], (hX I F sd))) (c1 := (10, [some (.ref 1), some (.int q)], [.int ((F 2) q.toNatClampNeg)], (hX I F sd))) rfl rfl (⟨rfl, g1 p1 p2⟩)) ?_
      exact pm_EV_at 1 (d := (12, [some (.ref 1), some (.int q)], [.int ((F 2) q.toNatClampNeg)], (hX I F sd))) rfl rfl
    · show pm_EV (pm_run mt (d + 0)) (some .int) oX6_byteAt (11, [some (.ref 1), some (.int q)], [], (hX I F sd)) = _
      exact pm_EV_at 1 (d := (12, [some (.ref 1), some (.int q)], [.int 0], (hX I F sd))) rfl rfl
set_option maxRecDepth 100000 in
set_option maxHeartbeats 4000000 in
theorem en_X6_byteAt_1 (d : Nat) (I : Nat → Int32) (F : Nat → Nat → Int32) (sd : Int64) (q : Int32) : pm_run mt (d + 1) 65 [.ref 1, .int q] (hX I F sd) = pm_EV (pm_run mt (d + 0)) (some .int) oX6_byteAt (0, [some (.ref 1), some (.int q)], [], (hX I F sd)) := rfl
set_option maxRecDepth 100000 in
set_option maxHeartbeats 4000000 in
theorem sp_X6_byteAt_1 (d : Nat) (I : Nat → Int32) (F : Nat → Nat → Int32) (sd : Int64) (q : Int32) (h1 : txOk (I 0)) : pm_run mt (d + 1) 65 [.ref 1, .int q] (hX I F sd) = some (some (.int (tby (I 0) (F 2) q)), (hX I F sd)) := by
  rw [en_X6_byteAt_1, tr_X6_byteAt_1_0 _ _ _ _ _ (fun a b => txIn h1 a b)]
  unfold tby
  simp only [pm_pi]
set_option maxRecDepth 100000 in
set_option maxHeartbeats 4000000 in
theorem tr_X6_figureAt_1_0 (d : Nat) (I : Nat → Int32) (F : Nat → Nat → Int32) (sd : Int64) (q : Int32) (g1 : txOk ((I 0))) : pm_EV (pm_run mt (d + 1)) (some .int) oX6_figureAt (0, [some (.ref 1), some (.int q)], [], (hX I F sd)) = some (some (.int ((tby ((I 0)) ((F 2)) q) - 48)), (hX I F sd)) := by
  refine Eq.trans (b := pm_EV (pm_run mt (d + 1)) (some .int) oX6_figureAt (3, [some (.ref 1), some (.int q)], [.int (tby ((I 0)) ((F 2)) q)], (hX I F sd))) (pm_EV_cl 2 (call := pm_run mt (d + 1)) (d := (2, [some (.ref 1), some (.int q)], [.int q, .ref 1], (hX I F sd))) (a := 65) (as := [.ref 1, .int q]) (hp := (hX I F sd)) (hp2 := (hX I F sd)) (i2 := 3) (ls := [some (.ref 1), some (.int q)]) (rest := []) (r := some (.int (tby ((I 0)) ((F 2)) q))) rfl rfl (sp_X6_byteAt_1 (d + 0) I F sd q g1)) ?_
  exact pm_EV_at 2 (d := (5, [some (.ref 1), some (.int q)], [.int ((tby ((I 0)) ((F 2)) q) - 48)], (hX I F sd))) rfl rfl
set_option maxRecDepth 100000 in
set_option maxHeartbeats 4000000 in
theorem en_X6_figureAt_1 (d : Nat) (I : Nat → Int32) (F : Nat → Nat → Int32) (sd : Int64) (q : Int32) : pm_run mt (d + 2) 66 [.ref 1, .int q] (hX I F sd) = pm_EV (pm_run mt (d + 1)) (some .int) oX6_figureAt (0, [some (.ref 1), some (.int q)], [], (hX I F sd)) := rfl
set_option maxRecDepth 100000 in
set_option maxHeartbeats 4000000 in
theorem sp_X6_figureAt_1 (d : Nat) (I : Nat → Int32) (F : Nat → Nat → Int32) (sd : Int64) (q : Int32) (h1 : txOk (I 0)) : pm_run mt (d + 2) 66 [.ref 1, .int q] (hX I F sd) = some (some (.int (tby (I 0) (F 2) q - 48)), (hX I F sd)) := by
  rw [en_X6_figureAt_1, tr_X6_figureAt_1_0 _ _ _ _ _ h1]
set_option maxRecDepth 100000 in
set_option maxHeartbeats 4000000 in
theorem tr_X6_empty_1_0 (d : Nat) (I : Nat → Int32) (F : Nat → Nat → Int32) (sd : Int64) : pm_EV (pm_run mt (d + 0)) (some .int) oX6_empty (0, [some (.ref 1), none], [], (hX I F sd)) = some (some (.int (I 0)), (hX (upd I 0 0) F sd)) := by
  exact pm_EV_at 7 (d := (7, [some (.ref 1), some (.int (I 0))], [.int (I 0)], (hX (upd I 0 0) F sd))) rfl rfl
set_option maxRecDepth 100000 in
set_option maxHeartbeats 4000000 in
theorem en_X6_empty_1 (d : Nat) (I : Nat → Int32) (F : Nat → Nat → Int32) (sd : Int64) : pm_run mt (d + 1) 64 [.ref 1] (hX I F sd) = pm_EV (pm_run mt (d + 0)) (some .int) oX6_empty (0, [some (.ref 1), none], [], (hX I F sd)) := rfl
set_option maxRecDepth 100000 in
set_option maxHeartbeats 4000000 in
theorem sp_X6_empty_1 (d : Nat) (I : Nat → Int32) (F : Nat → Nat → Int32) (sd : Int64) : pm_run mt (d + 1) 64 [.ref 1] (hX I F sd) = some (some (.int (I 0)), (hX (upd I 0 0) F sd)) := by
  rw [en_X6_empty_1, tr_X6_empty_1_0]
set_option maxRecDepth 100000 in
set_option maxHeartbeats 4000000 in
theorem tr_X6_fits_0 (d : Nat) (I : Nat → Int32) (F : Nat → Nat → Int32) (sd : Int64) (l : Int32) (w : Int32) : pm_EV (pm_run mt (d + 0)) (some .boolean) oX6_fits (0, [some (.int l), some (.int w)], [], (hX I F sd)) = (if w = 0 then (if l = 76 then some (some (.int 1), (hX I F sd)) else some (some (.int 0), (hX I F sd))) else (if w = 3 then (if l = 70 then some (some (.int 1), (hX I F sd)) else (if l = 84 then some (some (.int 1), (hX I F sd)) else some (some (.int 0), (hX I F sd)))) else (if w = 5 then (if l < 48 then some (some (.int 0), (hX I F sd)) else (if 51 < l then some (some (.int 0), (hX I F sd)) else some (some (.int 1), (hX I F sd)))) else (if l < 48 then some (some (.int 0), (hX I F sd)) else (if 57 < l then some (some (.int 0), (hX I F sd)) else some (some (.int 1), (hX I F sd))))))) := by
  refine Eq.trans (pm_EV_at 1 (d := (1, [some (.int l), some (.int w)], [.int w], (hX I F sd))) (x := if w = 0 then .inl (2, [some (.int l), some (.int w)], [], (hX I F sd)) else if w = 3 then .inl (9, [some (.int l), some (.int w)], [], (hX I F sd)) else if w = 5 then .inl (19, [some (.int l), some (.int w)], [], (hX I F sd)) else .inl (29, [some (.int l), some (.int w)], [], (hX I F sd))) rfl rfl) ?_
  refine pm_rc (fun p1 => ?_) (fun p1 => ?_)
  · show pm_EV (pm_run mt (d + 0)) (some .boolean) oX6_fits (2, [some (.int l), some (.int w)], [], (hX I F sd)) = _
    refine Eq.trans (pm_EV_at 2 (d := (4, [some (.int l), some (.int w)], [.int 76, .int l], (hX I F sd))) (x := if l = 76 then .inl (5, [some (.int l), some (.int w)], [], (hX I F sd)) else .inl (7, [some (.int l), some (.int w)], [], (hX I F sd))) rfl rfl) ?_
    refine pm_rc (fun p2 => ?_) (fun p2 => ?_)
    · show pm_EV (pm_run mt (d + 0)) (some .boolean) oX6_fits (5, [some (.int l), some (.int w)], [], (hX I F sd)) = _
      exact pm_EV_at 2 (d := (8, [some (.int l), some (.int w)], [.int 1], (hX I F sd))) rfl rfl
    · show pm_EV (pm_run mt (d + 0)) (some .boolean) oX6_fits (7, [some (.int l), some (.int w)], [], (hX I F sd)) = _
      exact pm_EV_at 1 (d := (8, [some (.int l), some (.int w)], [.int 0], (hX I F sd))) rfl rfl
  · refine pm_rc (fun p2 => ?_) (fun p2 => ?_)
    · show pm_EV (pm_run mt (d + 0)) (some .boolean) oX6_fits (9, [some (.int l), some (.int w)], [], (hX I F sd)) = _
      refine Eq.trans (pm_EV_at 2 (d := (11, [some (.int l), some (.int w)], [.int 70, .int l], (hX I F sd))) (x := if l = 70 then .inl (15, [some (.int l), some (.int w)], [], (hX I F sd)) else .inl (12, [some (.int l), some (.int w)], [], (hX I F sd))) rfl rfl) ?_
      refine pm_rc (fun p3 => ?_) (fun p3 => ?_)
      · show pm_EV (pm_run mt (d + 0)) (some .boolean) oX6_fits (15, [some (.int l), some (.int w)], [], (hX I F sd)) = _
        exact pm_EV_at 2 (d := (18, [some (.int l), some (.int w)], [.int 1], (hX I F sd))) rfl rfl
      · show pm_EV (pm_run mt (d + 0)) (some .boolean) oX6_fits (12, [some (.int l), some (.int w)], [], (hX I F sd)) = _
        refine Eq.trans (pm_EV_at 2 (d := (14, [some (.int l), some (.int w)], [.int 84, .int l], (hX I F sd))) (x := if l = 84 then .inl (15, [some (.int l), some (.int w)], [], (hX I F sd)) else .inl (17, [some (.int l), some (.int w)], [], (hX I F sd))) rfl rfl) ?_
        refine pm_rc (fun p4 => ?_) (fun p4 => ?_)
        · show pm_EV (pm_run mt (d + 0)) (some .boolean) oX6_fits (15, [some (.int l), some (.int w)], [], (hX I F sd)) = _
          exact pm_EV_at 2 (d := (18, [some (.int l), some (.int w)], [.int 1], (hX I F sd))) rfl rfl
        · show pm_EV (pm_run mt (d + 0)) (some .boolean) oX6_fits (17, [some (.int l), some (.int w)], [], (hX I F sd)) = _
          exact pm_EV_at 1 (d := (18, [some (.int l), some (.int w)], [.int 0], (hX I F sd))) rfl rfl
    · refine pm_rc (fun p3 => ?_) (fun p3 => ?_)
      · show pm_EV (pm_run mt (d + 0)) (some .boolean) oX6_fits (19, [some (.int l), some (.int w)], [], (hX I F sd)) = _
        refine Eq.trans (pm_EV_at 2 (d := (21, [some (.int l), some (.int w)], [.int 48, .int l], (hX I F sd))) (x := if l < 48 then .inl (27, [some (.int l), some (.int w)], [], (hX I F sd)) else .inl (22, [some (.int l), some (.int w)], [], (hX I F sd))) rfl rfl) ?_
        refine pm_rc (fun p4 => ?_) (fun p4 => ?_)
        · show pm_EV (pm_run mt (d + 0)) (some .boolean) oX6_fits (27, [some (.int l), some (.int w)], [], (hX I F sd)) = _
          exact pm_EV_at 1 (d := (28, [some (.int l), some (.int w)], [.int 0], (hX I F sd))) rfl rfl
        · show pm_EV (pm_run mt (d + 0)) (some .boolean) oX6_fits (22, [some (.int l), some (.int w)], [], (hX I F sd)) = _
          refine Eq.trans (pm_EV_at 2 (d := (24, [some (.int l), some (.int w)], [.int 51, .int l], (hX I F sd))) (x := if 51 < l then .inl (27, [some (.int l), some (.int w)], [], (hX I F sd)) else .inl (25, [some (.int l), some (.int w)], [], (hX I F sd))) rfl rfl) ?_
          refine pm_rc (fun p5 => ?_) (fun p5 => ?_)
          · show pm_EV (pm_run mt (d + 0)) (some .boolean) oX6_fits (27, [some (.int l), some (.int w)], [], (hX I F sd)) = _
            exact pm_EV_at 1 (d := (28, [some (.int l), some (.int w)], [.int 0], (hX I F sd))) rfl rfl
          · show pm_EV (pm_run mt (d + 0)) (some .boolean) oX6_fits (25, [some (.int l), some (.int w)], [], (hX I F sd)) = _
            exact pm_EV_at 2 (d := (28, [some (.int l), some (.int w)], [.int 1], (hX I F sd))) rfl rfl
      · show pm_EV (pm_run mt (d + 0)) (some .boolean) oX6_fits (29, [some (.int l), some (.int w)], [], (hX I F sd)) = _
        refine Eq.trans (pm_EV_at 2 (d := (31, [some (.int l), some (.int w)], [.int 48, .int l], (hX I F sd))) (x := if l < 48 then .inl (37, [some (.int l), some (.int w)], [], (hX I F sd)) else .inl (32, [some (.int l), some (.int w)], [], (hX I F sd))) rfl rfl) ?_
        refine pm_rc (fun p4 => ?_) (fun p4 => ?_)
        · show pm_EV (pm_run mt (d + 0)) (some .boolean) oX6_fits (37, [some (.int l), some (.int w)], [], (hX I F sd)) = _
          exact pm_EV_at 1 (d := (38, [some (.int l), some (.int w)], [.int 0], (hX I F sd))) rfl rfl
        · show pm_EV (pm_run mt (d + 0)) (some .boolean) oX6_fits (32, [some (.int l), some (.int w)], [], (hX I F sd)) = _
          refine Eq.trans (pm_EV_at 2 (d := (34, [some (.int l), some (.int w)], [.int 57, .int l], (hX I F sd))) (x := if 57 < l then .inl (37, [some (.int l), some (.int w)], [], (hX I F sd)) else .inl (35, [some (.int l), some (.int w)], [], (hX I F sd))) rfl rfl) ?_
          refine pm_rc (fun p5 => ?_) (fun p5 => ?_)
          · show pm_EV (pm_run mt (d + 0)) (some .boolean) oX6_fits (37, [some (.int l), some (.int w)], [], (hX I F sd)) = _
            exact pm_EV_at 1 (d := (38, [some (.int l), some (.int w)], [.int 0], (hX I F sd))) rfl rfl
          · show pm_EV (pm_run mt (d + 0)) (some .boolean) oX6_fits (35, [some (.int l), some (.int w)], [], (hX I F sd)) = _
            exact pm_EV_at 2 (d := (38, [some (.int l), some (.int w)], [.int 1], (hX I F sd))) rfl rfl
set_option maxRecDepth 100000 in
set_option maxHeartbeats 4000000 in
theorem en_X6_fits (d : Nat) (I : Nat → Int32) (F : Nat → Nat → Int32) (sd : Int64) (l : Int32) (w : Int32) : pm_run mt (d + 1) 68 [.int l, .int w] (hX I F sd) = pm_EV (pm_run mt (d + 0)) (some .boolean) oX6_fits (0, [some (.int l), some (.int w)], [], (hX I F sd)) := rfl
set_option maxRecDepth 100000 in
set_option maxHeartbeats 4000000 in
theorem sp_X6_fits (d : Nat) (I : Nat → Int32) (F : Nat → Nat → Int32) (sd : Int64) (l : Int32) (w : Int32) : pm_run mt (d + 1) 68 [.int l, .int w] (hX I F sd) = some (some (.int (bI (tfit l w))), (hX I F sd)) := by
  rw [en_X6_fits, tr_X6_fits_0]
  unfold tfit
  by_cases e0 : w = 0
  · simp only [e0, if_true]
    by_cases e1 : l = 76 <;> simp [e1, bI]
  · simp only [e0, if_false]
    by_cases e3 : w = 3
    · simp only [e3, if_true]
      by_cases e1 : l = 70
      · simp [e1, bI]
      · by_cases e2 : l = 84 <;> simp [e1, e2, bI]
    · simp only [e3, if_false]
      by_cases e5 : w = 5
      · simp only [e5, if_true]
        by_cases e1 : l < 48
        · simp [e1, bI]
        · by_cases e2 : 51 < l <;> simp [e1, e2, bI]
      · simp only [e5, if_false]
        by_cases e1 : l < 48
        · simp [e1, bI]
        · by_cases e2 : 57 < l <;> simp [e1, e2, bI]
set_option maxRecDepth 100000 in
set_option maxHeartbeats 4000000 in
theorem tr_X6_wantedAfter_0 (d : Nat) (I : Nat → Int32) (F : Nat → Nat → Int32) (sd : Int64) (w : Int32) (l : Int32) : pm_EV (pm_run mt (d + 0)) (some .int) oX6_wantedAfter (0, [some (.int w), some (.int l)], [], (hX I F sd)) = (if w = 0 then some (some (.int 1), (hX I F sd)) else (if w = 1 then some (some (.int 2), (hX I F sd)) else (if w = 2 then some (some (.int 3), (hX I F sd)) else (if w = 3 then (if l = 70 then some (some (.int 4), (hX I F sd)) else some (some (.int 6), (hX I F sd))) else (if w = 4 then some (some (.int 5), (hX I F sd)) else some (some (.int 3), (hX I F sd))))))) := by
  refine Eq.trans (pm_EV_at 1 (d := (1, [some (.int w), some (.int l)], [.int w], (hX I F sd))) (x := if w = 0 then .inl (2, [some (.int w), some (.int l)], [], (hX I F sd)) else if w = 1 then .inl (4, [some (.int w), some (.int l)], [], (hX I F sd)) else if w = 2 then .inl (15, [some (.int w), some (.int l)], [], (hX I F sd)) else if w = 3 then .inl (6, [some (.int w), some (.int l)], [], (hX I F sd)) else if w = 4 then .inl (13, [some (.int w), some (.int l)], [], (hX I F sd)) else .inl (15, [some (.int w), some (.int l)], [], (hX I F sd))) rfl rfl) ?_
  refine pm_rc (fun p1 => ?_) (fun p1 => ?_)
  · show pm_EV (pm_run mt (d + 0)) (some .int) oX6_wantedAfter (2, [some (.int w), some (.int l)], [], (hX I F sd)) = _
    exact pm_EV_at 1 (d := (3, [some (.int w), some (.int l)], [.int 1], (hX I F sd))) rfl rfl
  · refine pm_rc (fun p2 => ?_) (fun p2 => ?_)
    · show pm_EV (pm_run mt (d + 0)) (some .int) oX6_wantedAfter (4, [some (.int w), some (.int l)], [], (hX I F sd)) = _
      exact pm_EV_at 1 (d := (5, [some (.int w), some (.int l)], [.int 2], (hX I F sd))) rfl rfl
    · refine pm_rc (fun p3 => ?_) (fun p3 => ?_)
      · show pm_EV (pm_run mt (d + 0)) (some .int) oX6_wantedAfter (15, [some (.int w), some (.int l)], [], (hX I F sd)) = _
        exact pm_EV_at 1 (d := (16, [some (.int w), some (.int l)], [.int 3], (hX I F sd))) rfl rfl
      · refine pm_rc (fun p4 => ?_) (fun p4 => ?_)
        · show pm_EV (pm_run mt (d + 0)) (some .int) oX6_wantedAfter (6, [some (.int w), some (.int l)], [], (hX I F sd)) = _
          refine Eq.trans (pm_EV_at 2 (d := (8, [some (.int w), some (.int l)], [.int 70, .int l], (hX I F sd))) (x := if l = 70 then .inl (9, [some (.int w), some (.int l)], [], (hX I F sd)) else .inl (11, [some (.int w), some (.int l)], [], (hX I F sd))) rfl rfl) ?_
          refine pm_rc (fun p5 => ?_) (fun p5 => ?_)
          · show pm_EV (pm_run mt (d + 0)) (some .int) oX6_wantedAfter (9, [some (.int w), some (.int l)], [], (hX I F sd)) = _
            exact pm_EV_at 2 (d := (12, [some (.int w), some (.int l)], [.int 4], (hX I F sd))) rfl rfl
          · show pm_EV (pm_run mt (d + 0)) (some .int) oX6_wantedAfter (11, [some (.int w), some (.int l)], [], (hX I F sd)) = _
            exact pm_EV_at 1 (d := (12, [some (.int w), some (.int l)], [.int 6], (hX I F sd))) rfl rfl
        · refine pm_rc (fun p5 => ?_) (fun p5 => ?_)
          · show pm_EV (pm_run mt (d + 0)) (some .int) oX6_wantedAfter (13, [some (.int w), some (.int l)], [], (hX I F sd)) = _
            exact pm_EV_at 1 (d := (14, [some (.int w), some (.int l)], [.int 5], (hX I F sd))) rfl rfl
          · show pm_EV (pm_run mt (d + 0)) (some .int) oX6_wantedAfter (15, [some (.int w), some (.int l)], [], (hX I F sd)) = _
            exact pm_EV_at 1 (d := (16, [some (.int w), some (.int l)], [.int 3], (hX I F sd))) rfl rfl
set_option maxRecDepth 100000 in
set_option maxHeartbeats 4000000 in
theorem en_X6_wantedAfter (d : Nat) (I : Nat → Int32) (F : Nat → Nat → Int32) (sd : Int64) (w : Int32) (l : Int32) : pm_run mt (d + 1) 69 [.int w, .int l] (hX I F sd) = pm_EV (pm_run mt (d + 0)) (some .int) oX6_wantedAfter (0, [some (.int w), some (.int l)], [], (hX I F sd)) := rfl
set_option maxRecDepth 100000 in
set_option maxHeartbeats 4000000 in
theorem sp_X6_wantedAfter (d : Nat) (I : Nat → Int32) (F : Nat → Nat → Int32) (sd : Int64) (w : Int32) (l : Int32) : pm_run mt (d + 1) 69 [.int w, .int l] (hX I F sd) = some (some (.int (twan w l)), (hX I F sd)) := by
  rw [en_X6_wantedAfter, tr_X6_wantedAfter_0]
  unfold twan
  simp only [pm_pi]
def ffF (w l nf : Int32) : Int32 := if w = 3 then (if l = 70 then nf + 1 else nf + 0) else nf
def ffT (w l nt : Int32) : Int32 := if w = 3 then (if l = 84 then nt + 1 else nt + 0) else nt
def ffL (f : Nat → Int32) (n : Nat) : Nat → Nat → Int32 → Int32 → Int32 → Int32
  | 0, _, w, _, _ => if w = 3 then -9 else nI n
  | m + 1, k, w, nf, nt => if tfit (f k) w = false then nI k else if 4 < ffF w (f k) nf then nI k else if 5 < ffT w (f k) nt then nI k else ffL f n m (k + 1) (twan w (f k)) (ffF w (f k) nf) (ffT w (f k) nt)
def ffault (n : Int32) (f : Nat → Int32) : Int32 := ffL f n.toNatClampNeg n.toNatClampNeg 0 0 0 0
set_option maxRecDepth 100000 in
set_option maxHeartbeats 4000000 in
theorem tr_X6_firstFault_1_0 (d : Nat) (I : Nat → Int32) (F : Nat → Nat → Int32) (sd : Int64) : pm_EV (pm_run mt (d + 1)) (some .int) oX6_firstFault (0, [some (.ref 1), none, none, none, none, none], [], (hX I F sd)) = pm_EV (pm_run mt (d + 1)) (some .int) oX6_firstFault (8, [some (.ref 1), some (.int 0), some (.int 0), some (.int 0), some (.int 0), none], [], (hX I F sd)) := by
  exact pm_EV_go 8 (d := (8, [some (.ref 1), some (.int 0), some (.int 0), some (.int 0), some (.int 0), none], [], (hX I F sd))) rfl
set_option maxRecDepth 100000 in
set_option maxHeartbeats 4000000 in
theorem tr_X6_firstFault_1_8 (d : Nat) (I : Nat → Int32) (F : Nat → Nat → Int32) (sd : Int64) (x1 : Int32) (x2 : Int32) (x3 : Int32) (x4 : Int32) (o5 : Option Value) (g1 : (x4 < (I 0)) → pm_in x4 48 = true) : pm_EV (pm_run mt (d + 1)) (some .int) oX6_firstFault (8, [some (.ref 1), some (.int x1), some (.int x2), some (.int x3), some (.int x4), o5], [], (hX I F sd)) = (if x4 < (I 0) then (if (bI (tfit ((F 2) x4.toNatClampNeg) x1)) = 0 then some (some (.int x4), (hX I F sd)) else (if x1 = 3 then (if ((F 2) x4.toNatClampNeg) = 70 then (if ((F 2) x4.toNatClampNeg) = 84 then (if 4 < (x2 + 1) then some (some (.int x4), (hX I F sd)) else (if 5 < (x3 + 1) then some (some (.int x4), (hX I F sd)) else pm_EV (pm_run mt (d + 1)) (some .int) oX6_firstFault (8, [some (.ref 1), some (.int (twan x1 ((F 2) x4.toNatClampNeg))), some (.int (x2 + 1)), some (.int (x3 + 1)), some (.int (x4 + 1)), some (.int ((F 2) x4.toNatClampNeg))], [], (hX I F sd)))) else (if 4 < (x2 + 1) then some (some (.int x4), (hX I F sd)) else (if 5 < (x3 + 0) then some (some (.int x4), (hX I F sd)) else pm_EV (pm_run mt (d + 1)) (some .int) oX6_firstFault (8, [some (.ref 1), some (.int (twan x1 ((F 2) x4.toNatClampNeg))), some (.int (x2 + 1)), some (.int (x3 + 0)), some (.int (x4 + 1)), some (.int ((F 2) x4.toNatClampNeg))], [], (hX I F sd))))) else (if ((F 2) x4.toNatClampNeg) = 84 then (if 4 < (x2 + 0) then some (some (.int x4), (hX I F sd)) else (if 5 < (x3 + 1) then some (some (.int x4), (hX I F sd)) else pm_EV (pm_run mt (d + 1)) (some .int) oX6_firstFault (8, [some (.ref 1), some (.int (twan x1 ((F 2) x4.toNatClampNeg))), some (.int (x2 + 0)), some (.int (x3 + 1)), some (.int (x4 + 1)), some (.int ((F 2) x4.toNatClampNeg))], [], (hX I F sd)))) else (if 4 < (x2 + 0) then some (some (.int x4), (hX I F sd)) else (if 5 < (x3 + 0) then some (some (.int x4), (hX I F sd)) else pm_EV (pm_run mt (d + 1)) (some .int) oX6_firstFault (8, [some (.ref 1), some (.int (twan x1 ((F 2) x4.toNatClampNeg))), some (.int (x2 + 0)), some (.int (x3 + 0)), some (.int (x4 + 1)), some (.int ((F 2) x4.toNatClampNeg))], [], (hX I F sd)))))) else (if 4 < x2 then some (some (.int x4), (hX I F sd)) else (if 5 < x3 then some (some (.int x4), (hX I F sd)) else pm_EV (pm_run mt (d + 1)) (some .int) oX6_firstFault (8, [some (.ref 1), some (.int (twan x1 ((F 2) x4.toNatClampNeg))), some (.int x2), some (.int x3), some (.int (x4 + 1)), some (.int ((F 2) x4.toNatClampNeg))], [], (hX I F sd)))))) else (if x1 = 3 then some (some (.int (-9)), (hX I F sd)) else some (some (.int (I 0)), (hX I F sd)))) := by
  refine Eq.trans (pm_EV_at 3 (d := (11, [some (.ref 1), some (.int x1), some (.int x2), some (.int x3), some (.int x4), o5], [.int (I 0), .int x4], (hX I F sd))) (x := if x4 < (I 0) then .inl (12, [some (.ref 1), some (.int x1), some (.int x2), some (.int x3), some (.int x4), o5], [], (hX I F sd)) else .inl (58, [some (.ref 1), some (.int x1), some (.int x2), some (.int x3), some (.int x4), o5], [], (hX I F sd))) rfl rfl) ?_
  refine pm_rc (fun p1 => ?_) (fun p1 => ?_)
  · show pm_EV (pm_run mt (d + 1)) (some .int) oX6_firstFault (12, [some (.ref 1), some (.int x1), some (.int x2), some (.int x3), some (.int x4), o5], [], (hX I F sd)) = _
    refine Eq.trans (b := pm_EV (pm_run mt (d + 1)) (some .int) oX6_firstFault (16, [some (.ref 1), some (.int x1), some (.int x2), some (.int x3), some (.int x4), o5], [.int ((F 2) x4.toNatClampNeg)], (hX I F sd))) (pm_EV_gd 3 (d := (15, [some (.ref 1), some (.int x1), some (.int x2), some (.int x3), some (.int x4), o5], [.int x4, .ref 2], (hX I F sd))) (c1 := (16, [some (.ref 1), some (.int x1), some (.int x2), some (.int x3), some (.int x4), o5], [.int ((F 2) x4.toNatClampNeg)], (hX I F sd))) rfl rfl (⟨rfl, g1 p1⟩)) ?_
    refine Eq.trans (b := pm_EV (pm_run mt (d + 1)) (some .int) oX6_firstFault (20, [some (.ref 1), some (.int x1), some (.int x2), some (.int x3), some (.int x4), some (.int ((F 2) x4.toNatClampNeg))], [.int (bI (tfit ((F 2) x4.toNatClampNeg) x1))], (hX I F sd))) (pm_EV_cl 3 (call := pm_run mt (d + 1)) (d := (19, [some (.ref 1), some (.int x1), some (.int x2), some (.int x3), some (.int x4), some (.int ((F 2) x4.toNatClampNeg))], [.int x1, .int ((F 2) x4.toNatClampNeg)], (hX I F sd))) (a := 68) (as := [.int ((F 2) x4.toNatClampNeg), .int x1]) (hp := (hX I F sd)) (hp2 := (hX I F sd)) (i2 := 20) (ls := [some (.ref 1), some (.int x1), some (.int x2), some (.int x3), some (.int x4), some (.int ((F 2) x4.toNatClampNeg))]) (rest := []) (r := some (.int (bI (tfit ((F 2) x4.toNatClampNeg) x1)))) rfl rfl (sp_X6_fits (d + 0) I F sd ((F 2) x4.toNatClampNeg) x1 )) ?_
    refine Eq.trans (pm_EV_at 0 (d := (20, [some (.ref 1), some (.int x1), some (.int x2), some (.int x3), some (.int x4), some (.int ((F 2) x4.toNatClampNeg))], [.int (bI (tfit ((F 2) x4.toNatClampNeg) x1))], (hX I F sd))) (x := if (bI (tfit ((F 2) x4.toNatClampNeg) x1)) = 0 then .inl (21, [some (.ref 1), some (.int x1), some (.int x2), some (.int x3), some (.int x4), some (.int ((F 2) x4.toNatClampNeg))], [], (hX I F sd)) else .inl (23, [some (.ref 1), some (.int x1), some (.int x2), some (.int x3), some (.int x4), some (.int ((F 2) x4.toNatClampNeg))], [], (hX I F sd))) rfl rfl) ?_
    refine pm_rc (fun p2 => ?_) (fun p2 => ?_)
    · show pm_EV (pm_run mt (d + 1)) (some .int) oX6_firstFault (21, [some (.ref 1), some (.int x1), some (.int x2), some (.int x3), some (.int x4), some (.int ((F 2) x4.toNatClampNeg))], [], (hX I F sd)) = _
      exact pm_EV_at 1 (d := (22, [some (.ref 1), some (.int x1), some (.int x2), some (.int x3), some (.int x4), some (.int ((F 2) x4.toNatClampNeg))], [.int x4], (hX I F sd))) rfl rfl
    · show pm_EV (pm_run mt (d + 1)) (some .int) oX6_firstFault (23, [some (.ref 1), some (.int x1), some (.int x2), some (.int x3), some (.int x4), some (.int ((F 2) x4.toNatClampNeg))], [], (hX I F sd)) = _
      refine Eq.trans (pm_EV_at 2 (d := (25, [some (.ref 1), some (.int x1), some (.int x2), some (.int x3), some (.int x4), some (.int ((F 2) x4.toNatClampNeg))], [.int 3, .int x1], (hX I F sd))) (x := if x1 = 3 then .inl (26, [some (.ref 1), some (.int x1), some (.int x2), some (.int x3), some (.int x4), some (.int ((F 2) x4.toNatClampNeg))], [], (hX I F sd)) else .inl (44, [some (.ref 1), some (.int x1), some (.int x2), some (.int x3), some (.int x4), some (.int ((F 2) x4.toNatClampNeg))], [], (hX I F sd))) rfl rfl) ?_
      refine pm_rc (fun p3 => ?_) (fun p3 => ?_)
      · show pm_EV (pm_run mt (d + 1)) (some .int) oX6_firstFault (26, [some (.ref 1), some (.int x1), some (.int x2), some (.int x3), some (.int x4), some (.int ((F 2) x4.toNatClampNeg))], [], (hX I F sd)) = _
        refine Eq.trans (pm_EV_at 3 (d := (29, [some (.ref 1), some (.int x1), some (.int x2), some (.int x3), some (.int x4), some (.int ((F 2) x4.toNatClampNeg))], [.int 70, .int ((F 2) x4.toNatClampNeg), .int x2], (hX I F sd))) (x := if ((F 2) x4.toNatClampNeg) = 70 then .inl (30, [some (.ref 1), some (.int x1), some (.int x2), some (.int x3), some (.int x4), some (.int ((F 2) x4.toNatClampNeg))], [.int x2], (hX I F sd)) else .inl (32, [some (.ref 1), some (.int x1), some (.int x2), some (.int x3), some (.int x4), some (.int ((F 2) x4.toNatClampNeg))], [.int x2], (hX I F sd))) rfl rfl) ?_
        refine pm_rc (fun p4 => ?_) (fun p4 => ?_)
        · show pm_EV (pm_run mt (d + 1)) (some .int) oX6_firstFault (30, [some (.ref 1), some (.int x1), some (.int x2), some (.int x3), some (.int x4), some (.int ((F 2) x4.toNatClampNeg))], [.int x2], (hX I F sd)) = _
          refine Eq.trans (pm_EV_at 7 (d := (38, [some (.ref 1), some (.int x1), some (.int (x2 + 1)), some (.int x3), some (.int x4), some (.int ((F 2) x4.toNatClampNeg))], [.int 84, .int ((F 2) x4.toNatClampNeg), .int x3], (hX I F sd))) (x := if ((F 2) x4.toNatClampNeg) = 84 then .inl (39, [some (.ref 1), some (.int x1), some (.int (x2 + 1)), some (.int x3), some (.int x4), some (.int ((F 2) x4.toNatClampNeg))], [.int x3], (hX I F sd)) else .inl (41, [some (.ref 1), some (.int x1), some (.int (x2 + 1)), some (.int x3), some (.int x4), some (.int ((F 2) x4.toNatClampNeg))], [.int x3], (hX I F sd))) rfl rfl) ?_
          refine pm_rc (fun p5 => ?_) (fun p5 => ?_)
          · show pm_EV (pm_run mt (d + 1)) (some .int) oX6_firstFault (39, [some (.ref 1), some (.int x1), some (.int (x2 + 1)), some (.int x3), some (.int x4), some (.int ((F 2) x4.toNatClampNeg))], [.int x3], (hX I F sd)) = _
            refine Eq.trans (pm_EV_at 6 (d := (46, [some (.ref 1), some (.int x1), some (.int (x2 + 1)), some (.int (x3 + 1)), some (.int x4), some (.int ((F 2) x4.toNatClampNeg))], [.int 4, .int (x2 + 1)], (hX I F sd))) (x := if 4 < (x2 + 1) then .inl (50, [some (.ref 1), some (.int x1), some (.int (x2 + 1)), some (.int (x3 + 1)), some (.int x4), some (.int ((F 2) x4.toNatClampNeg))], [], (hX I F sd)) else .inl (47, [some (.ref 1), some (.int x1), some (.int (x2 + 1)), some (.int (x3 + 1)), some (.int x4), some (.int ((F 2) x4.toNatClampNeg))], [], (hX I F sd))) rfl rfl) ?_
            refine pm_rc (fun p6 => ?_) (fun p6 => ?_)
            · show pm_EV (pm_run mt (d + 1)) (some .int) oX6_firstFault (50, [some (.ref 1), some (.int x1), some (.int (x2 + 1)), some (.int (x3 + 1)), some (.int x4), some (.int ((F 2) x4.toNatClampNeg))], [], (hX I F sd)) = _
              exact pm_EV_at 1 (d := (51, [some (.ref 1), some (.int x1), some (.int (x2 + 1)), some (.int (x3 + 1)), some (.int x4), some (.int ((F 2) x4.toNatClampNeg))], [.int x4], (hX I F sd))) rfl rfl
            · show pm_EV (pm_run mt (d + 1)) (some .int) oX6_firstFault (47, [some (.ref 1), some (.int x1), some (.int (x2 + 1)), some (.int (x3 + 1)), some (.int x4), some (.int ((F 2) x4.toNatClampNeg))], [], (hX I F sd)) = _
              refine Eq.trans (pm_EV_at 2 (d := (49, [some (.ref 1), some (.int x1), some (.int (x2 + 1)), some (.int (x3 + 1)), some (.int x4), some (.int ((F 2) x4.toNatClampNeg))], [.int 5, .int (x3 + 1)], (hX I F sd))) (x := if 5 < (x3 + 1) then .inl (50, [some (.ref 1), some (.int x1), some (.int (x2 + 1)), some (.int (x3 + 1)), some (.int x4), some (.int ((F 2) x4.toNatClampNeg))], [], (hX I F sd)) else .inl (52, [some (.ref 1), some (.int x1), some (.int (x2 + 1)), some (.int (x3 + 1)), some (.int x4), some (.int ((F 2) x4.toNatClampNeg))], [], (hX I F sd))) rfl rfl) ?_
              refine pm_rc (fun p7 => ?_) (fun p7 => ?_)
              · show pm_EV (pm_run mt (d + 1)) (some .int) oX6_firstFault (50, [some (.ref 1), some (.int x1), some (.int (x2 + 1)), some (.int (x3 + 1)), some (.int x4), some (.int ((F 2) x4.toNatClampNeg))], [], (hX I F sd)) = _
                exact pm_EV_at 1 (d := (51, [some (.ref 1), some (.int x1), some (.int (x2 + 1)), some (.int (x3 + 1)), some (.int x4), some (.int ((F 2) x4.toNatClampNeg))], [.int x4], (hX I F sd))) rfl rfl
              · show pm_EV (pm_run mt (d + 1)) (some .int) oX6_firstFault (52, [some (.ref 1), some (.int x1), some (.int (x2 + 1)), some (.int (x3 + 1)), some (.int x4), some (.int ((F 2) x4.toNatClampNeg))], [], (hX I F sd)) = _
                refine Eq.trans (b := pm_EV (pm_run mt (d + 1)) (some .int) oX6_firstFault (55, [some (.ref 1), some (.int x1), some (.int (x2 + 1)), some (.int (x3 + 1)), some (.int x4), some (.int ((F 2) x4.toNatClampNeg))], [.int (twan x1 ((F 2) x4.toNatClampNeg))], (hX I F sd))) (pm_EV_cl 2 (call := pm_run mt (d + 1)) (d := (54, [some (.ref 1), some (.int x1), some (.int (x2 + 1)), some (.int (x3 + 1)), some (.int x4), some (.int ((F 2) x4.toNatClampNeg))], [.int ((F 2) x4.toNatClampNeg), .int x1], (hX I F sd))) (a := 69) (as := [.int x1, .int ((F 2) x4.toNatClampNeg)]) (hp := (hX I F sd)) (hp2 := (hX I F sd)) (i2 := 55) (ls := [some (.ref 1), some (.int x1), some (.int (x2 + 1)), some (.int (x3 + 1)), some (.int x4), some (.int ((F 2) x4.toNatClampNeg))]) (rest := []) (r := some (.int (twan x1 ((F 2) x4.toNatClampNeg)))) rfl rfl (sp_X6_wantedAfter (d + 0) I F sd x1 ((F 2) x4.toNatClampNeg) )) ?_
                exact pm_EV_go 3 (d := (8, [some (.ref 1), some (.int (twan x1 ((F 2) x4.toNatClampNeg))), some (.int (x2 + 1)), some (.int (x3 + 1)), some (.int (x4 + 1)), some (.int ((F 2) x4.toNatClampNeg))], [], (hX I F sd))) rfl
          · show pm_EV (pm_run mt (d + 1)) (some .int) oX6_firstFault (41, [some (.ref 1), some (.int x1), some (.int (x2 + 1)), some (.int x3), some (.int x4), some (.int ((F 2) x4.toNatClampNeg))], [.int x3], (hX I F sd)) = _
            refine Eq.trans (pm_EV_at 5 (d := (46, [some (.ref 1), some (.int x1), some (.int (x2 + 1)), some (.int (x3 + 0)), some (.int x4), some (.int ((F 2) x4.toNatClampNeg))], [.int 4, .int (x2 + 1)], (hX I F sd))) (x := if 4 < (x2 + 1) then .inl (50, [some (.ref 1), some (.int x1), some (.int (x2 + 1)), some (.int (x3 + 0)), some (.int x4), some (.int ((F 2) x4.toNatClampNeg))], [], (hX I F sd)) else .inl (47, [some (.ref 1), some (.int x1), some (.int (x2 + 1)), some (.int (x3 + 0)), some (.int x4), some (.int ((F 2) x4.toNatClampNeg))], [], (hX I F sd))) rfl rfl) ?_
            refine pm_rc (fun p6 => ?_) (fun p6 => ?_)
            · show pm_EV (pm_run mt (d + 1)) (some .int) oX6_firstFault (50, [some (.ref 1), some (.int x1), some (.int (x2 + 1)), some (.int (x3 + 0)), some (.int x4), some (.int ((F 2) x4.toNatClampNeg))], [], (hX I F sd)) = _
              exact pm_EV_at 1 (d := (51, [some (.ref 1), some (.int x1), some (.int (x2 + 1)), some (.int (x3 + 0)), some (.int x4), some (.int ((F 2) x4.toNatClampNeg))], [.int x4], (hX I F sd))) rfl rfl
            · show pm_EV (pm_run mt (d + 1)) (some .int) oX6_firstFault (47, [some (.ref 1), some (.int x1), some (.int (x2 + 1)), some (.int (x3 + 0)), some (.int x4), some (.int ((F 2) x4.toNatClampNeg))], [], (hX I F sd)) = _
              refine Eq.trans (pm_EV_at 2 (d := (49, [some (.ref 1), some (.int x1), some (.int (x2 + 1)), some (.int (x3 + 0)), some (.int x4), some (.int ((F 2) x4.toNatClampNeg))], [.int 5, .int (x3 + 0)], (hX I F sd))) (x := if 5 < (x3 + 0) then .inl (50, [some (.ref 1), some (.int x1), some (.int (x2 + 1)), some (.int (x3 + 0)), some (.int x4), some (.int ((F 2) x4.toNatClampNeg))], [], (hX I F sd)) else .inl (52, [some (.ref 1), some (.int x1), some (.int (x2 + 1)), some (.int (x3 + 0)), some (.int x4), some (.int ((F 2) x4.toNatClampNeg))], [], (hX I F sd))) rfl rfl) ?_
              refine pm_rc (fun p7 => ?_) (fun p7 => ?_)
              · show pm_EV (pm_run mt (d + 1)) (some .int) oX6_firstFault (50, [some (.ref 1), some (.int x1), some (.int (x2 + 1)), some (.int (x3 + 0)), some (.int x4), some (.int ((F 2) x4.toNatClampNeg))], [], (hX I F sd)) = _
                exact pm_EV_at 1 (d := (51, [some (.ref 1), some (.int x1), some (.int (x2 + 1)), some (.int (x3 + 0)), some (.int x4), some (.int ((F 2) x4.toNatClampNeg))], [.int x4], (hX I F sd))) rfl rfl
              · show pm_EV (pm_run mt (d + 1)) (some .int) oX6_firstFault (52, [some (.ref 1), some (.int x1), some (.int (x2 + 1)), some (.int (x3 + 0)), some (.int x4), some (.int ((F 2) x4.toNatClampNeg))], [], (hX I F sd)) = _
                refine Eq.trans (b := pm_EV (pm_run mt (d + 1)) (some .int) oX6_firstFault (55, [some (.ref 1), some (.int x1), some (.int (x2 + 1)), some (.int (x3 + 0)), some (.int x4), some (.int ((F 2) x4.toNatClampNeg))], [.int (twan x1 ((F 2) x4.toNatClampNeg))], (hX I F sd))) (pm_EV_cl 2 (call := pm_run mt (d + 1)) (d := (54, [some (.ref 1), some (.int x1), some (.int (x2 + 1)), some (.int (x3 + 0)), some (.int x4), some (.int ((F 2) x4.toNatClampNeg))], [.int ((F 2) x4.toNatClampNeg), .int x1], (hX I F sd))) (a := 69) (as := [.int x1, .int ((F 2) x4.toNatClampNeg)]) (hp := (hX I F sd)) (hp2 := (hX I F sd)) (i2 := 55) (ls := [some (.ref 1), some (.int x1), some (.int (x2 + 1)), some (.int (x3 + 0)), some (.int x4), some (.int ((F 2) x4.toNatClampNeg))]) (rest := []) (r := some (.int (twan x1 ((F 2) x4.toNatClampNeg)))) rfl rfl (sp_X6_wantedAfter (d + 0) I F sd x1 ((F 2) x4.toNatClampNeg) )) ?_
                exact pm_EV_go 3 (d := (8, [some (.ref 1), some (.int (twan x1 ((F 2) x4.toNatClampNeg))), some (.int (x2 + 1)), some (.int (x3 + 0)), some (.int (x4 + 1)), some (.int ((F 2) x4.toNatClampNeg))], [], (hX I F sd))) rfl
        · show pm_EV (pm_run mt (d + 1)) (some .int) oX6_firstFault (32, [some (.ref 1), some (.int x1), some (.int x2), some (.int x3), some (.int x4), some (.int ((F 2) x4.toNatClampNeg))], [.int x2], (hX I F sd)) = _
          refine Eq.trans (pm_EV_at 6 (d := (38, [some (.ref 1), some (.int x1), some (.int (x2 + 0)), some (.int x3), some (.int x4), some (.int ((F 2) x4.toNatClampNeg))], [.int 84, .int ((F 2) x4.toNatClampNeg), .int x3], (hX I F sd))) (x := if ((F 2) x4.toNatClampNeg) = 84 then .inl (39, [some (.ref 1), some (.int x1), some (.int (x2 + 0)), some (.int x3), some (.int x4), some (.int ((F 2) x4.toNatClampNeg))], [.int x3], (hX I F sd)) else .inl (41, [some (.ref 1), some (.int x1), some (.int (x2 + 0)), some (.int x3), some (.int x4), some (.int ((F 2) x4.toNatClampNeg))], [.int x3], (hX I F sd))) rfl rfl) ?_
          refine pm_rc (fun p5 => ?_) (fun p5 => ?_)
          · show pm_EV (pm_run mt (d + 1)) (some .int) oX6_firstFault (39, [some (.ref 1), some (.int x1), some (.int (x2 + 0)), some (.int x3), some (.int x4), some (.int ((F 2) x4.toNatClampNeg))], [.int x3], (hX I F sd)) = _
            refine Eq.trans (pm_EV_at 6 (d := (46, [some (.ref 1), some (.int x1), some (.int (x2 + 0)), some (.int (x3 + 1)), some (.int x4), some (.int ((F 2) x4.toNatClampNeg))], [.int 4, .int (x2 + 0)], (hX I F sd))) (x := if 4 < (x2 + 0) then .inl (50, [some (.ref 1), some (.int x1), some (.int (x2 + 0)), some (.int (x3 + 1)), some (.int x4), some (.int ((F 2) x4.toNatClampNeg))], [], (hX I F sd)) else .inl (47, [some (.ref 1), some (.int x1), some (.int (x2 + 0)), some (.int (x3 + 1)), some (.int x4), some (.int ((F 2) x4.toNatClampNeg))], [], (hX I F sd))) rfl rfl) ?_
            refine pm_rc (fun p6 => ?_) (fun p6 => ?_)
            · show pm_EV (pm_run mt (d + 1)) (some .int) oX6_firstFault (50, [some (.ref 1), some (.int x1), some (.int (x2 + 0)), some (.int (x3 + 1)), some (.int x4), some (.int ((F 2) x4.toNatClampNeg))], [], (hX I F sd)) = _
              exact pm_EV_at 1 (d := (51, [some (.ref 1), some (.int x1), some (.int (x2 + 0)), some (.int (x3 + 1)), some (.int x4), some (.int ((F 2) x4.toNatClampNeg))], [.int x4], (hX I F sd))) rfl rfl
            · show pm_EV (pm_run mt (d + 1)) (some .int) oX6_firstFault (47, [some (.ref 1), some (.int x1), some (.int (x2 + 0)), some (.int (x3 + 1)), some (.int x4), some (.int ((F 2) x4.toNatClampNeg))], [], (hX I F sd)) = _
              refine Eq.trans (pm_EV_at 2 (d := (49, [some (.ref 1), some (.int x1), some (.int (x2 + 0)), some (.int (x3 + 1)), some (.int x4), some (.int ((F 2) x4.toNatClampNeg))], [.int 5, .int (x3 + 1)], (hX I F sd))) (x := if 5 < (x3 + 1) then .inl (50, [some (.ref 1), some (.int x1), some (.int (x2 + 0)), some (.int (x3 + 1)), some (.int x4), some (.int ((F 2) x4.toNatClampNeg))], [], (hX I F sd)) else .inl (52, [some (.ref 1), some (.int x1), some (.int (x2 + 0)), some (.int (x3 + 1)), some (.int x4), some (.int ((F 2) x4.toNatClampNeg))], [], (hX I F sd))) rfl rfl) ?_
              refine pm_rc (fun p7 => ?_) (fun p7 => ?_)
              · show pm_EV (pm_run mt (d + 1)) (some .int) oX6_firstFault (50, [some (.ref 1), some (.int x1), some (.int (x2 + 0)), some (.int (x3 + 1)), some (.int x4), some (.int ((F 2) x4.toNatClampNeg))], [], (hX I F sd)) = _
                exact pm_EV_at 1 (d := (51, [some (.ref 1), some (.int x1), some (.int (x2 + 0)), some (.int (x3 + 1)), some (.int x4), some (.int ((F 2) x4.toNatClampNeg))], [.int x4], (hX I F sd))) rfl rfl
              · show pm_EV (pm_run mt (d + 1)) (some .int) oX6_firstFault (52, [some (.ref 1), some (.int x1), some (.int (x2 + 0)), some (.int (x3 + 1)), some (.int x4), some (.int ((F 2) x4.toNatClampNeg))], [], (hX I F sd)) = _
                refine Eq.trans (b := pm_EV (pm_run mt (d + 1)) (some .int) oX6_firstFault (55, [some (.ref 1), some (.int x1), some (.int (x2 + 0)), some (.int (x3 + 1)), some (.int x4), some (.int ((F 2) x4.toNatClampNeg))], [.int (twan x1 ((F 2) x4.toNatClampNeg))], (hX I F sd))) (pm_EV_cl 2 (call := pm_run mt (d + 1)) (d := (54, [some (.ref 1), some (.int x1), some (.int (x2 + 0)), some (.int (x3 + 1)), some (.int x4), some (.int ((F 2) x4.toNatClampNeg))], [.int ((F 2) x4.toNatClampNeg), .int x1], (hX I F sd))) (a := 69) (as := [.int x1, .int ((F 2) x4.toNatClampNeg)]) (hp := (hX I F sd)) (hp2 := (hX I F sd)) (i2 := 55) (ls := [some (.ref 1), some (.int x1), some (.int (x2 + 0)), some (.int (x3 + 1)), some (.int x4), some (.int ((F 2) x4.toNatClampNeg))]) (rest := []) (r := some (.int (twan x1 ((F 2) x4.toNatClampNeg)))) rfl rfl (sp_X6_wantedAfter (d + 0) I F sd x1 ((F 2) x4.toNatClampNeg) )) ?_
                exact pm_EV_go 3 (d := (8, [some (.ref 1), some (.int (twan x1 ((F 2) x4.toNatClampNeg))), some (.int (x2 + 0)), some (.int (x3 + 1)), some (.int (x4 + 1)), some (.int ((F 2) x4.toNatClampNeg))], [], (hX I F sd))) rfl
          · show pm_EV (pm_run mt (d + 1)) (some .int) oX6_firstFault (41, [some (.ref 1), some (.int x1), some (.int (x2 + 0)), some (.int x3), some (.int x4), some (.int ((F 2) x4.toNatClampNeg))], [.int x3], (hX I F sd)) = _
            refine Eq.trans (pm_EV_at 5 (d := (46, [some (.ref 1), some (.int x1), some (.int (x2 + 0)), some (.int (x3 + 0)), some (.int x4), some (.int ((F 2) x4.toNatClampNeg))], [.int 4, .int (x2 + 0)], (hX I F sd))) (x := if 4 < (x2 + 0) then .inl (50, [some (.ref 1), some (.int x1), some (.int (x2 + 0)), some (.int (x3 + 0)), some (.int x4), some (.int ((F 2) x4.toNatClampNeg))], [], (hX I F sd)) else .inl (47, [some (.ref 1), some (.int x1), some (.int (x2 + 0)), some (.int (x3 + 0)), some (.int x4), some (.int ((F 2) x4.toNatClampNeg))], [], (hX I F sd))) rfl rfl) ?_
            refine pm_rc (fun p6 => ?_) (fun p6 => ?_)
            · show pm_EV (pm_run mt (d + 1)) (some .int) oX6_firstFault (50, [some (.ref 1), some (.int x1), some (.int (x2 + 0)), some (.int (x3 + 0)), some (.int x4), some (.int ((F 2) x4.toNatClampNeg))], [], (hX I F sd)) = _
              exact pm_EV_at 1 (d := (51, [some (.ref 1), some (.int x1), some (.int (x2 + 0)), some (.int (x3 + 0)), some (.int x4), some (.int ((F 2) x4.toNatClampNeg))], [.int x4], (hX I F sd))) rfl rfl
            · show pm_EV (pm_run mt (d + 1)) (some .int) oX6_firstFault (47, [some (.ref 1), some (.int x1), some (.int (x2 + 0)), some (.int (x3 + 0)), some (.int x4), some (.int ((F 2) x4.toNatClampNeg))], [], (hX I F sd)) = _
              refine Eq.trans (pm_EV_at 2 (d := (49, [some (.ref 1), some (.int x1), some (.int (x2 + 0)), some (.int (x3 + 0)), some (.int x4), some (.int ((F 2) x4.toNatClampNeg))], [.int 5, .int (x3 + 0)], (hX I F sd))) (x := if 5 < (x3 + 0) then .inl (50, [some (.ref 1), some (.int x1), some (.int (x2 + 0)), some (.int (x3 + 0)), some (.int x4), some (.int ((F 2) x4.toNatClampNeg))], [], (hX I F sd)) else .inl (52, [some (.ref 1), some (.int x1), some (.int (x2 + 0)), some (.int (x3 + 0)), some (.int x4), some (.int ((F 2) x4.toNatClampNeg))], [], (hX I F sd))) rfl rfl) ?_
              refine pm_rc (fun p7 => ?_) (fun p7 => ?_)
              · show pm_EV (pm_run mt (d + 1)) (some .int) oX6_firstFault (50, [some (.ref 1), some (.int x1), some (.int (x2 + 0)), some (.int (x3 + 0)), some (.int x4), some (.int ((F 2) x4.toNatClampNeg))], [], (hX I F sd)) = _
                exact pm_EV_at 1 (d := (51, [some (.ref 1), some (.int x1), some (.int (x2 + 0)), some (.int (x3 + 0)), some (.int x4), some (.int ((F 2) x4.toNatClampNeg))], [.int x4], (hX I F sd))) rfl rfl
              · show pm_EV (pm_run mt (d + 1)) (some .int) oX6_firstFault (52, [some (.ref 1), some (.int x1), some (.int (x2 + 0)), some (.int (x3 + 0)), some (.int x4), some (.int ((F 2) x4.toNatClampNeg))], [], (hX I F sd)) = _
                refine Eq.trans (b := pm_EV (pm_run mt (d + 1)) (some .int) oX6_firstFault (55, [some (.ref 1), some (.int x1), some (.int (x2 + 0)), some (.int (x3 + 0)), some (.int x4), some (.int ((F 2) x4.toNatClampNeg))], [.int (twan x1 ((F 2) x4.toNatClampNeg))], (hX I F sd))) (pm_EV_cl 2 (call := pm_run mt (d + 1)) (d := (54, [some (.ref 1), some (.int x1), some (.int (x2 + 0)), some (.int (x3 + 0)), some (.int x4), some (.int ((F 2) x4.toNatClampNeg))], [.int ((F 2) x4.toNatClampNeg), .int x1], (hX I F sd))) (a := 69) (as := [.int x1, .int ((F 2) x4.toNatClampNeg)]) (hp := (hX I F sd)) (hp2 := (hX I F sd)) (i2 := 55) (ls := [some (.ref 1), some (.int x1), some (.int (x2 + 0)), some (.int (x3 + 0)), some (.int x4), some (.int ((F 2) x4.toNatClampNeg))]) (rest := []) (r := some (.int (twan x1 ((F 2) x4.toNatClampNeg)))) rfl rfl (sp_X6_wantedAfter (d + 0) I F sd x1 ((F 2) x4.toNatClampNeg) )) ?_
                exact pm_EV_go 3 (d := (8, [some (.ref 1), some (.int (twan x1 ((F 2) x4.toNatClampNeg))), some (.int (x2 + 0)), some (.int (x3 + 0)), some (.int (x4 + 1)), some (.int ((F 2) x4.toNatClampNeg))], [], (hX I F sd))) rfl
      · show pm_EV (pm_run mt (d + 1)) (some .int) oX6_firstFault (44, [some (.ref 1), some (.int x1), some (.int x2), some (.int x3), some (.int x4), some (.int ((F 2) x4.toNatClampNeg))], [], (hX I F sd)) = _
        refine Eq.trans (pm_EV_at 2 (d := (46, [some (.ref 1), some (.int x1), some (.int x2), some (.int x3), some (.int x4), some (.int ((F 2) x4.toNatClampNeg))], [.int 4, .int x2], (hX I F sd))) (x := if 4 < x2 then .inl (50, [some (.ref 1), some (.int x1), some (.int x2), some (.int x3), some (.int x4), some (.int ((F 2) x4.toNatClampNeg))], [], (hX I F sd)) else .inl (47, [some (.ref 1), some (.int x1), some (.int x2), some (.int x3), some (.int x4), some (.int ((F 2) x4.toNatClampNeg))], [], (hX I F sd))) rfl rfl) ?_
        refine pm_rc (fun p4 => ?_) (fun p4 => ?_)
        · show pm_EV (pm_run mt (d + 1)) (some .int) oX6_firstFault (50, [some (.ref 1), some (.int x1), some (.int x2), some (.int x3), some (.int x4), some (.int ((F 2) x4.toNatClampNeg))], [], (hX I F sd)) = _
          exact pm_EV_at 1 (d := (51, [some (.ref 1), some (.int x1), some (.int x2), some (.int x3), some (.int x4), some (.int ((F 2) x4.toNatClampNeg))], [.int x4], (hX I F sd))) rfl rfl
        · show pm_EV (pm_run mt (d + 1)) (some .int) oX6_firstFault (47, [some (.ref 1), some (.int x1), some (.int x2), some (.int x3), some (.int x4), some (.int ((F 2) x4.toNatClampNeg))], [], (hX I F sd)) = _
          refine Eq.trans (pm_EV_at 2 (d := (49, [some (.ref 1), some (.int x1), some (.int x2), some (.int x3), some (.int x4), some (.int ((F 2) x4.toNatClampNeg))], [.int 5, .int x3], (hX I F sd))) (x := if 5 < x3 then .inl (50, [some (.ref 1), some (.int x1), some (.int x2), some (.int x3), some (.int x4), some (.int ((F 2) x4.toNatClampNeg))], [], (hX I F sd)) else .inl (52, [some (.ref 1), some (.int x1), some (.int x2), some (.int x3), some (.int x4), some (.int ((F 2) x4.toNatClampNeg))], [], (hX I F sd))) rfl rfl) ?_
          refine pm_rc (fun p5 => ?_) (fun p5 => ?_)
          · show pm_EV (pm_run mt (d + 1)) (some .int) oX6_firstFault (50, [some (.ref 1), some (.int x1), some (.int x2), some (.int x3), some (.int x4), some (.int ((F 2) x4.toNatClampNeg))], [], (hX I F sd)) = _
            exact pm_EV_at 1 (d := (51, [some (.ref 1), some (.int x1), some (.int x2), some (.int x3), some (.int x4), some (.int ((F 2) x4.toNatClampNeg))], [.int x4], (hX I F sd))) rfl rfl
          · show pm_EV (pm_run mt (d + 1)) (some .int) oX6_firstFault (52, [some (.ref 1), some (.int x1), some (.int x2), some (.int x3), some (.int x4), some (.int ((F 2) x4.toNatClampNeg))], [], (hX I F sd)) = _
            refine Eq.trans (b := pm_EV (pm_run mt (d + 1)) (some .int) oX6_firstFault (55, [some (.ref 1), some (.int x1), some (.int x2), some (.int x3), some (.int x4), some (.int ((F 2) x4.toNatClampNeg))], [.int (twan x1 ((F 2) x4.toNatClampNeg))], (hX I F sd))) (pm_EV_cl 2 (call := pm_run mt (d + 1)) (d := (54, [some (.ref 1), some (.int x1), some (.int x2), some (.int x3), some (.int x4), some (.int ((F 2) x4.toNatClampNeg))], [.int ((F 2) x4.toNatClampNeg), .int x1], (hX I F sd))) (a := 69) (as := [.int x1, .int ((F 2) x4.toNatClampNeg)]) (hp := (hX I F sd)) (hp2 := (hX I F sd)) (i2 := 55) (ls := [some (.ref 1), some (.int x1), some (.int x2), some (.int x3), some (.int x4), some (.int ((F 2) x4.toNatClampNeg))]) (rest := []) (r := some (.int (twan x1 ((F 2) x4.toNatClampNeg)))) rfl rfl (sp_X6_wantedAfter (d + 0) I F sd x1 ((F 2) x4.toNatClampNeg) )) ?_
            exact pm_EV_go 3 (d := (8, [some (.ref 1), some (.int (twan x1 ((F 2) x4.toNatClampNeg))), some (.int x2), some (.int x3), some (.int (x4 + 1)), some (.int ((F 2) x4.toNatClampNeg))], [], (hX I F sd))) rfl
  · show pm_EV (pm_run mt (d + 1)) (some .int) oX6_firstFault (58, [some (.ref 1), some (.int x1), some (.int x2), some (.int x3), some (.int x4), o5], [], (hX I F sd)) = _
    refine Eq.trans (pm_EV_at 2 (d := (60, [some (.ref 1), some (.int x1), some (.int x2), some (.int x3), some (.int x4), o5], [.int 3, .int x1], (hX I F sd))) (x := if x1 = 3 then .inl (61, [some (.ref 1), some (.int x1), some (.int x2), some (.int x3), some (.int x4), o5], [], (hX I F sd)) else .inl (63, [some (.ref 1), some (.int x1), some (.int x2), some (.int x3), some (.int x4), o5], [], (hX I F sd))) rfl rfl) ?_
    refine pm_rc (fun p2 => ?_) (fun p2 => ?_)
    · show pm_EV (pm_run mt (d + 1)) (some .int) oX6_firstFault (61, [some (.ref 1), some (.int x1), some (.int x2), some (.int x3), some (.int x4), o5], [], (hX I F sd)) = _
      exact pm_EV_at 2 (d := (65, [some (.ref 1), some (.int x1), some (.int x2), some (.int x3), some (.int x4), o5], [.int (-9)], (hX I F sd))) rfl rfl
    · show pm_EV (pm_run mt (d + 1)) (some .int) oX6_firstFault (63, [some (.ref 1), some (.int x1), some (.int x2), some (.int x3), some (.int x4), o5], [], (hX I F sd)) = _
      exact pm_EV_at 2 (d := (65, [some (.ref 1), some (.int x1), some (.int x2), some (.int x3), some (.int x4), o5], [.int (I 0)], (hX I F sd))) rfl rfl
set_option maxRecDepth 100000 in
set_option maxHeartbeats 4000000 in
theorem en_X6_firstFault_1 (d : Nat) (I : Nat → Int32) (F : Nat → Nat → Int32) (sd : Int64) : pm_run mt (d + 2) 67 [.ref 1] (hX I F sd) = pm_EV (pm_run mt (d + 1)) (some .int) oX6_firstFault (0, [some (.ref 1), none, none, none, none, none], [], (hX I F sd)) := rfl
set_option maxRecDepth 100000 in
set_option maxHeartbeats 4000000 in
theorem sp_X6_firstFault_1 (d : Nat) (I : Nat → Int32) (F : Nat → Nat → Int32) (sd : Int64) (h1 : txOk (I 0)) : pm_run mt (d + 2) 67 [.ref 1] (hX I F sd) = some (some (.int (ffault (I 0) (F 2))), (hX I F sd)) := by
  rw [en_X6_firstFault_1, tr_X6_firstFault_1_0]
  obtain ⟨n, hn, e⟩ := h1
  have key : ∀ (m k : Nat) (w nf nt : Int32) (o5 : Option Value), k + m = n → pm_EV (pm_run mt (d + 1)) (some .int) oX6_firstFault (8, [some (.ref 1), some (.int w), some (.int nf), some (.int nt), some (.int (nI k)), o5], [], hX I F sd) = some (some (.int (ffL (F 2) n m k w nf nt)), hX I F sd) := by
    intro m
    induction m with
    | zero =>
      intro k w nf nt o5 hk
      rw [tr_X6_firstFault_1_8 _ _ _ _ _ _ _ _ _ (fun h => by rw [e, nI_ltI (by omega) (by omega)] at h; omega), if_neg (fun h => by rw [e, nI_ltI (by omega) (by omega)] at h; omega), ffL]
      simp only [pm_pi]
      rw [e]
    | succ m ih =>
      intro k w nf nt o5 hk
      rw [tr_X6_firstFault_1_8 _ _ _ _ _ _ _ _ _ (fun h => pm_in_nI (by omega) (by decide)), if_pos (by rw [e, nI_ltI (by omega) (by omega)]; omega), nI_clamp (by omega), nI_p1, ffL]
      simp only [bI_0]
      by_cases c1 : tfit (F 2 k) w = false
      · rw [if_pos c1, if_pos c1]
      · rw [if_neg c1, if_neg c1]
        unfold ffF ffT
        by_cases c2 : w = 3
        · simp only [c2, if_true]
          by_cases c3 : F 2 k = 70
          · simp only [c3, if_true, show ¬ ((70 : Int32) = 84) by decide, if_false]
            by_cases c5 : 4 < nf + 1
            · simp only [c5, if_true]
            · simp only [c5, if_false]
              by_cases c6 : 5 < nt + 0
              · simp only [c6, if_true]
              · simp only [c6, if_false]
                exact ih _ _ _ _ _ (by omega)
          · simp only [c3, if_false]
            by_cases c4 : F 2 k = 84
            · simp only [c4, if_true]
              by_cases c5 : 4 < nf + 0
              · simp only [c5, if_true]
              · simp only [c5, if_false]
                by_cases c6 : 5 < nt + 1
                · simp only [c6, if_true]
                · simp only [c6, if_false]
                  exact ih _ _ _ _ _ (by omega)
            · simp only [c4, if_false]
              by_cases c5 : 4 < nf + 0
              · simp only [c5, if_true]
              · simp only [c5, if_false]
                by_cases c6 : 5 < nt + 0
                · simp only [c6, if_true]
                · simp only [c6, if_false]
                  exact ih _ _ _ _ _ (by omega)
        · simp only [c2, if_false]
          by_cases c5 : 4 < nf
          · simp only [c5, if_true]
          · simp only [c5, if_false]
            by_cases c6 : 5 < nt
            · simp only [c6, if_true]
            · simp only [c6, if_false]
              exact ih _ _ _ _ _ (by omega)
  refine (key n 0 0 0 0 none (by omega)).trans ?_
  rw [ffault, e, nI_clamp (by omega)]
theorem cpy_S (f g : Nat → Int32) (k : Nat) : upd (va_cpy f g 0 0 k) k (f k) = va_cpy f g 0 0 (k + 1) := by
  funext j
  unfold upd va_cpy
  by_cases h : j = k
  · subst h
    simp
  · rw [if_neg h]
    by_cases h2 : j < k
    · rw [if_pos ⟨Nat.zero_le _, by omega⟩, if_pos ⟨Nat.zero_le _, by omega⟩]
    · rw [if_neg (by omega), if_neg (by omega)]
theorem cpy_0 (f g : Nat → Int32) : va_cpy f g 0 0 0 = g := by
  funext j
  unfold va_cpy
  rw [if_neg (by omega)]
theorem uF_uF (F : Nat → Nat → Int32) (k : Nat) (f g : Nat → Int32) : uF (uF F k f) k g = uF F k g := by
  funext j
  unfold uF
  by_cases h : j = k
  · rw [if_pos h, if_pos h]
  · rw [if_neg h, if_neg h, if_neg h]
theorem uF_at (F : Nat → Nat → Int32) (k : Nat) (f : Nat → Int32) : uF F k f k = f := if_pos rfl
theorem uF_ne (F : Nat → Nat → Int32) {k j : Nat} (f : Nat → Int32) (h : j ≠ k) : uF F k f j = F j := if_neg h
set_option maxRecDepth 100000 in
set_option maxHeartbeats 4000000 in
theorem tr_X0_copyOf_5_3_0 (d : Nat) (I : Nat → Int32) (F : Nat → Nat → Int32) (sd : Int64) : pm_EV (pm_run mt (d + 0)) none oX0_copyOf (0, [some (.ref 5), some (.ref 3), none], [], (hX I F sd)) = pm_EV (pm_run mt (d + 0)) none oX0_copyOf (2, [some (.ref 5), some (.ref 3), some (.int 0)], [], (hX I F sd)) := by
  exact pm_EV_go 2 (d := (2, [some (.ref 5), some (.ref 3), some (.int 0)], [], (hX I F sd))) rfl
set_option maxRecDepth 100000 in
set_option maxHeartbeats 4000000 in
theorem tr_X0_copyOf_5_3_2 (d : Nat) (I : Nat → Int32) (F : Nat → Nat → Int32) (sd : Int64) (x2 : Int32) (g1 : (x2 < 28) → pm_in x2 28 = true) : pm_EV (pm_run mt (d + 0)) none oX0_copyOf (2, [some (.ref 5), some (.ref 3), some (.int x2)], [], (hX I F sd)) = (if x2 < 28 then pm_EV (pm_run mt (d + 0)) none oX0_copyOf (2, [some (.ref 5), some (.ref 3), some (.int (x2 + 1))], [], (hX I (uF F 6 (upd (F 6) x2.toNatClampNeg ((F 4) x2.toNatClampNeg))) sd)) else some (none, (hX I F sd))) := by
  refine Eq.trans (pm_EV_at 2 (d := (4, [some (.ref 5), some (.ref 3), some (.int x2)], [.int 28, .int x2], (hX I F sd))) (x := if x2 < 28 then .inl (5, [some (.ref 5), some (.ref 3), some (.int x2)], [], (hX I F sd)) else .inl (15, [some (.ref 5), some (.ref 3), some (.int x2)], [], (hX I F sd))) rfl rfl) ?_
  refine pm_rc (fun p1 => ?_) (fun p1 => ?_)
  · show pm_EV (pm_run mt (d + 0)) none oX0_copyOf (5, [some (.ref 5), some (.ref 3), some (.int x2)], [], (hX I F sd)) = _
    refine Eq.trans (b := pm_EV (pm_run mt (d + 0)) none oX0_copyOf (12, [some (.ref 5), some (.ref 3), some (.int x2)], [.int ((F 4) x2.toNatClampNeg), .int x2, .ref 6], (hX I F sd))) (pm_EV_gd 6 (d := (11, [some (.ref 5), some (.ref 3), some (.int x2)], [.int x2, .ref 4, .int x2, .ref 6], (hX I F sd))) (c1 := (12, [some (.ref 5), some (.ref 3), some (.int x2)], [.int ((F 4) x2.toNatClampNeg), .int x2, .ref 6], (hX I F sd))) rfl rfl (⟨rfl, g1 p1⟩)) ?_
    refine Eq.trans (b := pm_EV (pm_run mt (d + 0)) none oX0_copyOf (13, [some (.ref 5), some (.ref 3), some (.int x2)], [], (hX I (uF F 6 (upd (F 6) x2.toNatClampNeg ((F 4) x2.toNatClampNeg))) sd))) (pm_EV_gd 0 (d := (12, [some (.ref 5), some (.ref 3), some (.int x2)], [.int ((F 4) x2.toNatClampNeg), .int x2, .ref 6], (hX I F sd))) (c1 := (13, [some (.ref 5), some (.ref 3), some (.int x2)], [], (hX I (uF F 6 (upd (F 6) x2.toNatClampNeg ((F 4) x2.toNatClampNeg))) sd))) rfl rfl (⟨rfl, g1 p1⟩)) ?_
    exact pm_EV_go 2 (d := (2, [some (.ref 5), some (.ref 3), some (.int (x2 + 1))], [], (hX I (uF F 6 (upd (F 6) x2.toNatClampNeg ((F 4) x2.toNatClampNeg))) sd))) rfl
  · show pm_EV (pm_run mt (d + 0)) none oX0_copyOf (15, [some (.ref 5), some (.ref 3), some (.int x2)], [], (hX I F sd)) = _
    exact pm_EV_at 0 (d := (15, [some (.ref 5), some (.ref 3), some (.int x2)], [], (hX I F sd))) rfl rfl
set_option maxRecDepth 100000 in
set_option maxHeartbeats 4000000 in
theorem en_X0_copyOf_5_3 (d : Nat) (I : Nat → Int32) (F : Nat → Nat → Int32) (sd : Int64) : pm_run mt (d + 1) 3 [.ref 5, .ref 3] (hX I F sd) = pm_EV (pm_run mt (d + 0)) none oX0_copyOf (0, [some (.ref 5), some (.ref 3), none], [], (hX I F sd)) := rfl
set_option maxRecDepth 100000 in
set_option maxHeartbeats 4000000 in
theorem sp_X0_copyOf_5_3 (d : Nat) (I : Nat → Int32) (F : Nat → Nat → Int32) (sd : Int64) : pm_run mt (d + 1) 3 [.ref 5, .ref 3] (hX I F sd) = some (none, (hX I (uF F 6 (va_cpy (F 4) (F 6) 0 0 28)) sd)) := by
  rw [en_X0_copyOf_5_3, tr_X0_copyOf_5_3_0]
  have key : ∀ (m k : Nat), k + m = 28 → pm_EV (pm_run mt (d + 0)) none oX0_copyOf (2, [some (.ref 5), some (.ref 3), some (.int (nI k))], [], hX I (uF F 6 (va_cpy (F 4) (F 6) 0 0 k)) sd) = some (none, hX I (uF F 6 (va_cpy (F 4) (F 6) 0 0 28)) sd) := by
    intro m
    induction m with
    | zero =>
      intro k hk
      obtain rfl : k = 28 := by omega
      rw [tr_X0_copyOf_5_3_2 _ _ _ _ _ (fun h => absurd h (by decide)), if_neg (by decide)]
    | succ m ih =>
      intro k hk
      rw [tr_X0_copyOf_5_3_2 _ _ _ _ _ (fun h => pm_in_nI (by omega) (by decide)), if_pos (by rw [show (28 : Int32) = nI 28 from rfl, nI_ltI (by omega) (by decide)]; omega), nI_clamp (by omega), nI_p1, uF_uF, uF_at, uF_ne _ _ (by decide), cpy_S]
      exact ih (k + 1) (by omega)
  have := key 28 0 rfl
  rw [cpy_0, uF_self] at this
  exact this
def hsto (f g : Nat → Int32) (n r : Int32) : Nat → Int32 := if r < 0 then g else if r < n then va_cpy f g 0 (r * 28).toNatClampNeg 28 else g
def hfet (g f : Nat → Int32) (n r : Int32) : Nat → Int32 := if r < 0 then f else if r < n then va_cpy g f (r * 28).toNatClampNeg 0 28 else f
theorem row_ok {r : Int32} {n : Nat} (hn : n < 100) (h0 : ¬ r < 0) (h1 : r < nI n) : ¬ r * 28 < 0 ∧ (r * 28).toNatClampNeg + 28 ≤ n * 28 := by
  obtain ⟨k, hk, rfl⟩ := nI_of h0
  rw [nI_ltI hk (by omega)] at h1
  rw [show (28 : Int32) = nI 28 from rfl, pk_mul, nI_clamp (by omega)]
  exact ⟨nI_pos (by omega), by omega⟩
set_option maxRecDepth 100000 in
set_option maxHeartbeats 4000000 in
theorem tr_X0_storeIn_3_8_0 (d : Nat) (I : Nat → Int32) (F : Nat → Nat → Int32) (sd : Int64) (r : Int32) (g1 : (¬ (r < 0)) → (r < (420 / 28)) → ¬ (0 : Int32) < 0 ∧ ¬ (r * 28) < 0 ∧ ¬ (28 : Int32) < 0 ∧ 0 + 28 ≤ 28 ∧ (r * 28).toNatClampNeg + 28 ≤ 420 ∧ ([] : List Value).length ≤ 4) : pm_EV (pm_run mt (d + 0)) none oX0_storeIn (0, [some (.ref 3), some (.ref 8), some (.int r)], [], (hX I F sd)) = (if r < 0 then some (none, (hX I F sd)) else (if r < (420 / 28) then some (none, (hX I (uF F 8 (va_cpy (F 4) (F 8) 0 (r * 28).toNatClampNeg 28)) sd)) else some (none, (hX I F sd)))) := by
  refine Eq.trans (pm_EV_at 1 (d := (1, [some (.ref 3), some (.ref 8), some (.int r)], [.int r], (hX I F sd))) (x := if r < 0 then .inl (17, [some (.ref 3), some (.ref 8), some (.int r)], [], (hX I F sd)) else .inl (2, [some (.ref 3), some (.ref 8), some (.int r)], [], (hX I F sd))) rfl rfl) ?_
  refine pm_rc (fun p1 => ?_) (fun p1 => ?_)
  · show pm_EV (pm_run mt (d + 0)) none oX0_storeIn (17, [some (.ref 3), some (.ref 8), some (.int r)], [], (hX I F sd)) = _
    exact pm_EV_at 0 (d := (17, [some (.ref 3), some (.ref 8), some (.int r)], [], (hX I F sd))) rfl rfl
  · show pm_EV (pm_run mt (d + 0)) none oX0_storeIn (2, [some (.ref 3), some (.ref 8), some (.int r)], [], (hX I F sd)) = _
    refine Eq.trans (pm_EV_at 5 (d := (7, [some (.ref 3), some (.ref 8), some (.int r)], [.int (420 / 28), .int r], (hX I F sd))) (x := if r < (420 / 28) then .inl (8, [some (.ref 3), some (.ref 8), some (.int r)], [], (hX I F sd)) else .inl (17, [some (.ref 3), some (.ref 8), some (.int r)], [], (hX I F sd))) rfl rfl) ?_
    refine pm_rc (fun p2 => ?_) (fun p2 => ?_)
    · show pm_EV (pm_run mt (d + 0)) none oX0_storeIn (8, [some (.ref 3), some (.ref 8), some (.int r)], [], (hX I F sd)) = _
      refine Eq.trans (b := pm_EV (pm_run mt (d + 0)) none oX0_storeIn (17, [some (.ref 3), some (.ref 8), some (.int r)], [], (hX I (uF F 8 (va_cpy (F 4) (F 8) 0 (r * 28).toNatClampNeg 28)) sd))) (pm_EV_gd 8 (d := (16, [some (.ref 3), some (.ref 8), some (.int r)], [.int 28, .int (r * 28), .ref 8, .int 0, .ref 4], (hX I F sd))) (c1 := (17, [some (.ref 3), some (.ref 8), some (.int r)], [], (hX I (uF F 8 (va_cpy (F 4) (F 8) 0 (r * 28).toNatClampNeg 28)) sd))) rfl rfl (g1 p1 p2)) ?_
      exact pm_EV_at 0 (d := (17, [some (.ref 3), some (.ref 8), some (.int r)], [], (hX I (uF F 8 (va_cpy (F 4) (F 8) 0 (r * 28).toNatClampNeg 28)) sd))) rfl rfl
    · show pm_EV (pm_run mt (d + 0)) none oX0_storeIn (17, [some (.ref 3), some (.ref 8), some (.int r)], [], (hX I F sd)) = _
      exact pm_EV_at 0 (d := (17, [some (.ref 3), some (.ref 8), some (.int r)], [], (hX I F sd))) rfl rfl
set_option maxRecDepth 100000 in
set_option maxHeartbeats 4000000 in
theorem en_X0_storeIn_3_8 (d : Nat) (I : Nat → Int32) (F : Nat → Nat → Int32) (sd : Int64) (r : Int32) : pm_run mt (d + 1) 4 [.ref 3, .ref 8, .int r] (hX I F sd) = pm_EV (pm_run mt (d + 0)) none oX0_storeIn (0, [some (.ref 3), some (.ref 8), some (.int r)], [], (hX I F sd)) := rfl
set_option maxRecDepth 100000 in
set_option maxHeartbeats 4000000 in
theorem sp_X0_storeIn_3_8 (d : Nat) (I : Nat → Int32) (F : Nat → Nat → Int32) (sd : Int64) (r : Int32) : pm_run mt (d + 1) 4 [.ref 3, .ref 8, .int r] (hX I F sd) = some (none, (hX I (uF F 8 (hsto (F 4) (F 8) 15 r)) sd)) := by
  rw [en_X0_storeIn_3_8, tr_X0_storeIn_3_8_0 _ _ _ _ _ (fun a b => by have h := row_ok (n := 15) (by decide) a b; exact ⟨by decide, h.1, by decide, by decide, h.2, by decide⟩)]
  unfold hsto
  by_cases e1 : r < 0
  · simp only [e1, if_true]
    rw [uF_self]
  · rw [if_neg e1, if_neg e1]
    by_cases e2 : r < 15
    · rw [if_pos e2, if_pos (show r < 420 / 28 from e2)]
    · rw [if_neg e2, if_neg (show ¬ r < 420 / 28 from e2), uF_self]
set_option maxRecDepth 100000 in
set_option maxHeartbeats 4000000 in
theorem tr_X0_fetchFrom_3_8_0 (d : Nat) (I : Nat → Int32) (F : Nat → Nat → Int32) (sd : Int64) (r : Int32) (g1 : (¬ (r < 0)) → (r < (420 / 28)) → ¬ r * 28 < 0 ∧ ¬ (0 : Int32) < 0 ∧ ¬ (28 : Int32) < 0 ∧ (r * 28).toNatClampNeg + 28 ≤ 420 ∧ 0 + 28 ≤ 28 ∧ ([] : List Value).length ≤ 4) : pm_EV (pm_run mt (d + 0)) none oX0_fetchFrom (0, [some (.ref 3), some (.ref 8), some (.int r)], [], (hX I F sd)) = (if r < 0 then some (none, (hX I F sd)) else (if r < (420 / 28) then some (none, (hX I (uF F 4 (va_cpy (F 8) (F 4) (r * 28).toNatClampNeg 0 28)) sd)) else some (none, (hX I F sd)))) := by
  refine Eq.trans (pm_EV_at 1 (d := (1, [some (.ref 3), some (.ref 8), some (.int r)], [.int r], (hX I F sd))) (x := if r < 0 then .inl (17, [some (.ref 3), some (.ref 8), some (.int r)], [], (hX I F sd)) else .inl (2, [some (.ref 3), some (.ref 8), some (.int r)], [], (hX I F sd))) rfl rfl) ?_
  refine pm_rc (fun p1 => ?_) (fun p1 => ?_)
  · show pm_EV (pm_run mt (d + 0)) none oX0_fetchFrom (17, [some (.ref 3), some (.ref 8), some (.int r)], [], (hX I F sd)) = _
    exact pm_EV_at 0 (d := (17, [some (.ref 3), some (.ref 8), some (.int r)], [], (hX I F sd))) rfl rfl
  · show pm_EV (pm_run mt (d + 0)) none oX0_fetchFrom (2, [some (.ref 3), some (.ref 8), some (.int r)], [], (hX I F sd)) = _
    refine Eq.trans (pm_EV_at 5 (d := (7, [some (.ref 3), some (.ref 8), some (.int r)], [.int (420 / 28), .int r], (hX I F sd))) (x := if r < (420 / 28) then .inl (8, [some (.ref 3), some (.ref 8), some (.int r)], [], (hX I F sd)) else .inl (17, [some (.ref 3), some (.ref 8), some (.int r)], [], (hX I F sd))) rfl rfl) ?_
    refine pm_rc (fun p2 => ?_) (fun p2 => ?_)
    · show pm_EV (pm_run mt (d + 0)) none oX0_fetchFrom (8, [some (.ref 3), some (.ref 8), some (.int r)], [], (hX I F sd)) = _
      refine Eq.trans (b := pm_EV (pm_run mt (d + 0)) none oX0_fetchFrom (17, [some (.ref 3), some (.ref 8), some (.int r)], [], (hX I (uF F 4 (va_cpy (F 8) (F 4) (r * 28).toNatClampNeg 0 28)) sd))) (pm_EV_gd 8 (d := (16, [some (.ref 3), some (.ref 8), some (.int r)], [.int 28, .int 0, .ref 4, .int (r * 28), .ref 8], (hX I F sd))) (c1 := (17, [some (.ref 3), some (.ref 8), some (.int r)], [], (hX I (uF F 4 (va_cpy (F 8) (F 4) (r * 28).toNatClampNeg 0 28)) sd))) rfl rfl (g1 p1 p2)) ?_
      exact pm_EV_at 0 (d := (17, [some (.ref 3), some (.ref 8), some (.int r)], [], (hX I (uF F 4 (va_cpy (F 8) (F 4) (r * 28).toNatClampNeg 0 28)) sd))) rfl rfl
    · show pm_EV (pm_run mt (d + 0)) none oX0_fetchFrom (17, [some (.ref 3), some (.ref 8), some (.int r)], [], (hX I F sd)) = _
      exact pm_EV_at 0 (d := (17, [some (.ref 3), some (.ref 8), some (.int r)], [], (hX I F sd))) rfl rfl
set_option maxRecDepth 100000 in
set_option maxHeartbeats 4000000 in
theorem en_X0_fetchFrom_3_8 (d : Nat) (I : Nat → Int32) (F : Nat → Nat → Int32) (sd : Int64) (r : Int32) : pm_run mt (d + 1) 5 [.ref 3, .ref 8, .int r] (hX I F sd) = pm_EV (pm_run mt (d + 0)) none oX0_fetchFrom (0, [some (.ref 3), some (.ref 8), some (.int r)], [], (hX I F sd)) := rfl
set_option maxRecDepth 100000 in
set_option maxHeartbeats 4000000 in
theorem sp_X0_fetchFrom_3_8 (d : Nat) (I : Nat → Int32) (F : Nat → Nat → Int32) (sd : Int64) (r : Int32) : pm_run mt (d + 1) 5 [.ref 3, .ref 8, .int r] (hX I F sd) = some (none, (hX I (uF F 4 (hfet (F 8) (F 4) 15 r)) sd)) := by
  rw [en_X0_fetchFrom_3_8, tr_X0_fetchFrom_3_8_0 _ _ _ _ _ (fun a b => by have h := row_ok (n := 15) (by decide) a b; exact ⟨h.1, by decide, by decide, h.2, by decide, by decide⟩)]
  unfold hfet
  by_cases e1 : r < 0
  · simp only [e1, if_true]
    rw [uF_self]
  · rw [if_neg e1, if_neg e1]
    by_cases e2 : r < 15
    · rw [if_pos e2, if_pos (show r < 420 / 28 from e2)]
    · rw [if_neg e2, if_neg (show ¬ r < 420 / 28 from e2), uF_self]
set_option maxRecDepth 100000 in
set_option maxHeartbeats 4000000 in
theorem tr_X0_storeIn_3_10_0 (d : Nat) (I : Nat → Int32) (F : Nat → Nat → Int32) (sd : Int64) (r : Int32) (g1 : (¬ (r < 0)) → (r < (56 / 28)) → ¬ (0 : Int32) < 0 ∧ ¬ (r * 28) < 0 ∧ ¬ (28 : Int32) < 0 ∧ 0 + 28 ≤ 28 ∧ (r * 28).toNatClampNeg + 28 ≤ 56 ∧ ([] : List Value).length ≤ 4) : pm_EV (pm_run mt (d + 0)) none oX0_storeIn (0, [some (.ref 3), some (.ref 10), some (.int r)], [], (hX I F sd)) = (if r < 0 then some (none, (hX I F sd)) else (if r < (56 / 28) then some (none, (hX I (uF F 10 (va_cpy (F 4) (F 10) 0 (r * 28).toNatClampNeg 28)) sd)) else some (none, (hX I F sd)))) := by
  refine Eq.trans (pm_EV_at 1 (d := (1, [some (.ref 3), some (.ref 10), some (.int r)], [.int r], (hX I F sd))) (x := if r < 0 then .inl (17, [some (.ref 3), some (.ref 10), some (.int r)], [], (hX I F sd)) else .inl (2, [some (.ref 3), some (.ref 10), some (.int r)], [], (hX I F sd))) rfl rfl) ?_
  refine pm_rc (fun p1 => ?_) (fun p1 => ?_)
  · show pm_EV (pm_run mt (d + 0)) none oX0_storeIn (17, [some (.ref 3), some (.ref 10), some (.int r)], [], (hX I F sd)) = _
    exact pm_EV_at 0 (d := (17, [some (.ref 3), some (.ref 10), some (.int r)], [], (hX I F sd))) rfl rfl
  · show pm_EV (pm_run mt (d + 0)) none oX0_storeIn (2, [some (.ref 3), some (.ref 10), some (.int r)], [], (hX I F sd)) = _
    refine Eq.trans (pm_EV_at 5 (d := (7, [some (.ref 3), some (.ref 10), some (.int r)], [.int (56 / 28), .int r], (hX I F sd))) (x := if r < (56 / 28) then .inl (8, [some (.ref 3), some (.ref 10), some (.int r)], [], (hX I F sd)) else .inl (17, [some (.ref 3), some (.ref 10), some (.int r)], [], (hX I F sd))) rfl rfl) ?_
    refine pm_rc (fun p2 => ?_) (fun p2 => ?_)
    · show pm_EV (pm_run mt (d + 0)) none oX0_storeIn (8, [some (.ref 3), some (.ref 10), some (.int r)], [], (hX I F sd)) = _
      refine Eq.trans (b := pm_EV (pm_run mt (d + 0)) none oX0_storeIn (17, [some (.ref 3), some (.ref 10), some (.int r)], [], (hX I (uF F 10 (va_cpy (F 4) (F 10) 0 (r * 28).toNatClampNeg 28)) sd))) (pm_EV_gd 8 (d := (16, [some (.ref 3), some (.ref 10), some (.int r)], [.int 28, .int (r * 28), .ref 10, .int 0, .ref 4], (hX I F sd))) (c1 := (17, [some (.ref 3), some (.ref 10), some (.int r)], [], (hX I (uF F 10 (va_cpy (F 4) (F 10) 0 (r * 28).toNatClampNeg 28)) sd))) rfl rfl (g1 p1 p2)) ?_
      exact pm_EV_at 0 (d := (17, [some (.ref 3), some (.ref 10), some (.int r)], [], (hX I (uF F 10 (va_cpy (F 4) (F 10) 0 (r * 28).toNatClampNeg 28)) sd))) rfl rfl
    · show pm_EV (pm_run mt (d + 0)) none oX0_storeIn (17, [some (.ref 3), some (.ref 10), some (.int r)], [], (hX I F sd)) = _
      exact pm_EV_at 0 (d := (17, [some (.ref 3), some (.ref 10), some (.int r)], [], (hX I F sd))) rfl rfl
set_option maxRecDepth 100000 in
set_option maxHeartbeats 4000000 in
theorem en_X0_storeIn_3_10 (d : Nat) (I : Nat → Int32) (F : Nat → Nat → Int32) (sd : Int64) (r : Int32) : pm_run mt (d + 1) 4 [.ref 3, .ref 10, .int r] (hX I F sd) = pm_EV (pm_run mt (d + 0)) none oX0_storeIn (0, [some (.ref 3), some (.ref 10), some (.int r)], [], (hX I F sd)) := rfl
set_option maxRecDepth 100000 in
set_option maxHeartbeats 4000000 in
theorem sp_X0_storeIn_3_10 (d : Nat) (I : Nat → Int32) (F : Nat → Nat → Int32) (sd : Int64) (r : Int32) : pm_run mt (d + 1) 4 [.ref 3, .ref 10, .int r] (hX I F sd) = some (none, (hX I (uF F 10 (hsto (F 4) (F 10) 2 r)) sd)) := by
  rw [en_X0_storeIn_3_10, tr_X0_storeIn_3_10_0 _ _ _ _ _ (fun a b => by have h := row_ok (n := 2) (by decide) a b; exact ⟨by decide, h.1, by decide, by decide, h.2, by decide⟩)]
  unfold hsto
  by_cases e1 : r < 0
  · simp only [e1, if_true]
    rw [uF_self]
  · rw [if_neg e1, if_neg e1]
    by_cases e2 : r < 2
    · rw [if_pos e2, if_pos (show r < 56 / 28 from e2)]
    · rw [if_neg e2, if_neg (show ¬ r < 56 / 28 from e2), uF_self]
set_option maxRecDepth 100000 in
set_option maxHeartbeats 4000000 in
theorem tr_X0_fetchFrom_3_10_0 (d : Nat) (I : Nat → Int32) (F : Nat → Nat → Int32) (sd : Int64) (r : Int32) (g1 : (¬ (r < 0)) → (r < (56 / 28)) → ¬ r * 28 < 0 ∧ ¬ (0 : Int32) < 0 ∧ ¬ (28 : Int32) < 0 ∧ (r * 28).toNatClampNeg + 28 ≤ 56 ∧ 0 + 28 ≤ 28 ∧ ([] : List Value).length ≤ 4) : pm_EV (pm_run mt (d + 0)) none oX0_fetchFrom (0, [some (.ref 3), some (.ref 10), some (.int r)], [], (hX I F sd)) = (if r < 0 then some (none, (hX I F sd)) else (if r < (56 / 28) then some (none, (hX I (uF F 4 (va_cpy (F 10) (F 4) (r * 28).toNatClampNeg 0 28)) sd)) else some (none, (hX I F sd)))) := by
  refine Eq.trans (pm_EV_at 1 (d := (1, [some (.ref 3), some (.ref 10), some (.int r)], [.int r], (hX I F sd))) (x := if r < 0 then .inl (17, [some (.ref 3), some (.ref 10), some (.int r)], [], (hX I F sd)) else .inl (2, [some (.ref 3), some (.ref 10), some (.int r)], [], (hX I F sd))) rfl rfl) ?_
  refine pm_rc (fun p1 => ?_) (fun p1 => ?_)
  · show pm_EV (pm_run mt (d + 0)) none oX0_fetchFrom (17, [some (.ref 3), some (.ref 10), some (.int r)], [], (hX I F sd)) = _
    exact pm_EV_at 0 (d := (17, [some (.ref 3), some (.ref 10), some (.int r)], [], (hX I F sd))) rfl rfl
  · show pm_EV (pm_run mt (d + 0)) none oX0_fetchFrom (2, [some (.ref 3), some (.ref 10), some (.int r)], [], (hX I F sd)) = _
    refine Eq.trans (pm_EV_at 5 (d := (7, [some (.ref 3), some (.ref 10), some (.int r)], [.int (56 / 28), .int r], (hX I F sd))) (x := if r < (56 / 28) then .inl (8, [some (.ref 3), some (.ref 10), some (.int r)], [], (hX I F sd)) else .inl (17, [some (.ref 3), some (.ref 10), some (.int r)], [], (hX I F sd))) rfl rfl) ?_
    refine pm_rc (fun p2 => ?_) (fun p2 => ?_)
    · show pm_EV (pm_run mt (d + 0)) none oX0_fetchFrom (8, [some (.ref 3), some (.ref 10), some (.int r)], [], (hX I F sd)) = _
      refine Eq.trans (b := pm_EV (pm_run mt (d + 0)) none oX0_fetchFrom (17, [some (.ref 3), some (.ref 10), some (.int r)], [], (hX I (uF F 4 (va_cpy (F 10) (F 4) (r * 28).toNatClampNeg 0 28)) sd))) (pm_EV_gd 8 (d := (16, [some (.ref 3), some (.ref 10), some (.int r)], [.int 28, .int 0, .ref 4, .int (r * 28), .ref 10], (hX I F sd))) (c1 := (17, [some (.ref 3), some (.ref 10), some (.int r)], [], (hX I (uF F 4 (va_cpy (F 10) (F 4) (r * 28).toNatClampNeg 0 28)) sd))) rfl rfl (g1 p1 p2)) ?_
      exact pm_EV_at 0 (d := (17, [some (.ref 3), some (.ref 10), some (.int r)], [], (hX I (uF F 4 (va_cpy (F 10) (F 4) (r * 28).toNatClampNeg 0 28)) sd))) rfl rfl
    · show pm_EV (pm_run mt (d + 0)) none oX0_fetchFrom (17, [some (.ref 3), some (.ref 10), some (.int r)], [], (hX I F sd)) = _
      exact pm_EV_at 0 (d := (17, [some (.ref 3), some (.ref 10), some (.int r)], [], (hX I F sd))) rfl rfl
set_option maxRecDepth 100000 in
set_option maxHeartbeats 4000000 in
theorem en_X0_fetchFrom_3_10 (d : Nat) (I : Nat → Int32) (F : Nat → Nat → Int32) (sd : Int64) (r : Int32) : pm_run mt (d + 1) 5 [.ref 3, .ref 10, .int r] (hX I F sd) = pm_EV (pm_run mt (d + 0)) none oX0_fetchFrom (0, [some (.ref 3), some (.ref 10), some (.int r)], [], (hX I F sd)) := rfl
set_option maxRecDepth 100000 in
set_option maxHeartbeats 4000000 in
theorem sp_X0_fetchFrom_3_10 (d : Nat) (I : Nat → Int32) (F : Nat → Nat → Int32) (sd : Int64) (r : Int32) : pm_run mt (d + 1) 5 [.ref 3, .ref 10, .int r] (hX I F sd) = some (none, (hX I (uF F 4 (hfet (F 10) (F 4) 2 r)) sd)) := by
  rw [en_X0_fetchFrom_3_10, tr_X0_fetchFrom_3_10_0 _ _ _ _ _ (fun a b => by have h := row_ok (n := 2) (by decide) a b; exact ⟨h.1, by decide, by decide, h.2, by decide, by decide⟩)]
  unfold hfet
  by_cases e1 : r < 0
  · simp only [e1, if_true]
    rw [uF_self]
  · rw [if_neg e1, if_neg e1]
    by_cases e2 : r < 2
    · rw [if_pos e2, if_pos (show r < 56 / 28 from e2)]
    · rw [if_neg e2, if_neg (show ¬ r < 56 / 28 from e2), uF_self]
def rL (g w s : Int32) : Nat → Int32 → Int32
  | 0, b => b
  | k + 1, b => if g < s - nI k then b else if xhas w (nI k) = true then b else rL g w s k (b ||| (1 <<< (nI k &&& 31)))
def rR (g w s : Int32) : Nat → Nat → Int32 → Int32
  | 0, _, b => b
  | m + 1, p, b => if g < nI p - s then b else if xhas w (nI p) = true then b else rR g w s m (p + 1) (b ||| (1 <<< (nI p &&& 31)))
def xreach (s g w : Int32) : Int32 := if xhas w s = true then 0 else rR g w s (9 - s.toNatClampNeg) (s.toNatClampNeg + 1) (rL g w s s.toNatClampNeg (1 <<< (s &&& 31)))
theorem inr_of {q n : Int32} (h : inr q n = true) : ¬ q < 0 ∧ q < n := by
  unfold inr at h
  simpa using h
theorem inr_nI {q : Int32} {n : Nat} (hn : n < 2 ^ 31) (h : inr q (nI n) = true) : ∃ k, k < n ∧ q = nI k := by
  obtain ⟨h1, h2⟩ := inr_of h
  obtain ⟨k, hk, rfl⟩ := nI_of h1
  rw [nI_ltI hk hn] at h2
  exact ⟨k, h2, rfl⟩
set_option maxRecDepth 100000 in
set_option maxHeartbeats 4000000 in
theorem tr_X0_reachOf_0 (d : Nat) (I : Nat → Int32) (F : Nat → Nat → Int32) (sd : Int64) (s : Int32) (g : Int32) (w : Int32) : pm_EV (pm_run mt (d + 2)) (some .int) oX0_reachOf (0, [some (.int s), some (.int g), some (.int w), none, none], [], (hX I F sd)) = (if (bI (xhas w s)) = 0 then pm_EV (pm_run mt (d + 2)) (some .int) oX0_reachOf (14, [some (.int s), some (.int g), some (.int w), some (.int (1 <<< (s &&& 31))), some (.int (s - 1))], [], (hX I F sd)) else some (some (.int 0), (hX I F sd))) := by
  refine Eq.trans (b := pm_EV (pm_run mt (d + 2)) (some .int) oX0_reachOf (3, [some (.int s), some (.int g), some (.int w), none, none], [.int (bI (xhas w s))], (hX I F sd))) (pm_EV_cl 2 (call := pm_run mt (d + 2)) (d := (2, [some (.int s), some (.int g), some (.int w), none, none], [.int s, .int w], (hX I F sd))) (a := 103) (as := [.int w, .int s]) (hp := (hX I F sd)) (hp2 := (hX I F sd)) (i2 := 3) (ls := [some (.int s), some (.int g), some (.int w), none, none]) (rest := []) (r := some (.int (bI (xhas w s)))) rfl rfl (sp_X7_has (d + 0) I F sd w s )) ?_
  refine Eq.trans (pm_EV_at 0 (d := (3, [some (.int s), some (.int g), some (.int w), none, none], [.int (bI (xhas w s))], (hX I F sd))) (x := if (bI (xhas w s)) = 0 then .inl (6, [some (.int s), some (.int g), some (.int w), none, none], [], (hX I F sd)) else .inl (4, [some (.int s), some (.int g), some (.int w), none, none], [], (hX I F sd))) rfl rfl) ?_
  refine pm_rc (fun p1 => ?_) (fun p1 => ?_)
  · show pm_EV (pm_run mt (d + 2)) (some .int) oX0_reachOf (6, [some (.int s), some (.int g), some (.int w), none, none], [], (hX I F sd)) = _
    exact pm_EV_go 8 (d := (14, [some (.int s), some (.int g), some (.int w), some (.int (1 <<< (s &&& 31))), some (.int (s - 1))], [], (hX I F sd))) rfl
  · show pm_EV (pm_run mt (d + 2)) (some .int) oX0_reachOf (4, [some (.int s), some (.int g), some (.int w), none, none], [], (hX I F sd)) = _
    exact pm_EV_at 1 (d := (5, [some (.int s), some (.int g), some (.int w), none, none], [.int 0], (hX I F sd))) rfl rfl
set_option maxRecDepth 100000 in
set_option maxHeartbeats 4000000 in
theorem tr_X0_reachOf_14 (d : Nat) (I : Nat → Int32) (F : Nat → Nat → Int32) (sd : Int64) (s : Int32) (g : Int32) (w : Int32) (x3 : Int32) (x4 : Int32) : pm_EV (pm_run mt (d + 2)) (some .int) oX0_reachOf (14, [some (.int s), some (.int g), some (.int w), some (.int x3), some (.int x4)], [], (hX I F sd)) = (if x4 < 0 then pm_EV (pm_run mt (d + 2)) (some .int) oX0_reachOf (37, [some (.int s), some (.int g), some (.int w), some (.int x3), some (.int (s + 1))], [], (hX I F sd)) else (if g < (s - x4) then pm_EV (pm_run mt (d + 2)) (some .int) oX0_reachOf (37, [some (.int s), some (.int g), some (.int w), some (.int x3), some (.int (s + 1))], [], (hX I F sd)) else (if (bI (xhas w x4)) = 0 then pm_EV (pm_run mt (d + 2)) (some .int) oX0_reachOf (14, [some (.int s), some (.int g), some (.int w), some (.int (x3 ||| (1 <<< (x4 &&& 31)))), some (.int (x4 + (-1)))], [], (hX I F sd)) else pm_EV (pm_run mt (d + 2)) (some .int) oX0_reachOf (37, [some (.int s), some (.int g), some (.int w), some (.int x3), some (.int (s + 1))], [], (hX I F sd))))) := by
  refine Eq.trans (pm_EV_at 1 (d := (15, [some (.int s), some (.int g), some (.int w), some (.int x3), some (.int x4)], [.int x4], (hX I F sd))) (x := if x4 < 0 then .inl (33, [some (.int s), some (.int g), some (.int w), some (.int x3), some (.int x4)], [], (hX I F sd)) else .inl (16, [some (.int s), some (.int g), some (.int w), some (.int x3), some (.int x4)], [], (hX I F sd))) rfl rfl) ?_
  refine pm_rc (fun p1 => ?_) (fun p1 => ?_)
  · show pm_EV (pm_run mt (d + 2)) (some .int) oX0_reachOf (33, [some (.int s), some (.int g), some (.int w), some (.int x3), some (.int x4)], [], (hX I F sd)) = _
    exact pm_EV_go 4 (d := (37, [some (.int s), some (.int g), some (.int w), some (.int x3), some (.int (s + 1))], [], (hX I F sd))) rfl
  · show pm_EV (pm_run mt (d + 2)) (some .int) oX0_reachOf (16, [some (.int s), some (.int g), some (.int w), some (.int x3), some (.int x4)], [], (hX I F sd)) = _
    refine Eq.trans (pm_EV_at 4 (d := (20, [some (.int s), some (.int g), some (.int w), some (.int x3), some (.int x4)], [.int g, .int (s - x4)], (hX I F sd))) (x := if g < (s - x4) then .inl (33, [some (.int s), some (.int g), some (.int w), some (.int x3), some (.int x4)], [], (hX I F sd)) else .inl (21, [some (.int s), some (.int g), some (.int w), some (.int x3), some (.int x4)], [], (hX I F sd))) rfl rfl) ?_
    refine pm_rc (fun p2 => ?_) (fun p2 => ?_)
    · show pm_EV (pm_run mt (d + 2)) (some .int) oX0_reachOf (33, [some (.int s), some (.int g), some (.int w), some (.int x3), some (.int x4)], [], (hX I F sd)) = _
      exact pm_EV_go 4 (d := (37, [some (.int s), some (.int g), some (.int w), some (.int x3), some (.int (s + 1))], [], (hX I F sd))) rfl
    · show pm_EV (pm_run mt (d + 2)) (some .int) oX0_reachOf (21, [some (.int s), some (.int g), some (.int w), some (.int x3), some (.int x4)], [], (hX I F sd)) = _
      refine Eq.trans (b := pm_EV (pm_run mt (d + 2)) (some .int) oX0_reachOf (24, [some (.int s), some (.int g), some (.int w), some (.int x3), some (.int x4)], [.int (bI (xhas w x4))], (hX I F sd))) (pm_EV_cl 2 (call := pm_run mt (d + 2)) (d := (23, [some (.int s), some (.int g), some (.int w), some (.int x3), some (.int x4)], [.int x4, .int w], (hX I F sd))) (a := 103) (as := [.int w, .int x4]) (hp := (hX I F sd)) (hp2 := (hX I F sd)) (i2 := 24) (ls := [some (.int s), some (.int g), some (.int w), some (.int x3), some (.int x4)]) (rest := []) (r := some (.int (bI (xhas w x4)))) rfl rfl (sp_X7_has (d + 0) I F sd w x4 )) ?_
      refine Eq.trans (pm_EV_at 0 (d := (24, [some (.int s), some (.int g), some (.int w), some (.int x3), some (.int x4)], [.int (bI (xhas w x4))], (hX I F sd))) (x := if (bI (xhas w x4)) = 0 then .inl (25, [some (.int s), some (.int g), some (.int w), some (.int x3), some (.int x4)], [], (hX I F sd)) else .inl (33, [some (.int s), some (.int g), some (.int w), some (.int x3), some (.int x4)], [], (hX I F sd))) rfl rfl) ?_
      refine pm_rc (fun p3 => ?_) (fun p3 => ?_)
      · show pm_EV (pm_run mt (d + 2)) (some .int) oX0_reachOf (25, [some (.int s), some (.int g), some (.int w), some (.int x3), some (.int x4)], [], (hX I F sd)) = _
        exact pm_EV_go 8 (d := (14, [some (.int s), some (.int g), some (.int w), some (.int (x3 ||| (1 <<< (x4 &&& 31)))), some (.int (x4 + (-1)))], [], (hX I F sd))) rfl
      · show pm_EV (pm_run mt (d + 2)) (some .int) oX0_reachOf (33, [some (.int s), some (.int g), some (.int w), some (.int x3), some (.int x4)], [], (hX I F sd)) = _
        exact pm_EV_go 4 (d := (37, [some (.int s), some (.int g), some (.int w), some (.int x3), some (.int (s + 1))], [], (hX I F sd))) rfl
set_option maxRecDepth 100000 in
set_option maxHeartbeats 4000000 in
theorem tr_X0_reachOf_37 (d : Nat) (I : Nat → Int32) (F : Nat → Nat → Int32) (sd : Int64) (s : Int32) (g : Int32) (w : Int32) (x3 : Int32) (x4 : Int32) : pm_EV (pm_run mt (d + 2)) (some .int) oX0_reachOf (37, [some (.int s), some (.int g), some (.int w), some (.int x3), some (.int x4)], [], (hX I F sd)) = (if x4 < 10 then (if g < (x4 - s) then some (some (.int x3), (hX I F sd)) else (if (bI (xhas w x4)) = 0 then pm_EV (pm_run mt (d + 2)) (some .int) oX0_reachOf (37, [some (.int s), some (.int g), some (.int w), some (.int (x3 ||| (1 <<< (x4 &&& 31)))), some (.int (x4 + 1))], [], (hX I F sd)) else some (some (.int x3), (hX I F sd)))) else some (some (.int x3), (hX I F sd))) := by
  refine Eq.trans (pm_EV_at 2 (d := (39, [some (.int s), some (.int g), some (.int w), some (.int x3), some (.int x4)], [.int 10, .int x4], (hX I F sd))) (x := if x4 < 10 then .inl (40, [some (.int s), some (.int g), some (.int w), some (.int x3), some (.int x4)], [], (hX I F sd)) else .inl (57, [some (.int s), some (.int g), some (.int w), some (.int x3), some (.int x4)], [], (hX I F sd))) rfl rfl) ?_
  refine pm_rc (fun p1 => ?_) (fun p1 => ?_)
  · show pm_EV (pm_run mt (d + 2)) (some .int) oX0_reachOf (40, [some (.int s), some (.int g), some (.int w), some (.int x3), some (.int x4)], [], (hX I F sd)) = _
    refine Eq.trans (pm_EV_at 4 (d := (44, [some (.int s), some (.int g), some (.int w), some (.int x3), some (.int x4)], [.int g, .int (x4 - s)], (hX I F sd))) (x := if g < (x4 - s) then .inl (57, [some (.int s), some (.int g), some (.int w), some (.int x3), some (.int x4)], [], (hX I F sd)) else .inl (45, [some (.int s), some (.int g), some (.int w), some (.int x3), some (.int x4)], [], (hX I F sd))) rfl rfl) ?_
    refine pm_rc (fun p2 => ?_) (fun p2 => ?_)
    · show pm_EV (pm_run mt (d + 2)) (some .int) oX0_reachOf (57, [some (.int s), some (.int g), some (.int w), some (.int x3), some (.int x4)], [], (hX I F sd)) = _
      exact pm_EV_at 1 (d := (58, [some (.int s), some (.int g), some (.int w), some (.int x3), some (.int x4)], [.int x3], (hX I F sd))) rfl rfl
    · show pm_EV (pm_run mt (d + 2)) (some .int) oX0_reachOf (45, [some (.int s), some (.int g), some (.int w), some (.int x3), some (.int x4)], [], (hX I F sd)) = _
      refine Eq.trans (b := pm_EV (pm_run mt (d + 2)) (some .int) oX0_reachOf (48, [some (.int s), some (.int g), some (.int w), some (.int x3), some (.int x4)], [.int (bI (xhas w x4))], (hX I F sd))) (pm_EV_cl 2 (call := pm_run mt (d + 2)) (d := (47, [some (.int s), some (.int g), some (.int w), some (.int x3), some (.int x4)], [.int x4, .int w], (hX I F sd))) (a := 103) (as := [.int w, .int x4]) (hp := (hX I F sd)) (hp2 := (hX I F sd)) (i2 := 48) (ls := [some (.int s), some (.int g), some (.int w), some (.int x3), some (.int x4)]) (rest := []) (r := some (.int (bI (xhas w x4)))) rfl rfl (sp_X7_has (d + 0) I F sd w x4 )) ?_
      refine Eq.trans (pm_EV_at 0 (d := (48, [some (.int s), some (.int g), some (.int w), some (.int x3), some (.int x4)], [.int (bI (xhas w x4))], (hX I F sd))) (x := if (bI (xhas w x4)) = 0 then .inl (49, [some (.int s), some (.int g), some (.int w), some (.int x3), some (.int x4)], [], (hX I F sd)) else .inl (57, [some (.int s), some (.int g), some (.int w), some (.int x3), some (.int x4)], [], (hX I F sd))) rfl rfl) ?_
      refine pm_rc (fun p3 => ?_) (fun p3 => ?_)
      · show pm_EV (pm_run mt (d + 2)) (some .int) oX0_reachOf (49, [some (.int s), some (.int g), some (.int w), some (.int x3), some (.int x4)], [], (hX I F sd)) = _
        exact pm_EV_go 8 (d := (37, [some (.int s), some (.int g), some (.int w), some (.int (x3 ||| (1 <<< (x4 &&& 31)))), some (.int (x4 + 1))], [], (hX I F sd))) rfl
      · show pm_EV (pm_run mt (d + 2)) (some .int) oX0_reachOf (57, [some (.int s), some (.int g), some (.int w), some (.int x3), some (.int x4)], [], (hX I F sd)) = _
        exact pm_EV_at 1 (d := (58, [some (.int s), some (.int g), some (.int w), some (.int x3), some (.int x4)], [.int x3], (hX I F sd))) rfl rfl
  · show pm_EV (pm_run mt (d + 2)) (some .int) oX0_reachOf (57, [some (.int s), some (.int g), some (.int w), some (.int x3), some (.int x4)], [], (hX I F sd)) = _
    exact pm_EV_at 1 (d := (58, [some (.int s), some (.int g), some (.int w), some (.int x3), some (.int x4)], [.int x3], (hX I F sd))) rfl rfl
set_option maxRecDepth 100000 in
set_option maxHeartbeats 4000000 in
theorem en_X0_reachOf (d : Nat) (I : Nat → Int32) (F : Nat → Nat → Int32) (sd : Int64) (s : Int32) (g : Int32) (w : Int32) : pm_run mt (d + 3) 27 [.int s, .int g, .int w] (hX I F sd) = pm_EV (pm_run mt (d + 2)) (some .int) oX0_reachOf (0, [some (.int s), some (.int g), some (.int w), none, none], [], (hX I F sd)) := rfl
set_option maxRecDepth 100000 in
set_option maxHeartbeats 4000000 in
theorem sp_X0_reachOf (d : Nat) (I : Nat → Int32) (F : Nat → Nat → Int32) (sd : Int64) (s : Int32) (g : Int32) (w : Int32) (h1 : inr s 10 = true) : pm_run mt (d + 3) 27 [.int s, .int g, .int w] (hX I F sd) = some (some (.int (xreach s g w)), (hX I F sd)) := by
  rw [en_X0_reachOf, tr_X0_reachOf_0]
  obtain ⟨a, ha, rfl⟩ := inr_nI (n := 10) (by decide) h1
  have right : ∀ (m p : Nat) (b : Int32), p + m = 10 → pm_EV (pm_run mt (d + 2)) (some .int) oX0_reachOf (37, [some (.int (nI a)), some (.int g), some (.int w), some (.int b), some (.int (nI p))], [], hX I F sd) = some (some (.int (rR g w (nI a) m p b)), hX I F sd) := by
    intro m
    induction m with
    | zero =>
      intro p b hp
      obtain rfl : p = 10 := by omega
      rw [tr_X0_reachOf_37, if_neg (by decide), rR]
    | succ m ih =>
      intro p b hp
      rw [tr_X0_reachOf_37, if_pos (by rw [show (10 : Int32) = nI 10 from rfl, nI_ltI (by omega) (by decide)]; omega), rR, nI_p1]
      simp only [bI_0]
      by_cases c1 : g < nI p - nI a
      · rw [if_pos c1, if_pos c1]
      · rw [if_neg c1, if_neg c1]
        cases c2 : xhas w (nI p)
        · rw [if_pos rfl, if_neg (by decide)]
          exact ih _ _ (by omega)
        · rw [if_neg (by decide), if_pos rfl]
  have left : ∀ (k : Nat) (b : Int32), k ≤ a → pm_EV (pm_run mt (d + 2)) (some .int) oX0_reachOf (14, [some (.int (nI a)), some (.int g), some (.int w), some (.int b), some (.int (nI k - 1))], [], hX I F sd) = some (some (.int (rR g w (nI a) (9 - a) (a + 1) (rL g w (nI a) k b))), hX I F sd) := by
    intro k
    induction k with
    | zero =>
      intro b hk
      rw [tr_X0_reachOf_14, if_pos (by decide), nI_p1, rL]
      exact right _ _ _ (by omega)
    | succ k ih =>
      intro b hk
      rw [nI_pred, tr_X0_reachOf_14, if_neg (nI_pos (by omega)), rL]
      simp only [bI_0]
      by_cases c1 : g < nI a - nI k
      · rw [if_pos c1, if_pos c1, nI_p1]
        exact right _ _ _ (by omega)
      · rw [if_neg c1, if_neg c1]
        cases c2 : xhas w (nI k)
        · rw [if_pos rfl, if_neg (by decide), ← Int32.sub_eq_add_neg]
          exact ih _ (by omega)
        · rw [if_neg (by decide), if_pos rfl, nI_p1]
          exact right _ _ _ (by omega)
  unfold xreach
  simp only [bI_0]
  cases c0 : xhas w (nI a)
  · rw [if_pos rfl, if_neg (by decide), nI_clamp (by omega)]
    exact left a _ (Nat.le_refl a)
  · rw [if_neg (by decide), if_pos rfl]
def xknS (r : Int32) (f : Nat → Int32) : Nat → Int32
  | 0 => 0
  | k + 1 => if xhas r (hcell f (16 + nI k)) = true then xknS r f k ||| (1 <<< (nI k &&& 31)) else xknS r f k
def xant (f : Nat → Int32) : Int32 := xreach (f 23) (f 24) (f 26)
def xknown (f : Nat → Int32) : Int32 := xknS (xant f) f (f 22).toNatClampNeg
def xastL (r p : Int32) : Nat → Nat → Int32
  | 0, _ => -9
  | m + 1, k => if xhas r (p - nI k) = true then nI k else if xhas r (p + nI k) = true then nI k else xastL r p m (k + 1)
set_option maxRecDepth 100000 in
set_option maxHeartbeats 4000000 in
theorem tr_X0_reach_3_0 (d : Nat) (I : Nat → Int32) (F : Nat → Nat → Int32) (sd : Int64) (g1 : inr ((F 4) 23) 10 = true) : pm_EV (pm_run mt (d + 3)) (some .int) oX0_reach (0, [some (.ref 3)], [], (hX I F sd)) = some (some (.int (xreach ((F 4) 23) ((F 4) 24) ((F 4) 26))), (hX I F sd)) := by
  refine Eq.trans (b := pm_EV (pm_run mt (d + 3)) (some .int) oX0_reach (2, [some (.ref 3)], [.int ((F 4) 23)], (hX I F sd))) (pm_EV_cl 1 (call := pm_run mt (d + 3)) (d := (1, [some (.ref 3)], [.ref 3], (hX I F sd))) (a := 9) (as := [.ref 3]) (hp := (hX I F sd)) (hp2 := (hX I F sd)) (i2 := 2) (ls := [some (.ref 3)]) (rest := []) (r := some (.int ((F 4) 23))) rfl rfl (sp_X0_skirting_3 (d + 2) I F sd  )) ?_
  refine Eq.trans (b := pm_EV (pm_run mt (d + 3)) (some .int) oX0_reach (4, [some (.ref 3)], [.int ((F 4) 24), .int ((F 4) 23)], (hX I F sd))) (pm_EV_cl 1 (call := pm_run mt (d + 3)) (d := (3, [some (.ref 3)], [.ref 3, .int ((F 4) 23)], (hX I F sd))) (a := 10) (as := [.ref 3]) (hp := (hX I F sd)) (hp2 := (hX I F sd)) (i2 := 4) (ls := [some (.ref 3)]) (rest := [.int ((F 4) 23)]) (r := some (.int ((F 4) 24))) rfl rfl (sp_X0_goodwill_3 (d + 2) I F sd  )) ?_
  refine Eq.trans (b := pm_EV (pm_run mt (d + 3)) (some .int) oX0_reach (6, [some (.ref 3)], [.int ((F 4) 26), .int ((F 4) 24), .int ((F 4) 23)], (hX I F sd))) (pm_EV_cl 1 (call := pm_run mt (d + 3)) (d := (5, [some (.ref 3)], [.ref 3, .int ((F 4) 24), .int ((F 4) 23)], (hX I F sd))) (a := 12) (as := [.ref 3]) (hp := (hX I F sd)) (hp2 := (hX I F sd)) (i2 := 6) (ls := [some (.ref 3)]) (rest := [.int ((F 4) 24), .int ((F 4) 23)]) (r := some (.int ((F 4) 26))) rfl rfl (sp_X0_powder_3 (d + 2) I F sd  )) ?_
  refine Eq.trans (b := pm_EV (pm_run mt (d + 3)) (some .int) oX0_reach (7, [some (.ref 3)], [.int (xreach ((F 4) 23) ((F 4) 24) ((F 4) 26))], (hX I F sd))) (pm_EV_cl 0 (call := pm_run mt (d + 3)) (d := (6, [some (.ref 3)], [.int ((F 4) 26), .int ((F 4) 24), .int ((F 4) 23)], (hX I F sd))) (a := 27) (as := [.int ((F 4) 23), .int ((F 4) 24), .int ((F 4) 26)]) (hp := (hX I F sd)) (hp2 := (hX I F sd)) (i2 := 7) (ls := [some (.ref 3)]) (rest := []) (r := some (.int (xreach ((F 4) 23) ((F 4) 24) ((F 4) 26)))) rfl rfl (sp_X0_reachOf (d + 0) I F sd ((F 4) 23) ((F 4) 24) ((F 4) 26) g1)) ?_
  exact pm_EV_at 0 (d := (7, [some (.ref 3)], [.int (xreach ((F 4) 23) ((F 4) 24) ((F 4) 26))], (hX I F sd))) rfl rfl
set_option maxRecDepth 100000 in
set_option maxHeartbeats 4000000 in
theorem en_X0_reach_3 (d : Nat) (I : Nat → Int32) (F : Nat → Nat → Int32) (sd : Int64) : pm_run mt (d + 4) 26 [.ref 3] (hX I F sd) = pm_EV (pm_run mt (d + 3)) (some .int) oX0_reach (0, [some (.ref 3)], [], (hX I F sd)) := rfl
set_option maxRecDepth 100000 in
set_option maxHeartbeats 4000000 in
theorem sp_X0_reach_3 (d : Nat) (I : Nat → Int32) (F : Nat → Nat → Int32) (sd : Int64) (h1 : inr (F 4 23) 10 = true) : pm_run mt (d + 4) 26 [.ref 3] (hX I F sd) = some (some (.int (xant (F 4))), (hX I F sd)) := by
  rw [en_X0_reach_3, tr_X0_reach_3_0 _ _ _ _ h1]
  rfl
set_option maxRecDepth 100000 in
set_option maxHeartbeats 4000000 in
theorem tr_X0_known_3_0 (d : Nat) (I : Nat → Int32) (F : Nat → Nat → Int32) (sd : Int64) (g1 : inr ((F 4) 23) 10 = true) : pm_EV (pm_run mt (d + 4)) (some .int) oX0_known (0, [some (.ref 3), none, none, none], [], (hX I F sd)) = pm_EV (pm_run mt (d + 4)) (some .int) oX0_known (7, [some (.ref 3), some (.int (xant ((F 4)))), some (.int 0), some (.int 0)], [], (hX I F sd)) := by
  refine Eq.trans (b := pm_EV (pm_run mt (d + 4)) (some .int) oX0_known (2, [some (.ref 3), none, none, none], [.int (xant ((F 4)))], (hX I F sd))) (pm_EV_cl 1 (call := pm_run mt (d + 4)) (d := (1, [some (.ref 3), none, none, none], [.ref 3], (hX I F sd))) (a := 26) (as := [.ref 3]) (hp := (hX I F sd)) (hp2 := (hX I F sd)) (i2 := 2) (ls := [some (.ref 3), none, none, none]) (rest := []) (r := some (.int (xant ((F 4))))) rfl rfl (sp_X0_reach_3 (d + 0) I F sd  g1)) ?_
  exact pm_EV_go 5 (d := (7, [some (.ref 3), some (.int (xant ((F 4)))), some (.int 0), some (.int 0)], [], (hX I F sd))) rfl
set_option maxRecDepth 100000 in
set_option maxHeartbeats 4000000 in
theorem tr_X0_known_3_7 (d : Nat) (I : Nat → Int32) (F : Nat → Nat → Int32) (sd : Int64) (x1 : Int32) (x2 : Int32) (x3 : Int32) : pm_EV (pm_run mt (d + 4)) (some .int) oX0_known (7, [some (.ref 3), some (.int x1), some (.int x2), some (.int x3)], [], (hX I F sd)) = (if x3 < ((F 4) 22) then (if (bI (xhas x1 (hcell ((F 4)) (16 + x3)))) = 0 then pm_EV (pm_run mt (d + 4)) (some .int) oX0_known (7, [some (.ref 3), some (.int x1), some (.int x2), some (.int (x3 + 1))], [], (hX I F sd)) else pm_EV (pm_run mt (d + 4)) (some .int) oX0_known (7, [some (.ref 3), some (.int x1), some (.int (x2 ||| (1 <<< (x3 &&& 31)))), some (.int (x3 + 1))], [], (hX I F sd))) else some (some (.int x2), (hX I F sd))) := by
  refine Eq.trans (b := pm_EV (pm_run mt (d + 4)) (some .int) oX0_known (10, [some (.ref 3), some (.int x1), some (.int x2), some (.int x3)], [.int ((F 4) 22), .int x3], (hX I F sd))) (pm_EV_cl 2 (call := pm_run mt (d + 4)) (d := (9, [some (.ref 3), some (.int x1), some (.int x2), some (.int x3)], [.ref 3, .int x3], (hX I F sd))) (a := 8) (as := [.ref 3]) (hp := (hX I F sd)) (hp2 := (hX I F sd)) (i2 := 10) (ls := [some (.ref 3), some (.int x1), some (.int x2), some (.int x3)]) (rest := [.int x3]) (r := some (.int ((F 4) 22))) rfl rfl (sp_X0_things_3 (d + 3) I F sd  )) ?_
  refine Eq.trans (pm_EV_at 0 (d := (10, [some (.ref 3), some (.int x1), some (.int x2), some (.int x3)], [.int ((F 4) 22), .int x3], (hX I F sd))) (x := if x3 < ((F 4) 22) then .inl (11, [some (.ref 3), some (.int x1), some (.int x2), some (.int x3)], [], (hX I F sd)) else .inl (25, [some (.ref 3), some (.int x1), some (.int x2), some (.int x3)], [], (hX I F sd))) rfl rfl) ?_
  refine pm_rc (fun p1 => ?_) (fun p1 => ?_)
  · show pm_EV (pm_run mt (d + 4)) (some .int) oX0_known (11, [some (.ref 3), some (.int x1), some (.int x2), some (.int x3)], [], (hX I F sd)) = _
    refine Eq.trans (b := pm_EV (pm_run mt (d + 4)) (some .int) oX0_known (15, [some (.ref 3), some (.int x1), some (.int x2), some (.int x3)], [.int (hcell ((F 4)) (16 + x3)), .int x1], (hX I F sd))) (pm_EV_cl 3 (call := pm_run mt (d + 4)) (d := (14, [some (.ref 3), some (.int x1), some (.int x2), some (.int x3)], [.int x3, .ref 3, .int x1], (hX I F sd))) (a := 20) (as := [.ref 3, .int x3]) (hp := (hX I F sd)) (hp2 := (hX I F sd)) (i2 := 15) (ls := [some (.ref 3), some (.int x1), some (.int x2), some (.int x3)]) (rest := [.int x1]) (r := some (.int (hcell ((F 4)) (16 + x3)))) rfl rfl (sp_X0_placeOf_3 (d + 2) I F sd x3 )) ?_
    refine Eq.trans (b := pm_EV (pm_run mt (d + 4)) (some .int) oX0_known (16, [some (.ref 3), some (.int x1), some (.int x2), some (.int x3)], [.int (bI (xhas x1 (hcell ((F 4)) (16 + x3))))], (hX I F sd))) (pm_EV_cl 0 (call := pm_run mt (d + 4)) (d := (15, [some (.ref 3), some (.int x1), some (.int x2), some (.int x3)], [.int (hcell ((F 4)) (16 + x3)), .int x1], (hX I F sd))) (a := 103) (as := [.int x1, .int (hcell ((F 4)) (16 + x3))]) (hp := (hX I F sd)) (hp2 := (hX I F sd)) (i2 := 16) (ls := [some (.ref 3), some (.int x1), some (.int x2), some (.int x3)]) (rest := []) (r := some (.int (bI (xhas x1 (hcell ((F 4)) (16 + x3)))))) rfl rfl (sp_X7_has (d + 2) I F sd x1 (hcell ((F 4)) (16 + x3)) )) ?_
    refine Eq.trans (pm_EV_at 0 (d := (16, [some (.ref 3), some (.int x1), some (.int x2), some (.int x3)], [.int (bI (xhas x1 (hcell ((F 4)) (16 + x3))))], (hX I F sd))) (x := if (bI (xhas x1 (hcell ((F 4)) (16 + x3)))) = 0 then .inl (23, [some (.ref 3), some (.int x1), some (.int x2), some (.int x3)], [], (hX I F sd)) else .inl (17, [some (.ref 3), some (.int x1), some (.int x2), some (.int x3)], [], (hX I F sd))) rfl rfl) ?_
    refine pm_rc (fun p2 => ?_) (fun p2 => ?_)
    · show pm_EV (pm_run mt (d + 4)) (some .int) oX0_known (23, [some (.ref 3), some (.int x1), some (.int x2), some (.int x3)], [], (hX I F sd)) = _
      exact pm_EV_go 2 (d := (7, [some (.ref 3), some (.int x1), some (.int x2), some (.int (x3 + 1))], [], (hX I F sd))) rfl
    · show pm_EV (pm_run mt (d + 4)) (some .int) oX0_known (17, [some (.ref 3), some (.int x1), some (.int x2), some (.int x3)], [], (hX I F sd)) = _
      exact pm_EV_go 8 (d := (7, [some (.ref 3), some (.int x1), some (.int (x2 ||| (1 <<< (x3 &&& 31)))), some (.int (x3 + 1))], [], (hX I F sd))) rfl
  · show pm_EV (pm_run mt (d + 4)) (some .int) oX0_known (25, [some (.ref 3), some (.int x1), some (.int x2), some (.int x3)], [], (hX I F sd)) = _
    exact pm_EV_at 1 (d := (26, [some (.ref 3), some (.int x1), some (.int x2), some (.int x3)], [.int x2], (hX I F sd))) rfl rfl
set_option maxRecDepth 100000 in
set_option maxHeartbeats 4000000 in
theorem en_X0_known_3 (d : Nat) (I : Nat → Int32) (F : Nat → Nat → Int32) (sd : Int64) : pm_run mt (d + 5) 28 [.ref 3] (hX I F sd) = pm_EV (pm_run mt (d + 4)) (some .int) oX0_known (0, [some (.ref 3), none, none, none], [], (hX I F sd)) := rfl
set_option maxRecDepth 100000 in
set_option maxHeartbeats 4000000 in
theorem sp_X0_known_3 (d : Nat) (I : Nat → Int32) (F : Nat → Nat → Int32) (sd : Int64) (h1 : inr (F 4 23) 10 = true) : pm_run mt (d + 5) 28 [.ref 3] (hX I F sd) = some (some (.int (xknown (F 4))), (hX I F sd)) := by
  rw [en_X0_known_3, tr_X0_known_3_0 _ _ _ _ h1]
  have key : ∀ (m k : Nat), k + m = (F 4 22).toNatClampNeg → pm_EV (pm_run mt (d + 4)) (some .int) oX0_known (7, [some (.ref 3), some (.int (xant (F 4))), some (.int (xknS (xant (F 4)) (F 4) k)), some (.int (nI k))], [], hX I F sd) = some (some (.int (xknown (F 4))), hX I F sd) := by
    intro m
    induction m with
    | zero =>
      intro k hk
      have hb := cl_bd (F 4 22)
      rw [tr_X0_known_3_7, if_neg (fun h => by rw [cl_lt (by omega)] at h; omega), xknown, ← hk]
      rfl
    | succ m ih =>
      intro k hk
      have hb := cl_bd (F 4 22)
      have hi := ih (k + 1) (by omega)
      rw [tr_X0_known_3_7, if_pos ((cl_lt (by omega)).mpr (by omega)), nI_p1]
      simp only [bI_0]
      rw [xknS] at hi
      cases c2 : xhas (xant (F 4)) (hcell (F 4) (16 + nI k))
      · rw [if_pos rfl]
        rw [c2, if_neg (by decide)] at hi
        exact hi
      · rw [if_neg (by decide)]
        rw [c2, if_pos rfl] at hi
        exact hi
  exact key _ 0 (Nat.zero_add _)
set_option maxRecDepth 100000 in
set_option maxHeartbeats 4000000 in
theorem tr_X0_astray_3_0 (d : Nat) (I : Nat → Int32) (F : Nat → Nat → Int32) (sd : Int64) (q : Int32) (g1 : inr ((F 4) 23) 10 = true) : pm_EV (pm_run mt (d + 4)) (some .int) oX0_astray (0, [some (.ref 3), some (.int q), none, none, none], [], (hX I F sd)) = pm_EV (pm_run mt (d + 4)) (some .int) oX0_astray (9, [some (.ref 3), some (.int q), some (.int (xant ((F 4)))), some (.int (hcell ((F 4)) (16 + q))), some (.int 0)], [], (hX I F sd)) := by
  refine Eq.trans (b := pm_EV (pm_run mt (d + 4)) (some .int) oX0_astray (2, [some (.ref 3), some (.int q), none, none, none], [.int (xant ((F 4)))], (hX I F sd))) (pm_EV_cl 1 (call := pm_run mt (d + 4)) (d := (1, [some (.ref 3), some (.int q), none, none, none], [.ref 3], (hX I F sd))) (a := 26) (as := [.ref 3]) (hp := (hX I F sd)) (hp2 := (hX I F sd)) (i2 := 2) (ls := [some (.ref 3), some (.int q), none, none, none]) (rest := []) (r := some (.int (xant ((F 4))))) rfl rfl (sp_X0_reach_3 (d + 0) I F sd  g1)) ?_
  refine Eq.trans (b := pm_EV (pm_run mt (d + 4)) (some .int) oX0_astray (6, [some (.ref 3), some (.int q), some (.int (xant ((F 4)))), none, none], [.int (hcell ((F 4)) (16 + q))], (hX I F sd))) (pm_EV_cl 3 (call := pm_run mt (d + 4)) (d := (5, [some (.ref 3), some (.int q), some (.int (xant ((F 4)))), none, none], [.int q, .ref 3], (hX I F sd))) (a := 20) (as := [.ref 3, .int q]) (hp := (hX I F sd)) (hp2 := (hX I F sd)) (i2 := 6) (ls := [some (.ref 3), some (.int q), some (.int (xant ((F 4)))), none, none]) (rest := []) (r := some (.int (hcell ((F 4)) (16 + q)))) rfl rfl (sp_X0_placeOf_3 (d + 2) I F sd q )) ?_
  exact pm_EV_go 3 (d := (9, [some (.ref 3), some (.int q), some (.int (xant ((F 4)))), some (.int (hcell ((F 4)) (16 + q))), some (.int 0)], [], (hX I F sd))) rfl
set_option maxRecDepth 100000 in
set_option maxHeartbeats 4000000 in
theorem tr_X0_astray_3_9 (d : Nat) (I : Nat → Int32) (F : Nat → Nat → Int32) (sd : Int64) (q : Int32) (x2 : Int32) (x3 : Int32) (x4 : Int32) : pm_EV (pm_run mt (d + 4)) (some .int) oX0_astray (9, [some (.ref 3), some (.int q), some (.int x2), some (.int x3), some (.int x4)], [], (hX I F sd)) = (if x4 < 10 then (if (bI (xhas x2 (x3 - x4))) = 0 then (if (bI (xhas x2 (x3 + x4))) = 0 then pm_EV (pm_run mt (d + 4)) (some .int) oX0_astray (9, [some (.ref 3), some (.int q), some (.int x2), some (.int x3), some (.int (x4 + 1))], [], (hX I F sd)) else some (some (.int x4), (hX I F sd))) else some (some (.int x4), (hX I F sd))) else some (some (.int (-9)), (hX I F sd))) := by
  refine Eq.trans (pm_EV_at 2 (d := (11, [some (.ref 3), some (.int q), some (.int x2), some (.int x3), some (.int x4)], [.int 10, .int x4], (hX I F sd))) (x := if x4 < 10 then .inl (12, [some (.ref 3), some (.int q), some (.int x2), some (.int x3), some (.int x4)], [], (hX I F sd)) else .inl (28, [some (.ref 3), some (.int q), some (.int x2), some (.int x3), some (.int x4)], [], (hX I F sd))) rfl rfl) ?_
  refine pm_rc (fun p1 => ?_) (fun p1 => ?_)
  · show pm_EV (pm_run mt (d + 4)) (some .int) oX0_astray (12, [some (.ref 3), some (.int q), some (.int x2), some (.int x3), some (.int x4)], [], (hX I F sd)) = _
    refine Eq.trans (b := pm_EV (pm_run mt (d + 4)) (some .int) oX0_astray (17, [some (.ref 3), some (.int q), some (.int x2), some (.int x3), some (.int x4)], [.int (bI (xhas x2 (x3 - x4)))], (hX I F sd))) (pm_EV_cl 4 (call := pm_run mt (d + 4)) (d := (16, [some (.ref 3), some (.int q), some (.int x2), some (.int x3), some (.int x4)], [.int (x3 - x4), .int x2], (hX I F sd))) (a := 103) (as := [.int x2, .int (x3 - x4)]) (hp := (hX I F sd)) (hp2 := (hX I F sd)) (i2 := 17) (ls := [some (.ref 3), some (.int q), some (.int x2), some (.int x3), some (.int x4)]) (rest := []) (r := some (.int (bI (xhas x2 (x3 - x4))))) rfl rfl (sp_X7_has (d + 2) I F sd x2 (x3 - x4) )) ?_
    refine Eq.trans (pm_EV_at 0 (d := (17, [some (.ref 3), some (.int q), some (.int x2), some (.int x3), some (.int x4)], [.int (bI (xhas x2 (x3 - x4)))], (hX I F sd))) (x := if (bI (xhas x2 (x3 - x4))) = 0 then .inl (18, [some (.ref 3), some (.int q), some (.int x2), some (.int x3), some (.int x4)], [], (hX I F sd)) else .inl (24, [some (.ref 3), some (.int q), some (.int x2), some (.int x3), some (.int x4)], [], (hX I F sd))) rfl rfl) ?_
    refine pm_rc (fun p2 => ?_) (fun p2 => ?_)
    · show pm_EV (pm_run mt (d + 4)) (some .int) oX0_astray (18, [some (.ref 3), some (.int q), some (.int x2), some (.int x3), some (.int x4)], [], (hX I F sd)) = _
      refine Eq.trans (b := pm_EV (pm_run mt (d + 4)) (some .int) oX0_astray (23, [some (.ref 3), some (.int q), some (.int x2), some (.int x3), some (.int x4)], [.int (bI (xhas x2 (x3 + x4)))], (hX I F sd))) (pm_EV_cl 4 (call := pm_run mt (d + 4)) (d := (22, [some (.ref 3), some (.int q), some (.int x2), some (.int x3), some (.int x4)], [.int (x3 + x4), .int x2], (hX I F sd))) (a := 103) (as := [.int x2, .int (x3 + x4)]) (hp := (hX I F sd)) (hp2 := (hX I F sd)) (i2 := 23) (ls := [some (.ref 3), some (.int q), some (.int x2), some (.int x3), some (.int x4)]) (rest := []) (r := some (.int (bI (xhas x2 (x3 + x4))))) rfl rfl (sp_X7_has (d + 2) I F sd x2 (x3 + x4) )) ?_
      refine Eq.trans (pm_EV_at 0 (d := (23, [some (.ref 3), some (.int q), some (.int x2), some (.int x3), some (.int x4)], [.int (bI (xhas x2 (x3 + x4)))], (hX I F sd))) (x := if (bI (xhas x2 (x3 + x4))) = 0 then .inl (26, [some (.ref 3), some (.int q), some (.int x2), some (.int x3), some (.int x4)], [], (hX I F sd)) else .inl (24, [some (.ref 3), some (.int q), some (.int x2), some (.int x3), some (.int x4)], [], (hX I F sd))) rfl rfl) ?_
      refine pm_rc (fun p3 => ?_) (fun p3 => ?_)
      · show pm_EV (pm_run mt (d + 4)) (some .int) oX0_astray (26, [some (.ref 3), some (.int q), some (.int x2), some (.int x3), some (.int x4)], [], (hX I F sd)) = _
        exact pm_EV_go 2 (d := (9, [some (.ref 3), some (.int q), some (.int x2), some (.int x3), some (.int (x4 + 1))], [], (hX I F sd))) rfl
      · show pm_EV (pm_run mt (d + 4)) (some .int) oX0_astray (24, [some (.ref 3), some (.int q), some (.int x2), some (.int x3), some (.int x4)], [], (hX I F sd)) = _
        exact pm_EV_at 1 (d := (25, [some (.ref 3), some (.int q), some (.int x2), some (.int x3), some (.int x4)], [.int x4], (hX I F sd))) rfl rfl
    · show pm_EV (pm_run mt (d + 4)) (some .int) oX0_astray (24, [some (.ref 3), some (.int q), some (.int x2), some (.int x3), some (.int x4)], [], (hX I F sd)) = _
      exact pm_EV_at 1 (d := (25, [some (.ref 3), some (.int q), some (.int x2), some (.int x3), some (.int x4)], [.int x4], (hX I F sd))) rfl rfl
  · show pm_EV (pm_run mt (d + 4)) (some .int) oX0_astray (28, [some (.ref 3), some (.int q), some (.int x2), some (.int x3), some (.int x4)], [], (hX I F sd)) = _
    exact pm_EV_at 1 (d := (29, [some (.ref 3), some (.int q), some (.int x2), some (.int x3), some (.int x4)], [.int (-9)], (hX I F sd))) rfl rfl
set_option maxRecDepth 100000 in
set_option maxHeartbeats 4000000 in
theorem en_X0_astray_3 (d : Nat) (I : Nat → Int32) (F : Nat → Nat → Int32) (sd : Int64) (q : Int32) : pm_run mt (d + 5) 29 [.ref 3, .int q] (hX I F sd) = pm_EV (pm_run mt (d + 4)) (some .int) oX0_astray (0, [some (.ref 3), some (.int q), none, none, none], [], (hX I F sd)) := rfl
set_option maxRecDepth 100000 in
set_option maxHeartbeats 4000000 in
theorem sp_X0_astray_3 (d : Nat) (I : Nat → Int32) (F : Nat → Nat → Int32) (sd : Int64) (q : Int32) (h1 : inr (F 4 23) 10 = true) : pm_run mt (d + 5) 29 [.ref 3, .int q] (hX I F sd) = some (some (.int (xastL (xant (F 4)) (hcell (F 4) (16 + q)) 10 0)), (hX I F sd)) := by
  rw [en_X0_astray_3, tr_X0_astray_3_0 _ _ _ _ _ h1]
  have key : ∀ (m k : Nat), k + m = 10 → pm_EV (pm_run mt (d + 4)) (some .int) oX0_astray (9, [some (.ref 3), some (.int q), some (.int (xant (F 4))), some (.int (hcell (F 4) (16 + q))), some (.int (nI k))], [], hX I F sd) = some (some (.int (xastL (xant (F 4)) (hcell (F 4) (16 + q)) m k)), hX I F sd) := by
    intro m
    induction m with
    | zero =>
      intro k hk
      obtain rfl : k = 10 := by omega
      rw [tr_X0_astray_3_9, if_neg (by decide), xastL]
    | succ m ih =>
      intro k hk
      rw [tr_X0_astray_3_9, if_pos (by rw [show (10 : Int32) = nI 10 from rfl, nI_ltI (by omega) (by decide)]; omega), nI_p1, xastL]
      simp only [bI_0]
      cases c1 : xhas (xant (F 4)) (hcell (F 4) (16 + q) - nI k) <;> cases c2 : xhas (xant (F 4)) (hcell (F 4) (16 + q) + nI k) <;> simp only [Bool.false_eq_true, Bool.true_eq_false, if_true, if_false]
      exact ih _ (by omega)
  exact key 10 0 rfl
set_option maxRecDepth 100000 in
set_option maxHeartbeats 4000000 in
theorem tr_X0_reach_5_0 (d : Nat) (I : Nat → Int32) (F : Nat → Nat → Int32) (sd : Int64) (g1 : inr ((F 6) 23) 10 = true) : pm_EV (pm_run mt (d + 3)) (some .int) oX0_reach (0, [some (.ref 5)], [], (hX I F sd)) = some (some (.int (xreach ((F 6) 23) ((F 6) 24) ((F 6) 26))), (hX I F sd)) := by
  refine Eq.trans (b := pm_EV (pm_run mt (d + 3)) (some .int) oX0_reach (2, [some (.ref 5)], [.int ((F 6) 23)], (hX I F sd))) (pm_EV_cl 1 (call := pm_run mt (d + 3)) (d := (1, [some (.ref 5)], [.ref 5], (hX I F sd))) (a := 9) (as := [.ref 5]) (hp := (hX I F sd)) (hp2 := (hX I F sd)) (i2 := 2) (ls := [some (.ref 5)]) (rest := []) (r := some (.int ((F 6) 23))) rfl rfl (sp_X0_skirting_5 (d + 2) I F sd  )) ?_
  refine Eq.trans (b := pm_EV (pm_run mt (d + 3)) (some .int) oX0_reach (4, [some (.ref 5)], [.int ((F 6) 24), .int ((F 6) 23)], (hX I F sd))) (pm_EV_cl 1 (call := pm_run mt (d + 3)) (d := (3, [some (.ref 5)], [.ref 5, .int ((F 6) 23)], (hX I F sd))) (a := 10) (as := [.ref 5]) (hp := (hX I F sd)) (hp2 := (hX I F sd)) (i2 := 4) (ls := [some (.ref 5)]) (rest := [.int ((F 6) 23)]) (r := some (.int ((F 6) 24))) rfl rfl (sp_X0_goodwill_5 (d + 2) I F sd  )) ?_
  refine Eq.trans (b := pm_EV (pm_run mt (d + 3)) (some .int) oX0_reach (6, [some (.ref 5)], [.int ((F 6) 26), .int ((F 6) 24), .int ((F 6) 23)], (hX I F sd))) (pm_EV_cl 1 (call := pm_run mt (d + 3)) (d := (5, [some (.ref 5)], [.ref 5, .int ((F 6) 24), .int ((F 6) 23)], (hX I F sd))) (a := 12) (as := [.ref 5]) (hp := (hX I F sd)) (hp2 := (hX I F sd)) (i2 := 6) (ls := [some (.ref 5)]) (rest := [.int ((F 6) 24), .int ((F 6) 23)]) (r := some (.int ((F 6) 26))) rfl rfl (sp_X0_powder_5 (d + 2) I F sd  )) ?_
  refine Eq.trans (b := pm_EV (pm_run mt (d + 3)) (some .int) oX0_reach (7, [some (.ref 5)], [.int (xreach ((F 6) 23) ((F 6) 24) ((F 6) 26))], (hX I F sd))) (pm_EV_cl 0 (call := pm_run mt (d + 3)) (d := (6, [some (.ref 5)], [.int ((F 6) 26), .int ((F 6) 24), .int ((F 6) 23)], (hX I F sd))) (a := 27) (as := [.int ((F 6) 23), .int ((F 6) 24), .int ((F 6) 26)]) (hp := (hX I F sd)) (hp2 := (hX I F sd)) (i2 := 7) (ls := [some (.ref 5)]) (rest := []) (r := some (.int (xreach ((F 6) 23) ((F 6) 24) ((F 6) 26)))) rfl rfl (sp_X0_reachOf (d + 0) I F sd ((F 6) 23) ((F 6) 24) ((F 6) 26) g1)) ?_
  exact pm_EV_at 0 (d := (7, [some (.ref 5)], [.int (xreach ((F 6) 23) ((F 6) 24) ((F 6) 26))], (hX I F sd))) rfl rfl
set_option maxRecDepth 100000 in
set_option maxHeartbeats 4000000 in
theorem en_X0_reach_5 (d : Nat) (I : Nat → Int32) (F : Nat → Nat → Int32) (sd : Int64) : pm_run mt (d + 4) 26 [.ref 5] (hX I F sd) = pm_EV (pm_run mt (d + 3)) (some .int) oX0_reach (0, [some (.ref 5)], [], (hX I F sd)) := rfl
set_option maxRecDepth 100000 in
set_option maxHeartbeats 4000000 in
theorem sp_X0_reach_5 (d : Nat) (I : Nat → Int32) (F : Nat → Nat → Int32) (sd : Int64) (h1 : inr (F 6 23) 10 = true) : pm_run mt (d + 4) 26 [.ref 5] (hX I F sd) = some (some (.int (xant (F 6))), (hX I F sd)) := by
  rw [en_X0_reach_5, tr_X0_reach_5_0 _ _ _ _ h1]
  rfl
set_option maxRecDepth 100000 in
set_option maxHeartbeats 4000000 in
theorem tr_X0_known_5_0 (d : Nat) (I : Nat → Int32) (F : Nat → Nat → Int32) (sd : Int64) (g1 : inr ((F 6) 23) 10 = true) : pm_EV (pm_run mt (d + 4)) (some .int) oX0_known (0, [some (.ref 5), none, none, none], [], (hX I F sd)) = pm_EV (pm_run mt (d + 4)) (some .int) oX0_known (7, [some (.ref 5), some (.int (xant ((F 6)))), some (.int 0), some (.int 0)], [], (hX I F sd)) := by
  refine Eq.trans (b := pm_EV (pm_run mt (d + 4)) (some .int) oX0_known (2, [some (.ref 5), none, none, none], [.int (xant ((F 6)))], (hX I F sd))) (pm_EV_cl 1 (call := pm_run mt (d + 4)) (d := (1, [some (.ref 5), none, none, none], [.ref 5], (hX I F sd))) (a := 26) (as := [.ref 5]) (hp := (hX I F sd)) (hp2 := (hX I F sd)) (i2 := 2) (ls := [some (.ref 5), none, none, none]) (rest := []) (r := some (.int (xant ((F 6))))) rfl rfl (sp_X0_reach_5 (d + 0) I F sd  g1)) ?_
  exact pm_EV_go 5 (d := (7, [some (.ref 5), some (.int (xant ((F 6)))), some (.int 0), some (.int 0)], [], (hX I F sd))) rfl
set_option maxRecDepth 100000 in
set_option maxHeartbeats 4000000 in
theorem tr_X0_known_5_7 (d : Nat) (I : Nat → Int32) (F : Nat → Nat → Int32) (sd : Int64) (x1 : Int32) (x2 : Int32) (x3 : Int32) : pm_EV (pm_run mt (d + 4)) (some .int) oX0_known (7, [some (.ref 5), some (.int x1), some (.int x2), some (.int x3)], [], (hX I F sd)) = (if x3 < ((F 6) 22) then (if (bI (xhas x1 (hcell ((F 6)) (16 + x3)))) = 0 then pm_EV (pm_run mt (d + 4)) (some .int) oX0_known (7, [some (.ref 5), some (.int x1), some (.int x2), some (.int (x3 + 1))], [], (hX I F sd)) else pm_EV (pm_run mt (d + 4)) (some .int) oX0_known (7, [some (.ref 5), some (.int x1), some (.int (x2 ||| (1 <<< (x3 &&& 31)))), some (.int (x3 + 1))], [], (hX I F sd))) else some (some (.int x2), (hX I F sd))) := by
  refine Eq.trans (b := pm_EV (pm_run mt (d + 4)) (some .int) oX0_known (10, [some (.ref 5), some (.int x1), some (.int x2), some (.int x3)], [.int ((F 6) 22), .int x3], (hX I F sd))) (pm_EV_cl 2 (call := pm_run mt (d + 4)) (d := (9, [some (.ref 5), some (.int x1), some (.int x2), some (.int x3)], [.ref 5, .int x3], (hX I F sd))) (a := 8) (as := [.ref 5]) (hp := (hX I F sd)) (hp2 := (hX I F sd)) (i2 := 10) (ls := [some (.ref 5), some (.int x1), some (.int x2), some (.int x3)]) (rest := [.int x3]) (r := some (.int ((F 6) 22))) rfl rfl (sp_X0_things_5 (d + 3) I F sd  )) ?_
  refine Eq.trans (pm_EV_at 0 (d := (10, [some (.ref 5), some (.int x1), some (.int x2), some (.int x3)], [.int ((F 6) 22), .int x3], (hX I F sd))) (x := if x3 < ((F 6) 22) then .inl (11, [some (.ref 5), some (.int x1), some (.int x2), some (.int x3)], [], (hX I F sd)) else .inl (25, [some (.ref 5), some (.int x1), some (.int x2), some (.int x3)], [], (hX I F sd))) rfl rfl) ?_
  refine pm_rc (fun p1 => ?_) (fun p1 => ?_)
  · show pm_EV (pm_run mt (d + 4)) (some .int) oX0_known (11, [some (.ref 5), some (.int x1), some (.int x2), some (.int x3)], [], (hX I F sd)) = _
    refine Eq.trans (b := pm_EV (pm_run mt (d + 4)) (some .int) oX0_known (15, [some (.ref 5), some (.int x1), some (.int x2), some (.int x3)], [.int (hcell ((F 6)) (16 + x3)), .int x1], (hX I F sd))) (pm_EV_cl 3 (call := pm_run mt (d + 4)) (d := (14, [some (.ref 5), some (.int x1), some (.int x2), some (.int x3)], [.int x3, .ref 5, .int x1], (hX I F sd))) (a := 20) (as := [.ref 5, .int x3]) (hp := (hX I F sd)) (hp2 := (hX I F sd)) (i2 := 15) (ls := [some (.ref 5), some (.int x1), some (.int x2), some (.int x3)]) (rest := [.int x1]) (r := some (.int (hcell ((F 6)) (16 + x3)))) rfl rfl (sp_X0_placeOf_5 (d + 2) I F sd x3 )) ?_
    refine Eq.trans (b := pm_EV (pm_run mt (d + 4)) (some .int) oX0_known (16, [some (.ref 5), some (.int x1), some (.int x2), some (.int x3)], [.int (bI (xhas x1 (hcell ((F 6)) (16 + x3))))], (hX I F sd))) (pm_EV_cl 0 (call := pm_run mt (d + 4)) (d := (15, [some (.ref 5), some (.int x1), some (.int x2), some (.int x3)], [.int (hcell ((F 6)) (16 + x3)), .int x1], (hX I F sd))) (a := 103) (as := [.int x1, .int (hcell ((F 6)) (16 + x3))]) (hp := (hX I F sd)) (hp2 := (hX I F sd)) (i2 := 16) (ls := [some (.ref 5), some (.int x1), some (.int x2), some (.int x3)]) (rest := []) (r := some (.int (bI (xhas x1 (hcell ((F 6)) (16 + x3)))))) rfl rfl (sp_X7_has (d + 2) I F sd x1 (hcell ((F 6)) (16 + x3)) )) ?_
    refine Eq.trans (pm_EV_at 0 (d := (16, [some (.ref 5), some (.int x1), some (.int x2), some (.int x3)], [.int (bI (xhas x1 (hcell ((F 6)) (16 + x3))))], (hX I F sd))) (x := if (bI (xhas x1 (hcell ((F 6)) (16 + x3)))) = 0 then .inl (23, [some (.ref 5), some (.int x1), some (.int x2), some (.int x3)], [], (hX I F sd)) else .inl (17, [some (.ref 5), some (.int x1), some (.int x2), some (.int x3)], [], (hX I F sd))) rfl rfl) ?_
    refine pm_rc (fun p2 => ?_) (fun p2 => ?_)
    · show pm_EV (pm_run mt (d + 4)) (some .int) oX0_known (23, [some (.ref 5), some (.int x1), some (.int x2), some (.int x3)], [], (hX I F sd)) = _
      exact pm_EV_go 2 (d := (7, [some (.ref 5), some (.int x1), some (.int x2), some (.int (x3 + 1))], [], (hX I F sd))) rfl
    · show pm_EV (pm_run mt (d + 4)) (some .int) oX0_known (17, [some (.ref 5), some (.int x1), some (.int x2), some (.int x3)], [], (hX I F sd)) = _
      exact pm_EV_go 8 (d := (7, [some (.ref 5), some (.int x1), some (.int (x2 ||| (1 <<< (x3 &&& 31)))), some (.int (x3 + 1))], [], (hX I F sd))) rfl
  · show pm_EV (pm_run mt (d + 4)) (some .int) oX0_known (25, [some (.ref 5), some (.int x1), some (.int x2), some (.int x3)], [], (hX I F sd)) = _
    exact pm_EV_at 1 (d := (26, [some (.ref 5), some (.int x1), some (.int x2), some (.int x3)], [.int x2], (hX I F sd))) rfl rfl
set_option maxRecDepth 100000 in
set_option maxHeartbeats 4000000 in
theorem en_X0_known_5 (d : Nat) (I : Nat → Int32) (F : Nat → Nat → Int32) (sd : Int64) : pm_run mt (d + 5) 28 [.ref 5] (hX I F sd) = pm_EV (pm_run mt (d + 4)) (some .int) oX0_known (0, [some (.ref 5), none, none, none], [], (hX I F sd)) := rfl
set_option maxRecDepth 100000 in
set_option maxHeartbeats 4000000 in
theorem sp_X0_known_5 (d : Nat) (I : Nat → Int32) (F : Nat → Nat → Int32) (sd : Int64) (h1 : inr (F 6 23) 10 = true) : pm_run mt (d + 5) 28 [.ref 5] (hX I F sd) = some (some (.int (xknown (F 6))), (hX I F sd)) := by
  rw [en_X0_known_5, tr_X0_known_5_0 _ _ _ _ h1]
  have key : ∀ (m k : Nat), k + m = (F 6 22).toNatClampNeg → pm_EV (pm_run mt (d + 4)) (some .int) oX0_known (7, [some (.ref 5), some (.int (xant (F 6))), some (.int (xknS (xant (F 6)) (F 6) k)), some (.int (nI k))], [], hX I F sd) = some (some (.int (xknown (F 6))), hX I F sd) := by
    intro m
    induction m with
    | zero =>
      intro k hk
      have hb := cl_bd (F 6 22)
      rw [tr_X0_known_5_7, if_neg (fun h => by rw [cl_lt (by omega)] at h; omega), xknown, ← hk]
      rfl
    | succ m ih =>
      intro k hk
      have hb := cl_bd (F 6 22)
      have hi := ih (k + 1) (by omega)
      rw [tr_X0_known_5_7, if_pos ((cl_lt (by omega)).mpr (by omega)), nI_p1]
      simp only [bI_0]
      rw [xknS] at hi
      cases c2 : xhas (xant (F 6)) (hcell (F 6) (16 + nI k))
      · rw [if_pos rfl]
        rw [c2, if_neg (by decide)] at hi
        exact hi
      · rw [if_neg (by decide)]
        rw [c2, if_pos rfl] at hi
        exact hi
  exact key _ 0 (Nat.zero_add _)
set_option maxRecDepth 100000 in
set_option maxHeartbeats 4000000 in
theorem tr_X0_astray_5_0 (d : Nat) (I : Nat → Int32) (F : Nat → Nat → Int32) (sd : Int64) (q : Int32) (g1 : inr ((F 6) 23) 10 = true) : pm_EV (pm_run mt (d + 4)) (some .int) oX0_astray (0, [some (.ref 5), some (.int q), none, none, none], [], (hX I F sd)) = pm_EV (pm_run mt (d + 4)) (some .int) oX0_astray (9, [some (.ref 5), some (.int q), some (.int (xant ((F 6)))), some (.int (hcell ((F 6)) (16 + q))), some (.int 0)], [], (hX I F sd)) := by
  refine Eq.trans (b := pm_EV (pm_run mt (d + 4)) (some .int) oX0_astray (2, [some (.ref 5), some (.int q), none, none, none], [.int (xant ((F 6)))], (hX I F sd))) (pm_EV_cl 1 (call := pm_run mt (d + 4)) (d := (1, [some (.ref 5), some (.int q), none, none, none], [.ref 5], (hX I F sd))) (a := 26) (as := [.ref 5]) (hp := (hX I F sd)) (hp2 := (hX I F sd)) (i2 := 2) (ls := [some (.ref 5), some (.int q), none, none, none]) (rest := []) (r := some (.int (xant ((F 6))))) rfl rfl (sp_X0_reach_5 (d + 0) I F sd  g1)) ?_
  refine Eq.trans (b := pm_EV (pm_run mt (d + 4)) (some .int) oX0_astray (6, [some (.ref 5), some (.int q), some (.int (xant ((F 6)))), none, none], [.int (hcell ((F 6)) (16 + q))], (hX I F sd))) (pm_EV_cl 3 (call := pm_run mt (d + 4)) (d := (5, [some (.ref 5), some (.int q), some (.int (xant ((F 6)))), none, none], [.int q, .ref 5], (hX I F sd))) (a := 20) (as := [.ref 5, .int q]) (hp := (hX I F sd)) (hp2 := (hX I F sd)) (i2 := 6) (ls := [some (.ref 5), some (.int q), some (.int (xant ((F 6)))), none, none]) (rest := []) (r := some (.int (hcell ((F 6)) (16 + q)))) rfl rfl (sp_X0_placeOf_5 (d + 2) I F sd q )) ?_
  exact pm_EV_go 3 (d := (9, [some (.ref 5), some (.int q), some (.int (xant ((F 6)))), some (.int (hcell ((F 6)) (16 + q))), some (.int 0)], [], (hX I F sd))) rfl
set_option maxRecDepth 100000 in
set_option maxHeartbeats 4000000 in
theorem tr_X0_astray_5_9 (d : Nat) (I : Nat → Int32) (F : Nat → Nat → Int32) (sd : Int64) (q : Int32) (x2 : Int32) (x3 : Int32) (x4 : Int32) : pm_EV (pm_run mt (d + 4)) (some .int) oX0_astray (9, [some (.ref 5), some (.int q), some (.int x2), some (.int x3), some (.int x4)], [], (hX I F sd)) = (if x4 < 10 then (if (bI (xhas x2 (x3 - x4))) = 0 then (if (bI (xhas x2 (x3 + x4))) = 0 then pm_EV (pm_run mt (d + 4)) (some .int) oX0_astray (9, [some (.ref 5), some (.int q), some (.int x2), some (.int x3), some (.int (x4 + 1))], [], (hX I F sd)) else some (some (.int x4), (hX I F sd))) else some (some (.int x4), (hX I F sd))) else some (some (.int (-9)), (hX I F sd))) := by
  refine Eq.trans (pm_EV_at 2 (d := (11, [some (.ref 5), some (.int q), some (.int x2), some (.int x3), some (.int x4)], [.int 10, .int x4], (hX I F sd))) (x := if x4 < 10 then .inl (12, [some (.ref 5), some (.int q), some (.int x2), some (.int x3), some (.int x4)], [], (hX I F sd)) else .inl (28, [some (.ref 5), some (.int q), some (.int x2), some (.int x3), some (.int x4)], [], (hX I F sd))) rfl rfl) ?_
  refine pm_rc (fun p1 => ?_) (fun p1 => ?_)
  · show pm_EV (pm_run mt (d + 4)) (some .int) oX0_astray (12, [some (.ref 5), some (.int q), some (.int x2), some (.int x3), some (.int x4)], [], (hX I F sd)) = _
    refine Eq.trans (b := pm_EV (pm_run mt (d + 4)) (some .int) oX0_astray (17, [some (.ref 5), some (.int q), some (.int x2), some (.int x3), some (.int x4)], [.int (bI (xhas x2 (x3 - x4)))], (hX I F sd))) (pm_EV_cl 4 (call := pm_run mt (d + 4)) (d := (16, [some (.ref 5), some (.int q), some (.int x2), some (.int x3), some (.int x4)], [.int (x3 - x4), .int x2], (hX I F sd))) (a := 103) (as := [.int x2, .int (x3 - x4)]) (hp := (hX I F sd)) (hp2 := (hX I F sd)) (i2 := 17) (ls := [some (.ref 5), some (.int q), some (.int x2), some (.int x3), some (.int x4)]) (rest := []) (r := some (.int (bI (xhas x2 (x3 - x4))))) rfl rfl (sp_X7_has (d + 2) I F sd x2 (x3 - x4) )) ?_
    refine Eq.trans (pm_EV_at 0 (d := (17, [some (.ref 5), some (.int q), some (.int x2), some (.int x3), some (.int x4)], [.int (bI (xhas x2 (x3 - x4)))], (hX I F sd))) (x := if (bI (xhas x2 (x3 - x4))) = 0 then .inl (18, [some (.ref 5), some (.int q), some (.int x2), some (.int x3), some (.int x4)], [], (hX I F sd)) else .inl (24, [some (.ref 5), some (.int q), some (.int x2), some (.int x3), some (.int x4)], [], (hX I F sd))) rfl rfl) ?_
    refine pm_rc (fun p2 => ?_) (fun p2 => ?_)
    · show pm_EV (pm_run mt (d + 4)) (some .int) oX0_astray (18, [some (.ref 5), some (.int q), some (.int x2), some (.int x3), some (.int x4)], [], (hX I F sd)) = _
      refine Eq.trans (b := pm_EV (pm_run mt (d + 4)) (some .int) oX0_astray (23, [some (.ref 5), some (.int q), some (.int x2), some (.int x3), some (.int x4)], [.int (bI (xhas x2 (x3 + x4)))], (hX I F sd))) (pm_EV_cl 4 (call := pm_run mt (d + 4)) (d := (22, [some (.ref 5), some (.int q), some (.int x2), some (.int x3), some (.int x4)], [.int (x3 + x4), .int x2], (hX I F sd))) (a := 103) (as := [.int x2, .int (x3 + x4)]) (hp := (hX I F sd)) (hp2 := (hX I F sd)) (i2 := 23) (ls := [some (.ref 5), some (.int q), some (.int x2), some (.int x3), some (.int x4)]) (rest := []) (r := some (.int (bI (xhas x2 (x3 + x4))))) rfl rfl (sp_X7_has (d + 2) I F sd x2 (x3 + x4) )) ?_
      refine Eq.trans (pm_EV_at 0 (d := (23, [some (.ref 5), some (.int q), some (.int x2), some (.int x3), some (.int x4)], [.int (bI (xhas x2 (x3 + x4)))], (hX I F sd))) (x := if (bI (xhas x2 (x3 + x4))) = 0 then .inl (26, [some (.ref 5), some (.int q), some (.int x2), some (.int x3), some (.int x4)], [], (hX I F sd)) else .inl (24, [some (.ref 5), some (.int q), some (.int x2), some (.int x3), some (.int x4)], [], (hX I F sd))) rfl rfl) ?_
      refine pm_rc (fun p3 => ?_) (fun p3 => ?_)
      · show pm_EV (pm_run mt (d + 4)) (some .int) oX0_astray (26, [some (.ref 5), some (.int q), some (.int x2), some (.int x3), some (.int x4)], [], (hX I F sd)) = _
        exact pm_EV_go 2 (d := (9, [some (.ref 5), some (.int q), some (.int x2), some (.int x3), some (.int (x4 + 1))], [], (hX I F sd))) rfl
      · show pm_EV (pm_run mt (d + 4)) (some .int) oX0_astray (24, [some (.ref 5), some (.int q), some (.int x2), some (.int x3), some (.int x4)], [], (hX I F sd)) = _
        exact pm_EV_at 1 (d := (25, [some (.ref 5), some (.int q), some (.int x2), some (.int x3), some (.int x4)], [.int x4], (hX I F sd))) rfl rfl
    · show pm_EV (pm_run mt (d + 4)) (some .int) oX0_astray (24, [some (.ref 5), some (.int q), some (.int x2), some (.int x3), some (.int x4)], [], (hX I F sd)) = _
      exact pm_EV_at 1 (d := (25, [some (.ref 5), some (.int q), some (.int x2), some (.int x3), some (.int x4)], [.int x4], (hX I F sd))) rfl rfl
  · show pm_EV (pm_run mt (d + 4)) (some .int) oX0_astray (28, [some (.ref 5), some (.int q), some (.int x2), some (.int x3), some (.int x4)], [], (hX I F sd)) = _
    exact pm_EV_at 1 (d := (29, [some (.ref 5), some (.int q), some (.int x2), some (.int x3), some (.int x4)], [.int (-9)], (hX I F sd))) rfl rfl
set_option maxRecDepth 100000 in
set_option maxHeartbeats 4000000 in
theorem en_X0_astray_5 (d : Nat) (I : Nat → Int32) (F : Nat → Nat → Int32) (sd : Int64) (q : Int32) : pm_run mt (d + 5) 29 [.ref 5, .int q] (hX I F sd) = pm_EV (pm_run mt (d + 4)) (some .int) oX0_astray (0, [some (.ref 5), some (.int q), none, none, none], [], (hX I F sd)) := rfl
set_option maxRecDepth 100000 in
set_option maxHeartbeats 4000000 in
theorem sp_X0_astray_5 (d : Nat) (I : Nat → Int32) (F : Nat → Nat → Int32) (sd : Int64) (q : Int32) (h1 : inr (F 6 23) 10 = true) : pm_run mt (d + 5) 29 [.ref 5, .int q] (hX I F sd) = some (some (.int (xastL (xant (F 6)) (hcell (F 6) (16 + q)) 10 0)), (hX I F sd)) := by
  rw [en_X0_astray_5, tr_X0_astray_5_0 _ _ _ _ _ h1]
  have key : ∀ (m k : Nat), k + m = 10 → pm_EV (pm_run mt (d + 4)) (some .int) oX0_astray (9, [some (.ref 5), some (.int q), some (.int (xant (F 6))), some (.int (hcell (F 6) (16 + q))), some (.int (nI k))], [], hX I F sd) = some (some (.int (xastL (xant (F 6)) (hcell (F 6) (16 + q)) m k)), hX I F sd) := by
    intro m
    induction m with
    | zero =>
      intro k hk
      obtain rfl : k = 10 := by omega
      rw [tr_X0_astray_5_9, if_neg (by decide), xastL]
    | succ m ih =>
      intro k hk
      rw [tr_X0_astray_5_9, if_pos (by rw [show (10 : Int32) = nI 10 from rfl, nI_ltI (by omega) (by decide)]; omega), nI_p1, xastL]
      simp only [bI_0]
      cases c1 : xhas (xant (F 6)) (hcell (F 6) (16 + q) - nI k) <;> cases c2 : xhas (xant (F 6)) (hcell (F 6) (16 + q) + nI k) <;> simp only [Bool.false_eq_true, Bool.true_eq_false, if_true, if_false]
      exact ih _ (by omega)
  exact key 10 0 rfl
end
