/-! THE PURE MACHINE: a step function on indices of instructions, over a heap of numbered cells; fuel-free runs; all of my own -/
abbrev pm_CE : Type := (Nat × vp_A) ⊕ (Nat × List Value)
abbrev pm_HP : Type := List pm_CE
abbrev pm_LS : Type := List (Option Value)
abbrev pm_OP : Type := Nat × Instr × Nat × Nat × Value × List Nat × List (Int32 × Nat)
abbrev pm_R : Type := Option Value × pm_HP
abbrev pm_C : Type := Nat × pm_LS × List Value × pm_HP
abbrev pm_M : Type := MethodName × ByteArray × Nat × Option FieldType × List Nat × List pm_OP × List Nat
abbrev pm_X : Type := pm_C ⊕ Option pm_R
abbrev pm_K : Type := Nat → List Value → pm_HP → Option pm_R
def pm_ld (ls : pm_LS) (k : Nat) : Option Value := match ls[k]? with
  | some (some v) => some v
  | _ => none
def pm_in (i : Int32) (n : Nat) : Bool := decide (¬ (i < 0 ∨ n ≤ i.toNatClampNeg))
def pm_sw (k : Nat → pm_X) (x : Int32) (d : Nat) : List (Int32 × Nat) → pm_X
  | [] => k d
  | q :: r => if x = q.1 then k q.2 else pm_sw k x d r
def pm_bd (o : Option pm_R) (k : Option Value → pm_HP → pm_X) : pm_X := match o with
  | some q => k q.1 q.2
  | none => .inr none
def pm_ldI (i : Nat) (ls : pm_LS) (st : List Value) (hp : pm_HP) (k : Nat) : pm_X := match pm_ld ls k with
  | some (.int x) => .inl (i + 1, ls, .int x :: st, hp)
  | _ => .inr none
def pm_ldA (i : Nat) (ls : pm_LS) (st : List Value) (hp : pm_HP) (k : Nat) : pm_X := match pm_ld ls k with
  | some (.ref x) => .inl (i + 1, ls, .ref x :: st, hp)
  | _ => .inr none
def pm_ldL (i : Nat) (ls : pm_LS) (st : List Value) (hp : pm_HP) (k : Nat) : pm_X := match pm_ld ls k with
  | some (.long x) => .inl (i + 1, ls, .long x :: st, hp)
  | _ => .inr none
def pm_stI (i : Nat) (ls : pm_LS) (st : List Value) (hp : pm_HP) (k : Nat) : pm_X := match st with
  | .int x :: st => .inl (i + 1, ls.set k (some (.int x)), st, hp)
  | _ => .inr none
def pm_stL (i : Nat) (ls : pm_LS) (st : List Value) (hp : pm_HP) (k : Nat) : pm_X := match st with
  | .long x :: st => .inl (i + 1, (ls.set k (some (.long x))).set (k + 1) none, st, hp)
  | _ => .inr none
def pm_cI (i : Nat) (ls : pm_LS) (st : List Value) (hp : pm_HP) (v : Value) : pm_X := match v with
  | .int x => .inl (i + 1, ls, .int x :: st, hp)
  | _ => .inr none
def pm_cL (i : Nat) (ls : pm_LS) (st : List Value) (hp : pm_HP) (v : Value) : pm_X := match v with
  | .long x => .inl (i + 1, ls, .long x :: st, hp)
  | _ => .inr none
def pm_b2 (i : Nat) (ls : pm_LS) (st : List Value) (hp : pm_HP) (f : Int32 → Int32 → Int32) : pm_X := match st with
  | .int y :: .int x :: st => .inl (i + 1, ls, .int (f x y) :: st, hp)
  | _ => .inr none
def pm_d2 (i : Nat) (ls : pm_LS) (st : List Value) (hp : pm_HP) (f : Int32 → Int32 → Int32) : pm_X := match st with
  | .int y :: .int x :: st => if y = 0 then .inr none else .inl (i + 1, ls, .int (f x y) :: st, hp)
  | _ => .inr none
def pm_l2 (i : Nat) (ls : pm_LS) (st : List Value) (hp : pm_HP) (f : Int64 → Int64 → Int64) : pm_X := match st with
  | .long y :: .long x :: st => .inl (i + 1, ls, .long (f x y) :: st, hp)
  | _ => .inr none
def pm_e2 (i : Nat) (ls : pm_LS) (st : List Value) (hp : pm_HP) (f : Int64 → Int64 → Int64) : pm_X := match st with
  | .long y :: .long x :: st => if y = 0 then .inr none else .inl (i + 1, ls, .long (f x y) :: st, hp)
  | _ => .inr none
def pm_i1 (i : Nat) (ls : pm_LS) (st : List Value) (hp : pm_HP) (a : Nat) (f : Int32 → pm_X → pm_X → pm_X) : pm_X := match st with
  | .int x :: st => f x (.inl (a, ls, st, hp)) (.inl (i + 1, ls, st, hp))
  | _ => .inr none
def pm_i2 (i : Nat) (ls : pm_LS) (st : List Value) (hp : pm_HP) (a : Nat) (f : Int32 → Int32 → pm_X → pm_X → pm_X) : pm_X := match st with
  | .int y :: .int x :: st => f x y (.inl (a, ls, st, hp)) (.inl (i + 1, ls, st, hp))
  | _ => .inr none
def pm_gf (i : Nat) (ls : pm_LS) (st : List Value) (hp : pm_HP) (a : Nat) (aux : List Nat) : pm_X := match st with
  | .ref o :: st => (match hp[o]? with
    | some (.inr q) => if q.1 = aux.getD 0 0 then (match q.2[a]? with
      | some v => .inl (i + 1, ls, v :: st, hp)
      | none => .inr none) else .inr none
    | _ => .inr none)
  | _ => .inr none
def pm_pf (i : Nat) (ls : pm_LS) (st : List Value) (hp : pm_HP) (a : Nat) (v : Value) (aux : List Nat) : pm_X := match st with
  | .int x :: .ref o :: st => (match v with
    | .int _ => (match hp[o]? with
      | some (.inr q) => if q.1 = aux.getD 0 0 ∧ a < q.2.length then .inl (i + 1, ls, st, hp.set o (.inr (q.1, q.2.set a (.int x)))) else .inr none
      | _ => .inr none)
    | _ => .inr none)
  | .long x :: .ref o :: st => (match v with
    | .long _ => (match hp[o]? with
      | some (.inr q) => if q.1 = aux.getD 0 0 ∧ a < q.2.length then .inl (i + 1, ls, st, hp.set o (.inr (q.1, q.2.set a (.long x)))) else .inr none
      | _ => .inr none)
    | _ => .inr none)
  | _ => .inr none
def pm_al (i : Nat) (ls : pm_LS) (st : List Value) (hp : pm_HP) (t : Nat) : pm_X := match st with
  | .int j :: .ref o :: st => (match hp[o]? with
    | some (.inl (t0, n, .inl f)) => if t0 = t ∧ pm_in j n = true then .inl (i + 1, ls, .int (f j.toNatClampNeg) :: st, hp) else .inr none
    | _ => .inr none)
  | _ => .inr none
def pm_as (i : Nat) (ls : pm_LS) (st : List Value) (hp : pm_HP) (t : Nat) (g : Int32 → Int32) : pm_X := match st with
  | .int x :: .int j :: .ref o :: st => (match hp[o]? with
    | some (.inl (t0, n, .inl f)) => if t0 = t ∧ pm_in j n = true then .inl (i + 1, ls, st, hp.set o (.inl (t, n, .inl (upd f j.toNatClampNeg (g x))))) else .inr none
    | _ => .inr none)
  | _ => .inr none
def pm_len (i : Nat) (ls : pm_LS) (st : List Value) (hp : pm_HP) : pm_X := match st with
  | .ref o :: st => (match hp[o]? with
    | some (.inl (t0, n, _)) => if t0 < 2 then .inl (i + 1, ls, .int (Int32.ofNat n) :: st, hp) else .inr none
    | _ => .inr none)
  | _ => .inr none
def pm_cp (i : Nat) (ls : pm_LS) (st : List Value) (hp : pm_HP) : pm_X := match st with
  | .int n :: .int dp :: .ref d :: .int sp :: .ref o :: st => (match hp[o]? with
    | some (.inl (0, n0, .inl f)) => (match hp[d]? with
      | some (.inl (0, n1, .inl g)) => if ¬ sp < 0 ∧ ¬ dp < 0 ∧ ¬ n < 0 ∧ sp.toNatClampNeg + n.toNatClampNeg ≤ n0 ∧ dp.toNatClampNeg + n.toNatClampNeg ≤ n1 ∧ st.length ≤ 4 then
          .inl (i + 1, ls, st, hp.set d (.inl (0, n1, .inl (va_cpy f g sp.toNatClampNeg dp.toNatClampNeg n.toNatClampNeg)))) else .inr none
      | _ => .inr none)
    | _ => .inr none)
  | _ => .inr none
def pm_iv (call : pm_K) (i : Nat) (ls : pm_LS) (st : List Value) (hp : pm_HP) (a : Nat) (aux : List Nat) : pm_X := match st.drop (aux.getD 0 0) with
  | .ref o :: rest => (match hp[o]? with
    | some (.inr q) => if q.1 = aux.getD 1 0 ∧ rest.length ≤ 4 then pm_bd (call a (.ref o :: (st.take (aux.getD 0 0)).reverse) hp) (fun r hp2 => .inl (i + 1, ls, r.toList ++ rest, hp2)) else .inr none
    | _ => .inr none)
  | _ => .inr none
def pm_is (call : pm_K) (i : Nat) (ls : pm_LS) (st : List Value) (hp : pm_HP) (a : Nat) (aux : List Nat) : pm_X :=
  if aux.getD 0 0 ≤ st.length ∧ (st.drop (aux.getD 0 0)).length ≤ 4 then pm_bd (call a ((st.take (aux.getD 0 0)).reverse) hp) (fun r hp2 => .inl (i + 1, ls, r.toList ++ st.drop (aux.getD 0 0), hp2)) else .inr none
def pm_mx (i : Nat) (ls : pm_LS) (st : List Value) (hp : pm_HP) (k : Nat) : pm_X := match st with
  | .int y :: .int x :: st => if st.length ≤ 4 then (if k = 1 then .inl (i + 1, ls, .int (if x < y then y else x) :: st, hp) else if k = 2 then .inl (i + 1, ls, .int (if y < x then y else x) :: st, hp) else .inr none) else .inr none
  | _ => .inr none
def pm_ab (i : Nat) (ls : pm_LS) (st : List Value) (hp : pm_HP) : pm_X := match st with
  | .int x :: st => if st.length ≤ 4 then .inl (i + 1, ls, .int (if 0 ≤ x then x else 0 - x) :: st, hp) else .inr none
  | _ => .inr none
def pm_rz (ret : Option FieldType) (x : Int32) : Bool := match ret with
  | some .int => true
  | some .boolean => decide (narrow .boolean (.int x) = .int x)
  | _ => false
def pm_ng (i : Nat) (ls : pm_LS) (st : List Value) (hp : pm_HP) : pm_X := match st with
  | .int x :: st => .inl (i + 1, ls, .int (-x) :: st, hp)
  | _ => .inr none
def pm_lu (i : Nat) (ls : pm_LS) (st : List Value) (hp : pm_HP) : pm_X := match st with
  | .int y :: .long x :: st => .inl (i + 1, ls, .long (x.toUInt64 >>> (y.toInt64.toUInt64 &&& Int64.toUInt64 63)).toInt64 :: st, hp)
  | _ => .inr none
def pm_il (i : Nat) (ls : pm_LS) (st : List Value) (hp : pm_HP) : pm_X := match st with
  | .int x :: st => .inl (i + 1, ls, .long x.toInt64 :: st, hp)
  | _ => .inr none
def pm_li (i : Nat) (ls : pm_LS) (st : List Value) (hp : pm_HP) : pm_X := match st with
  | .long x :: st => .inl (i + 1, ls, .int x.toInt32 :: st, hp)
  | _ => .inr none
def pm_lc (i : Nat) (ls : pm_LS) (st : List Value) (hp : pm_HP) : pm_X := match st with
  | .long y :: .long x :: st => .inl (i + 1, ls, .int (lg_cmp x y) :: st, hp)
  | _ => .inr none
def pm_ii (i : Nat) (ls : pm_LS) (st : List Value) (hp : pm_HP) (k : Nat) (v : Value) : pm_X := match pm_ld ls k with
  | some (.int x) => (match v with
    | .int y => .inl (i + 1, ls.set k (some (.int (x + y))), st, hp)
    | _ => .inr none)
  | _ => .inr none
def pm_ts (ls : pm_LS) (st : List Value) (hp : pm_HP) (a : Nat) (sw : List (Int32 × Nat)) : pm_X := match st with
  | .int x :: st => pm_sw (fun t => .inl (t, ls, st, hp)) x a sw
  | _ => .inr none
def pm_du (i : Nat) (ls : pm_LS) (st : List Value) (hp : pm_HP) : pm_X := match st with
  | .int x :: st => .inl (i + 1, ls, .int x :: .int x :: st, hp)
  | .ref x :: st => .inl (i + 1, ls, .ref x :: .ref x :: st, hp)
  | _ => .inr none
def pm_dd (i : Nat) (ls : pm_LS) (st : List Value) (hp : pm_HP) : pm_X := match st with
  | .int x :: .ref y :: st => .inl (i + 1, ls, .int x :: .ref y :: .int x :: .ref y :: st, hp)
  | .long x :: st => .inl (i + 1, ls, .long x :: .long x :: st, hp)
  | _ => .inr none
def pm_po (i : Nat) (ls : pm_LS) (st : List Value) (hp : pm_HP) : pm_X := match st with
  | .int _ :: st => .inl (i + 1, ls, st, hp)
  | _ => .inr none
def pm_ri (ret : Option FieldType) (st : List Value) (hp : pm_HP) : pm_X := match st with
  | [.int x] => if pm_rz ret x = true then .inr (some (some (.int x), hp)) else .inr none
  | _ => .inr none
def pm_rl (ret : Option FieldType) (st : List Value) (hp : pm_HP) : pm_X := match st with
  | [.long x] => if ret = some .long then .inr (some (some (.long x), hp)) else .inr none
  | _ => .inr none
def pm_rv (ret : Option FieldType) (st : List Value) (hp : pm_HP) : pm_X := match st with
  | [] => if ret = none then .inr (some (none, hp)) else .inr none
  | _ => .inr none
def pm_act (call : pm_K) (ret : Option FieldType) (i : Nat) (ls : pm_LS) (st : List Value) (hp : pm_HP) (op : pm_OP) : pm_X := match op with
    | (_, ins, _, a, v, aux, sw) => match ins with
      | .iload k => pm_ldI i ls st hp k
      | .iload_n k => pm_ldI i ls st hp k
      | .aload k => pm_ldA i ls st hp k
      | .aload_n k => pm_ldA i ls st hp k
      | .lload k => pm_ldL i ls st hp k
      | .lload_n k => pm_ldL i ls st hp k
      | .istore k => pm_stI i ls st hp k
      | .istore_n k => pm_stI i ls st hp k
      | .lstore k => pm_stL i ls st hp k
      | .lstore_n k => pm_stL i ls st hp k
      | .iconst _ => pm_cI i ls st hp v
      | .bipush _ => pm_cI i ls st hp v
      | .sipush _ => pm_cI i ls st hp v
      | .ldc_w _ => pm_cI i ls st hp v
      | .lconst _ => pm_cL i ls st hp v
      | .ldc2_w _ => pm_cL i ls st hp v
      | .iadd => pm_b2 i ls st hp (fun x y => x + y)
      | .isub => pm_b2 i ls st hp (fun x y => x - y)
      | .imul => pm_b2 i ls st hp (fun x y => x * y)
      | .iand => pm_b2 i ls st hp (fun x y => x &&& y)
      | .ior => pm_b2 i ls st hp (fun x y => x ||| y)
      | .ishl => pm_b2 i ls st hp (fun x y => x <<< (y &&& 31))
      | .ishr => pm_b2 i ls st hp (fun x y => x >>> (y &&& 31))
      | .iushr => pm_b2 i ls st hp (fun x y => (x.toUInt32 >>> (y.toUInt32 &&& Int32.toUInt32 31)).toInt32)
      | .idiv => pm_d2 i ls st hp (fun x y => x / y)
      | .irem => pm_d2 i ls st hp (fun x y => x - x / y * y)
      | .ineg => pm_ng i ls st hp
      | .ladd => pm_l2 i ls st hp (fun x y => x + y)
      | .lsub => pm_l2 i ls st hp (fun x y => x - y)
      | .lmul => pm_l2 i ls st hp (fun x y => x * y)
      | .ldiv => pm_e2 i ls st hp (fun x y => x / y)
      | .lrem => pm_e2 i ls st hp (fun x y => x - x / y * y)
      | .lushr => pm_lu i ls st hp
      | .i2l => pm_il i ls st hp
      | .l2i => pm_li i ls st hp
      | .lcmp => pm_lc i ls st hp
      | .goto _ => .inl (a, ls, st, hp)
      | .ifCond .eq _ => pm_i1 i ls st hp a (fun x t f => if x = 0 then t else f)
      | .ifCond .ne _ => pm_i1 i ls st hp a (fun x t f => if x = 0 then f else t)
      | .ifCond .lt _ => pm_i1 i ls st hp a (fun x t f => if x < 0 then t else f)
      | .ifCond .ge _ => pm_i1 i ls st hp a (fun x t f => if x < 0 then f else t)
      | .ifCond .gt _ => pm_i1 i ls st hp a (fun x t f => if 0 < x then t else f)
      | .ifCond .le _ => pm_i1 i ls st hp a (fun x t f => if 0 < x then f else t)
      | .if_icmp .eq _ => pm_i2 i ls st hp a (fun x y t f => if x = y then t else f)
      | .if_icmp .ne _ => pm_i2 i ls st hp a (fun x y t f => if x = y then f else t)
      | .if_icmp .lt _ => pm_i2 i ls st hp a (fun x y t f => if x < y then t else f)
      | .if_icmp .ge _ => pm_i2 i ls st hp a (fun x y t f => if x < y then f else t)
      | .if_icmp .gt _ => pm_i2 i ls st hp a (fun x y t f => if y < x then t else f)
      | .if_icmp .le _ => pm_i2 i ls st hp a (fun x y t f => if y < x then f else t)
      | .iinc k _ => pm_ii i ls st hp k v
      | .tableswitch _ _ _ _ => pm_ts ls st hp a sw
      | .lookupswitch _ _ => pm_ts ls st hp a sw
      | .dup => pm_du i ls st hp
      | .dup2 => pm_dd i ls st hp
      | .pop => pm_po i ls st hp
      | .getfield _ => pm_gf i ls st hp a aux
      | .putfield _ => pm_pf i ls st hp a v aux
      | .iaload => pm_al i ls st hp 0
      | .baload => pm_al i ls st hp 1
      | .iastore => pm_as i ls st hp 0 (fun x => x)
      | .bastore => pm_as i ls st hp 1 (fun x => vp_nar .boolean x)
      | .arraylength => pm_len i ls st hp
      | .invokevirtual _ => pm_iv call i ls st hp a aux
      | .invokestatic _ => (match v with
        | .null => pm_cp i ls st hp
        | .ref k => pm_mx i ls st hp k
        | .float _ => pm_ab i ls st hp
        | _ => pm_is call i ls st hp a aux)
      | .ireturn => pm_ri ret st hp
      | .lreturn => pm_rl ret st hp
      | .return_ => pm_rv ret st hp
      | _ => .inr none
def pm_step (call : pm_K) (ret : Option FieldType) (ops : List pm_OP) (c : pm_C) : pm_X := match ops[c.1]? with
  | none => .inr none
  | some op => pm_act call ret c.1 c.2.1 c.2.2.1 c.2.2.2 op
theorem pm_step_some {call : pm_K} {ret : Option FieldType} {ops : List pm_OP} {i : Nat} {ls : pm_LS} {st : List Value} {hp : pm_HP} {op : pm_OP} (h : ops[i]? = some op) : pm_step call ret ops (i, ls, st, hp) = pm_act call ret i ls st hp op := by
  unfold pm_step
  rw [show (i, ls, st, hp).1 = i from rfl, h]
theorem pm_step_none {call : pm_K} {ret : Option FieldType} {ops : List pm_OP} {i : Nat} {ls : pm_LS} {st : List Value} {hp : pm_HP} (h : ops[i]? = none) : pm_step call ret ops (i, ls, st, hp) = .inr none := by
  unfold pm_step
  rw [show (i, ls, st, hp).1 = i from rfl, h]
def pm_ev (call : pm_K) (ret : Option FieldType) (ops : List pm_OP) : Nat → pm_C → Option pm_R
  | 0, _ => none
  | n + 1, c => match pm_step call ret ops c with
    | .inl c2 => pm_ev call ret ops n c2
    | .inr r => r
theorem pm_ev_up {call : pm_K} {ret : Option FieldType} {ops : List pm_OP} : ∀ (n : Nat) (c : pm_C) (r : pm_R), pm_ev call ret ops n c = some r → pm_ev call ret ops (n + 1) c = some r
  | 0, _, _, h => by cases h
  | n + 1, c, r, h => by
    rw [pm_ev] at h ⊢
    cases hs : pm_step call ret ops c with
    | inl c2 => rw [hs] at h; exact pm_ev_up n c2 r h
    | inr x => rw [hs] at h; exact h
theorem pm_ev_le {call : pm_K} {ret : Option FieldType} {ops : List pm_OP} {n : Nat} {c : pm_C} {r : pm_R} (h : pm_ev call ret ops n c = some r) : ∀ k, pm_ev call ret ops (n + k) c = some r
  | 0 => h
  | k + 1 => pm_ev_up _ _ _ (pm_ev_le h k)
theorem pm_ev_one {call : pm_K} {ret : Option FieldType} {ops : List pm_OP} {n k : Nat} {c : pm_C} {r q : pm_R} (h : pm_ev call ret ops n c = some r) (h2 : pm_ev call ret ops k c = some q) : r = q := by
  have a := pm_ev_le h k
  have b := pm_ev_le h2 n
  rw [Nat.add_comm] at b
  rw [a] at b
  exact Option.some.inj b
noncomputable def pm_EV (call : pm_K) (ret : Option FieldType) (ops : List pm_OP) (c : pm_C) : Option pm_R :=
  @dite (Option pm_R) (∃ n, (pm_ev call ret ops n c).isSome = true) (Classical.propDecidable _) (fun h => pm_ev call ret ops h.choose c) (fun _ => none)
theorem pm_EV_of {call : pm_K} {ret : Option FieldType} {ops : List pm_OP} {c : pm_C} {n : Nat} {r : pm_R} (h : pm_ev call ret ops n c = some r) : pm_EV call ret ops c = some r := by
  have hx : ∃ n, (pm_ev call ret ops n c).isSome = true := ⟨n, by rw [h]; rfl⟩
  unfold pm_EV
  rw [dif_pos hx]
  have h1 := hx.choose_spec
  cases hq : pm_ev call ret ops hx.choose c with
  | none => rw [hq] at h1; cases h1
  | some q => rw [pm_ev_one hq h]
theorem pm_EV_to {call : pm_K} {ret : Option FieldType} {ops : List pm_OP} {c : pm_C} {r : pm_R} (h : pm_EV call ret ops c = some r) : ∃ n, pm_ev call ret ops n c = some r := by
  unfold pm_EV at h
  by_cases hx : ∃ n, (pm_ev call ret ops n c).isSome = true
  · rw [dif_pos hx] at h
    exact ⟨_, h⟩
  · rw [dif_neg hx] at h
    cases h
noncomputable def pm_res (call : pm_K) (ret : Option FieldType) (ops : List pm_OP) (x : pm_X) : Option pm_R := match x with
  | .inl c => pm_EV call ret ops c
  | .inr r => r
theorem pm_EV_eq (call : pm_K) (ret : Option FieldType) (ops : List pm_OP) (c : pm_C) : pm_EV call ret ops c = pm_res call ret ops (pm_step call ret ops c) := by
  apply Option.ext
  intro r
  constructor
  · intro h
    obtain ⟨n, hn⟩ := pm_EV_to h
    cases n with
    | zero => cases hn
    | succ n =>
      rw [pm_ev] at hn
      cases hs : pm_step call ret ops c with
      | inl c2 => rw [hs] at hn; exact pm_EV_of hn
      | inr x => rw [hs] at hn; exact hn
  · intro h
    cases hs : pm_step call ret ops c with
    | inl c2 =>
      rw [hs] at h
      obtain ⟨n, hn⟩ := pm_EV_to (show pm_EV call ret ops c2 = some r from h)
      exact pm_EV_of (n := n + 1) (by rw [pm_ev, hs]; exact hn)
    | inr x =>
      rw [hs] at h
      exact pm_EV_of (n := 1) (by rw [pm_ev, hs]; exact h)
def pm_go (call : pm_K) (ret : Option FieldType) (ops : List pm_OP) : Nat → pm_C → Option pm_C
  | 0, c => some c
  | n + 1, c => match pm_step call ret ops c with
    | .inl c2 => pm_go call ret ops n c2
    | .inr _ => none
theorem pm_EV_go {call : pm_K} {ret : Option FieldType} {ops : List pm_OP} : ∀ (n : Nat) {c d : pm_C}, pm_go call ret ops n c = some d → pm_EV call ret ops c = pm_EV call ret ops d
  | 0, c, d, h => by cases h; rfl
  | n + 1, c, d, h => by
    rw [pm_go] at h
    rw [pm_EV_eq]
    cases hs : pm_step call ret ops c with
    | inl c2 => rw [hs] at h; exact pm_EV_go n h
    | inr x => rw [hs] at h; cases h
theorem pm_res_if {call : pm_K} {ret : Option FieldType} {ops : List pm_OP} {q : Prop} {dq : Decidable q} {a b : pm_X} : pm_res call ret ops (@ite _ q dq a b) = @ite _ q dq (pm_res call ret ops a) (pm_res call ret ops b) := by
  cases dq <;> rfl
/-- k plain steps, then one whose outcome is x -/
theorem pm_EV_at {call : pm_K} {ret : Option FieldType} {ops : List pm_OP} (n : Nat) {c d : pm_C} {x : pm_X} (h : pm_go call ret ops n c = some d) (h2 : pm_step call ret ops d = x) : pm_EV call ret ops c = pm_res call ret ops x := by
  rw [pm_EV_go n h, pm_EV_eq, h2]
theorem pm_EV_if {call : pm_K} {ret : Option FieldType} {ops : List pm_OP} (n : Nat) {c d c1 c2 : pm_C} {q : Prop} {dq : Decidable q} (h : pm_go call ret ops n c = some d) (h2 : pm_step call ret ops d = @ite _ q dq (.inl c1) (.inl c2)) : pm_EV call ret ops c = @ite _ q dq (pm_EV call ret ops c1) (pm_EV call ret ops c2) := by
  rw [pm_EV_at n h h2, pm_res_if]
  rfl
theorem pm_EV_gd {call : pm_K} {ret : Option FieldType} {ops : List pm_OP} (n : Nat) {c d c1 : pm_C} {q : Prop} {dq : Decidable q} (h : pm_go call ret ops n c = some d) (h2 : pm_step call ret ops d = @ite _ q dq (.inl c1) (.inr none)) (hq : q) : pm_EV call ret ops c = pm_EV call ret ops c1 := by
  rw [pm_EV_at n h h2, if_pos hq]
  rfl
theorem pm_EV_nz {call : pm_K} {ret : Option FieldType} {ops : List pm_OP} (n : Nat) {c d c1 : pm_C} {q : Prop} {dq : Decidable q} (h : pm_go call ret ops n c = some d) (h2 : pm_step call ret ops d = @ite _ q dq (.inr none) (.inl c1)) (hq : ¬ q) : pm_EV call ret ops c = pm_EV call ret ops c1 := by
  rw [pm_EV_at n h h2, if_neg hq]
  rfl
theorem pm_EV_call {call : pm_K} {ret : Option FieldType} {ops : List pm_OP} (n : Nat) {c d : pm_C} {a : Nat} {as : List Value} {hp : pm_HP} {k : Option Value → pm_HP → pm_X} {q : pm_R} (h : pm_go call ret ops n c = some d) (h2 : pm_step call ret ops d = pm_bd (call a as hp) k) (hq : call a as hp = some q) : pm_EV call ret ops c = pm_res call ret ops (k q.1 q.2) := by
  rw [pm_EV_at n h h2, hq]
  rfl
def pm_ent : List Value → pm_LS
  | [] => []
  | .long x :: r => some (.long x) :: none :: pm_ent r
  | v :: r => some v :: pm_ent r
def pm_aok (L : List Nat) : Nat → List Value → Bool
  | _, [] => true
  | i, .int _ :: r => pm_aok L (i + 1) r
  | i, .ref _ :: r => pm_aok L (i + 1) r
  | i, .long _ :: r => L.contains i && pm_aok L (i + 2) r
  | _, _ => false
noncomputable def pm_run (mt : List pm_M) : Nat → pm_K
  | 0 => fun _ _ _ => none
  | d + 1 => fun k as hp => match mt[k]? with
    | none => none
    | some M => if pm_aok M.2.2.2.2.1 0 as = true ∧ (pm_ent as).length ≤ M.2.2.1 then
        pm_EV (pm_run mt d) M.2.2.2.1 M.2.2.2.2.2.1 (0, pm_ent as ++ List.replicate (M.2.2.1 - (pm_ent as).length) none, [], hp) else none
