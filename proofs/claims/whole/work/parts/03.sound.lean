/-! THE PURE MACHINE IS RIGHT: what it answers, the machine answers -/
def pm_pc (ops : List pm_OP) (i : Nat) : Nat := match ops[i]? with
  | some op => op.1
  | none => 0
def pm_vm (ad : Nat → Nat) (v : Value) : Value := match v with
  | .ref i => .ref (ad i)
  | v => v
theorem pm_vm_cat (ad : Nat → Nat) (v : Value) : (pm_vm ad v).category = v.category := by cases v <;> rfl
def pm_ce (ad : Nat → Nat) (cA : Nat → ClassId) (x : pm_CE) : va_E := match x with
  | .inl a => .inl (cA a.1, a.2)
  | .inr o => .inr (o.1, o.2.map (pm_vm ad))
def pm_ws (ad : Nat → Nat) (cA : Nat → ClassId) (hp : pm_HP) : va_W := hp.mapIdx (fun i x => (ad i, pm_ce ad cA x))
theorem pm_ws_at {ad : Nat → Nat} {cA : Nat → ClassId} {hp : pm_HP} {i : Nat} {x : pm_CE} (h : hp[i]? = some x) : (pm_ws ad cA hp)[i]? = some (ad i, pm_ce ad cA x) := by
  rw [pm_ws, List.getElem?_mapIdx, h]
  rfl
theorem pm_ws_set {ad : Nat → Nat} {cA : Nat → ClassId} {hp : pm_HP} {i : Nat} {x : pm_CE} : (pm_ws ad cA hp).set i (ad i, pm_ce ad cA x) = pm_ws ad cA (hp.set i x) := by
  apply List.ext_getElem?
  intro j
  rw [pm_ws, pm_ws, List.getElem?_mapIdx]
  by_cases hj : i = j
  · subst hj
    rw [List.getElem?_set_self', List.getElem?_set_self', List.getElem?_mapIdx]
    cases hp[i]? <;> rfl
  · rw [List.getElem?_set_ne hj, List.getElem?_set_ne hj, List.getElem?_mapIdx]
def pm_A (ad : Nat → Nat) (N sz : Nat) : Nat → Prop := fun q => (∃ i, i < N ∧ q = ad i) ∨ sz ≤ q
theorem pm_D {ad : Nat → Nat} {cA : Nat → ClassId} {hp : pm_HP} {N : Nat} (sz : Nat) (hN : hp.length = N) (hinj : ∀ i j, i < N → j < N → ad i = ad j → i = j) : va_D (pm_A ad N sz) (pm_ws ad cA hp) := by
  have key : ∀ (k : Nat) (q : Nat × va_E), (pm_ws ad cA hp)[k]? = some q → k < N ∧ q.1 = ad k := by
    intro k q hk
    rw [pm_ws, List.getElem?_mapIdx] at hk
    cases hx : hp[k]? with
    | none => rw [hx] at hk; cases hk
    | some x =>
      rw [hx] at hk
      cases hk
      exact ⟨hN ▸ (List.getElem?_eq_some_iff.mp hx).1, rfl⟩
  refine ⟨fun i j x y hi hj hxy => ?_, fun k q hk => ?_⟩
  · obtain ⟨a1, a2⟩ := key i x hi
    obtain ⟨b1, b2⟩ := key j y hj
    exact hinj i j a1 b1 (by rw [← a2, ← b2, hxy])
  · obtain ⟨a1, a2⟩ := key k q hk
    exact Or.inl ⟨k, a1, a2⟩
def pm_tys (cA : Nat → ClassId) : List (ClassId × FieldType) := [(cA 0, .int), (cA 1, .boolean)]
abbrev pm_N : Type := String × Nat × MethodName × String
def pm_NW (nst : List pm_N) (U : State) : Prop := ∀ q ∈ nst, va_Nw (.methodLinkNest q.1 q.2.1 q.2.2.1 q.2.2.2) U
/-- locals -/
def pm_LR (ls : Array Slot) (nL : Nat) (L : List Nat) (ad : Nat → Nat) (pl : pm_LS) : Prop := ls.size = nL ∧ lv_wf ls ∧ pl.length = nL ∧ ∀ (j : Nat) (v : Value), pl[j]? = some (some v) → ls[j]? = some (.val (pm_vm ad v)) ∧ (v.category = 2 → j ∈ L)
theorem pm_LR.ld {ls : Array Slot} {nL : Nat} {L : List Nat} {ad : Nat → Nat} {pl : pm_LS} (h : pm_LR ls nL L ad pl) {k : Nat} {v : Value} (hk : pm_ld pl k = some v) : ls[k]? = some (.val (pm_vm ad v)) := by
  have : pl[k]? = some (some v) := by
    unfold pm_ld at hk
    split at hk
    · rename_i w hw; cases hk; exact hw
    · cases hk
  exact (h.2.2.2 k v this).1
def pm_lv (ad : Nat → Nat) (pl : pm_LS) : List (Nat × Value) := (List.range pl.length).filterMap (fun j => match pl[j]? with
  | some (some v) => some (j, pm_vm ad v)
  | _ => none)
theorem pm_lv_mem {ad : Nat → Nat} {pl : pm_LS} {j : Nat} {v : Value} (h : pl[j]? = some (some v)) : (j, pm_vm ad v) ∈ pm_lv ad pl := by
  refine List.mem_filterMap.mpr ⟨j, List.mem_range.mpr (List.getElem?_eq_some_iff.mp h).1, ?_⟩
  rw [h]
theorem pm_lv_of {ad : Nat → Nat} {pl : pm_LS} {q : Nat × Value} (h : q ∈ pm_lv ad pl) : ∃ v, pl[q.1]? = some (some v) ∧ q.2 = pm_vm ad v := by
  obtain ⟨j, -, hj⟩ := List.mem_filterMap.mp h
  split at hj
  · rename_i v hv; cases hj; exact ⟨v, hv, rfl⟩
  · cases hj
theorem pm_LR.has {ls : Array Slot} {nL : Nat} {L : List Nat} {ad : Nat → Nat} {pl : pm_LS} (h : pm_LR ls nL L ad pl) : lv_has ls nL (pm_lv ad pl) := by
  refine ⟨h.1, h.2.1, fun q hq => ?_⟩
  obtain ⟨v, h1, h2⟩ := pm_lv_of hq
  rw [h2]
  exact (h.2.2.2 _ v h1).1
def pm_oks (nL : Nat) (L : List Nat) (k : Nat) : Bool := decide (k < nL) && L.all (fun j => decide (k ≠ j) && decide (k ≠ j + 1))
def pm_okl (nL : Nat) (L : List Nat) (k : Nat) : Bool := decide (k + 1 < nL) && (L.contains k && L.all (fun j => decide (k ≠ j + 1)))
theorem pm_LR.st1 {ls ls2 : Array Slot} {nL : Nat} {L : List Nat} {ad : Nat → Nat} {pl : pm_LS} {k : Nat} {v : Value} (h : pm_LR ls nL L ad pl) (hk : pm_oks nL L k = true) (hv : v.category = 1)
    (h2 : lv_has ls2 nL ((k, pm_vm ad v) :: (pm_lv ad pl).filter (fun q => !(q.1 == k) && !(q.1 + 1 == k && q.2.category == 2)))) : pm_LR ls2 nL L ad (pl.set k (some v)) := by
  unfold pm_oks at hk
  simp only [Bool.and_eq_true, decide_eq_true_eq, List.all_eq_true] at hk
  refine ⟨h2.1, h2.2.1, by rw [List.length_set]; exact h.2.2.1, fun j w hj => ?_⟩
  by_cases hjk : k = j
  · subst hjk
    rw [List.getElem?_set_self (by rw [h.2.2.1]; exact hk.1)] at hj
    cases hj
    exact ⟨h2.2.2 (k, pm_vm ad v) List.mem_cons_self, fun hc => by omega⟩
  · rw [List.getElem?_set_ne hjk] at hj
    refine ⟨h2.2.2 (j, pm_vm ad w) (List.mem_cons_of_mem _ (List.mem_filter.mpr ⟨pm_lv_mem hj, ?_⟩)), (h.2.2.2 j w hj).2⟩
    have h3 := (h.2.2.2 j w hj).2
    simp only [Bool.and_eq_true, Bool.not_eq_true', beq_eq_false_iff_ne, ne_eq, Bool.and_eq_false_iff, pm_vm_cat]
    refine ⟨fun z => hjk z.symm, ?_⟩
    by_cases hc : w.category = 2
    · exact Or.inl (fun z => (hk.2 j (h3 hc)).2 z.symm)
    · exact Or.inr hc
theorem pm_LR.st2 {ls ls2 : Array Slot} {nL : Nat} {L : List Nat} {ad : Nat → Nat} {pl : pm_LS} {k : Nat} {v : Value} (h : pm_LR ls nL L ad pl) (hk : pm_okl nL L k = true)
    (h2 : lv_has ls2 nL ((k, pm_vm ad v) :: (pm_lv ad pl).filter (fun q => !(q.1 == k) && (!(q.1 == k + 1) && !(q.1 + 1 == k && q.2.category == 2))))) : pm_LR ls2 nL L ad ((pl.set k (some v)).set (k + 1) none) := by
  unfold pm_okl at hk
  simp only [Bool.and_eq_true, decide_eq_true_eq, List.all_eq_true, List.contains_iff_mem] at hk
  refine ⟨h2.1, h2.2.1, by rw [List.length_set, List.length_set]; exact h.2.2.1, fun j w hj => ?_⟩
  by_cases hj1 : k + 1 = j
  · subst hj1
    rw [List.getElem?_set_self (by rw [List.length_set, h.2.2.1]; exact hk.1)] at hj
    cases hj
  · rw [List.getElem?_set_ne hj1] at hj
    by_cases hjk : k = j
    · subst hjk
      rw [List.getElem?_set_self (by rw [h.2.2.1]; omega)] at hj
      cases hj
      exact ⟨h2.2.2 (k, pm_vm ad v) List.mem_cons_self, fun _ => hk.2.1⟩
    · rw [List.getElem?_set_ne hjk] at hj
      refine ⟨h2.2.2 (j, pm_vm ad w) (List.mem_cons_of_mem _ (List.mem_filter.mpr ⟨pm_lv_mem hj, ?_⟩)), (h.2.2.2 j w hj).2⟩
      have h3 := (h.2.2.2 j w hj).2
      simp only [Bool.and_eq_true, Bool.not_eq_true', beq_eq_false_iff_ne, ne_eq, Bool.and_eq_false_iff, pm_vm_cat]
      refine ⟨fun z => hjk z.symm, fun z => hj1 z.symm, ?_⟩
      by_cases hc : w.category = 2
      · exact Or.inl (fun z => hk.2.2 j (h3 hc) z.symm)
      · exact Or.inr hc
/-- entry -/
theorem pm_ent_args {ad : Nat → Nat} {L : List Nat} : ∀ (as : List Value) (i : Nat), pm_aok L i as = true →
    (lg_sl (as.map (pm_vm ad))).length = (pm_ent as).length ∧ ∀ (j : Nat) (v : Value), (pm_ent as)[j]? = some (some v) → (i + j, pm_vm ad v) ∈ lv_args i (as.map (pm_vm ad)) ∧ (v.category = 2 → i + j ∈ L)
  | [], i, _ => ⟨rfl, fun j v h => by simp [pm_ent] at h⟩
  | .int x :: r, i, h => by
    obtain ⟨h1, h2⟩ := pm_ent_args (ad := ad) (L := L) r (i + 1) h
    refine ⟨?_, fun j v hj => ?_⟩
    · show (lg_sl (Value.int x :: r.map (pm_vm ad))).length = (some (Value.int x) :: pm_ent r).length
      rw [List.length_cons, ← h1]
      simp [lg_sl, Value.category]
    · cases j with
      | zero => cases hj; exact ⟨List.mem_cons_self, fun hc => by cases hc⟩
      | succ j =>
        have := h2 j v hj
        rw [Nat.add_assoc, Nat.add_comm 1 j] at this
        exact ⟨List.mem_cons_of_mem _ this.1, this.2⟩
  | .ref x :: r, i, h => by
    obtain ⟨h1, h2⟩ := pm_ent_args (ad := ad) (L := L) r (i + 1) h
    refine ⟨?_, fun j v hj => ?_⟩
    · show (lg_sl (Value.ref (ad x) :: r.map (pm_vm ad))).length = (some (Value.ref x) :: pm_ent r).length
      rw [List.length_cons, ← h1]
      simp [lg_sl, Value.category]
    · cases j with
      | zero => cases hj; exact ⟨List.mem_cons_self, fun hc => by cases hc⟩
      | succ j =>
        have := h2 j v hj
        rw [Nat.add_assoc, Nat.add_comm 1 j] at this
        exact ⟨List.mem_cons_of_mem _ this.1, this.2⟩
  | .long x :: r, i, h => by
    have h0 : L.contains i = true ∧ pm_aok L (i + 2) r = true := by
      simpa [pm_aok] using h
    obtain ⟨h1, h2⟩ := pm_ent_args (ad := ad) (L := L) r (i + 2) h0.2
    refine ⟨?_, fun j v hj => ?_⟩
    · show (lg_sl (Value.long x :: r.map (pm_vm ad))).length = (some (Value.long x) :: none :: pm_ent r).length
      rw [List.length_cons, List.length_cons, ← h1]
      simp [lg_sl, Value.category]
    · cases j with
      | zero => cases hj; exact ⟨List.mem_cons_self, fun _ => List.contains_iff_mem.mp h0.1⟩
      | succ j =>
        cases j with
        | zero => cases hj
        | succ j =>
          have := h2 j v hj
          rw [Nat.add_assoc, Nat.add_comm 2 j] at this
          exact ⟨List.mem_cons_of_mem _ this.1, this.2⟩
  | .float _ :: _, _, h => by cases h
  | .double _ :: _, _, h => by cases h
  | .null :: _, _, h => by cases h
  | .retAddr _ :: _, _, h => by cases h
theorem pm_LR_entry {ad : Nat → Nat} {L : List Nat} {as : List Value} {nL : Nat} (h : pm_aok L 0 as = true) (hn : (pm_ent as).length ≤ nL) :
    pm_LR ((lg_sl (as.map (pm_vm ad)) ++ List.replicate (nL - (lg_sl (as.map (pm_vm ad))).length) Slot.unset).toArray) nL L ad (pm_ent as ++ List.replicate (nL - (pm_ent as).length) none) := by
  obtain ⟨h1, h2⟩ := pm_ent_args (ad := ad) (L := L) as 0 h
  have he := lv_entry (as.map (pm_vm ad)) (n := nL) (by rw [h1]; exact hn)
  refine ⟨he.1, he.2.1, by rw [List.length_append, List.length_replicate]; omega, fun j v hj => ?_⟩
  by_cases hlt : j < (pm_ent as).length
  · rw [List.getElem?_append_left hlt] at hj
    have := h2 j v hj
    rw [Nat.zero_add] at this
    exact ⟨he.2.2 _ this.1, this.2⟩
  · rw [List.getElem?_append_right (by omega), List.getElem?_replicate] at hj
    split at hj <;> cases hj
/-- switches -/
def pm_swT (ops : List pm_OP) (pc : Nat) : Int → List (Int32 × Nat) → List Int → Bool
  | _, [], [] => true
  | z, q :: r, o :: os => decide (q.1.toInt = z) && (decide ((pc : Int) + o = (pm_pc ops q.2 : Int)) && pm_swT ops pc (z + 1) r os)
  | _, _, _ => false
def pm_swL (ops : List pm_OP) (pc : Nat) : List (Int32 × Nat) → List (Int × Int) → Bool
  | [], [] => true
  | q :: r, o :: os => decide (q.1.toInt = o.1) && (decide ((pc : Int) + o.2 = (pm_pc ops q.2 : Int)) && pm_swL ops pc r os)
  | _, _ => false
theorem pm_swT_to {ops : List pm_OP} {pc : Nat} {k : Nat → pm_X} {x : Int32} {d : Nat} : ∀ (sw : List (Int32 × Nat)) (os : List Int) (z : Int), pm_swT ops pc z sw os = true →
    (∃ (t : Nat) (off : Int), pm_sw k x d sw = k t ∧ ¬ x.toInt < z ∧ x.toInt < z + os.length ∧ os[(x.toInt - z).toNat]? = some off ∧ (pc : Int) + off = (pm_pc ops t : Int)) ∨
    (pm_sw k x d sw = k d ∧ (x.toInt < z ∨ z + os.length ≤ x.toInt))
  | [], [], z, _ => Or.inr ⟨rfl, by simp; omega⟩
  | [], _ :: _, _, h => by cases h
  | _ :: _, [], _, h => by cases h
  | q :: r, o :: os, z, h => by
    simp only [pm_swT, Bool.and_eq_true, decide_eq_true_eq] at h
    by_cases hx : x = q.1
    · refine Or.inl ⟨q.2, o, by rw [pm_sw, if_pos hx], ?_, ?_, ?_, h.2.1⟩
      · rw [hx, h.1]; omega
      · rw [hx, h.1, List.length_cons]; omega
      · rw [hx, h.1, Int.sub_self]; rfl
    · have hne : x.toInt ≠ z := fun e => hx (Int32.toInt_inj.mp (e.trans h.1.symm))
      rcases pm_swT_to (k := k) (x := x) (d := d) r os (z + 1) h.2.2 with ⟨t, off, h1, h2, h3, h4, h5⟩ | ⟨h1, h2⟩
      · refine Or.inl ⟨t, off, by rw [pm_sw, if_neg hx]; exact h1, by omega, by rw [List.length_cons]; omega, ?_, h5⟩
        have e : (x.toInt - z).toNat = (x.toInt - (z + 1)).toNat + 1 := by omega
        rw [e, List.getElem?_cons_succ]
        exact h4
      · refine Or.inr ⟨by rw [pm_sw, if_neg hx]; exact h1, ?_⟩
        rw [List.length_cons]
        omega
theorem pm_swL_to {ops : List pm_OP} {pc : Nat} {k : Nat → pm_X} {x : Int32} {d : Nat} {dflt : Int} (hd : (pc : Int) + dflt = (pm_pc ops d : Int)) : ∀ (sw : List (Int32 × Nat)) (os : List (Int × Int)), pm_swL ops pc sw os = true →
    ∃ (t : Nat), pm_sw k x d sw = k t ∧ (pc : Int) + Op.lookupswitch.offset os dflt x.toInt = (pm_pc ops t : Int)
  | [], [], _ => ⟨d, rfl, hd⟩
  | [], _ :: _, h => by cases h
  | _ :: _, [], h => by cases h
  | q :: r, (a, o) :: os, h => by
    simp only [pm_swL, Bool.and_eq_true, decide_eq_true_eq] at h
    by_cases hx : x = q.1
    · refine ⟨q.2, by rw [pm_sw, if_pos hx], ?_⟩
      rw [Op.lookupswitch.offset_cons, if_pos (by rw [hx]; exact h.1.symm)]
      exact h.2.1
    · obtain ⟨t, h1, h2⟩ := pm_swL_to hd r os h.2.2 (k := k) (x := x)
      refine ⟨t, by rw [pm_sw, if_neg hx]; exact h1, ?_⟩
      rw [Op.lookupswitch.offset_cons, if_neg (fun e => hx (Int32.toInt_inj.mp (e.symm.trans h.1.symm)))]
      exact h2
/-- what a program must show of a method's table -/
def pm_ln (ins : Instr) : Nat := match ins with
  | .iload _ => 2
  | .aload _ => 2
  | .lload _ => 2
  | .istore _ => 2
  | .lstore _ => 2
  | .bipush _ => 2
  | .sipush _ => 3
  | .ldc_w _ => 3
  | .ldc2_w _ => 3
  | .goto _ => 3
  | .ifCond _ _ => 3
  | .if_icmp _ _ => 3
  | .iinc _ _ => 3
  | .tableswitch _ _ _ _ => 0
  | .lookupswitch _ _ => 0
  | .getfield _ => 3
  | .putfield _ => 3
  | .invokevirtual _ => 3
  | .invokestatic _ => 3
  | _ => 1
def pm_fty (v : Value) (t : Option FieldType) : Bool := match v with
  | .int _ => decide (t = some .int)
  | .long _ => decide (t = some .long)
  | _ => false
abbrev pm_P : Type := List pm_M × List vw_C × List Cond × List pm_N
def pm_chk (P : pm_P) (M : pm_M) (op : pm_OP) : Bool := match op with
  | (pc, ins, _, a, v, aux, sw) => match ins with
    | .istore k => pm_oks M.2.2.1 M.2.2.2.2.1 k
    | .istore_n k => pm_oks M.2.2.1 M.2.2.2.2.1 k
    | .lstore k => pm_okl M.2.2.1 M.2.2.2.2.1 k
    | .lstore_n k => pm_okl M.2.2.1 M.2.2.2.2.1 k
    | .iinc k n => pm_oks M.2.2.1 M.2.2.2.2.1 k && decide (v = .int (Int32.ofInt n))
    | .iconst n => decide (v = .int (Int32.ofInt n))
    | .bipush n => decide (v = .int (Int8.ofInt n).toInt32)
    | .sipush n => decide (v = .int (Int16.ofInt n).toInt32)
    | .lconst n => decide (v = .long (Int64.ofNat (n : Nat)))
    | .ldc_w k => (match v with
      | .int x => decide (P.2.2.1[aux.getD 0 0]? = some (.constant M.1.cls k x))
      | _ => false)
    | .ldc2_w k => (match v with
      | .long x => decide (P.2.2.1[aux.getD 0 0]? = some (.constantLong M.1.cls k x))
      | _ => false)
    | .goto off => decide ((pc : Int) + off = (pm_pc M.2.2.2.2.2.1 a : Int))
    | .ifCond _ off => decide ((pc : Int) + off = (pm_pc M.2.2.2.2.2.1 a : Int))
    | .if_icmp _ off => decide ((pc : Int) + off = (pm_pc M.2.2.2.2.2.1 a : Int))
    | .tableswitch d lo hi offs => decide ((pc : Int) + d = (pm_pc M.2.2.2.2.2.1 a : Int)) && (decide (hi + 1 = lo + offs.toList.length) && pm_swT M.2.2.2.2.2.1 pc lo sw offs.toList)
    | .lookupswitch d ps => decide ((pc : Int) + d = (pm_pc M.2.2.2.2.2.1 a : Int)) && ((ps.toList.zip (ps.toList.drop 1)).all (fun (a, next) => a.1 < next.1) && pm_swL M.2.2.2.2.2.1 pc sw ps.toList)
    | .getfield k => (match P.2.1[aux.getD 0 0]? with
      | some q => decide (a < q.2.2) && decide (P.2.2.1[aux.getD 1 0]? = some (.fieldLink M.1.cls k (q.2.1 a).1 (q.2.1 a).2.1 (q.2.1 a).2.2.1))
      | none => false)
    | .putfield k => (match P.2.1[aux.getD 0 0]? with
      | some q => decide (a < q.2.2) && (decide (P.2.2.1[aux.getD 1 0]? = some (.fieldLink M.1.cls k (q.2.1 a).1 (q.2.1 a).2.1 (q.2.1 a).2.2.1)) && (decide ((q.2.1 a).2.2.2 = false) && pm_fty v (parseFieldDescriptor (q.2.1 a).2.2.1)))
      | none => false)
    | .invokevirtual k => (match P.1[a]? with
      | some K => (match P.2.1[aux.getD 1 0]? with
        | some q => decide (q.1 = K.1.cls) && (decide (P.2.2.1[aux.getD 2 0]? = some (.methodLink M.1.cls k K.1)) && (decide ((parseMethodDescriptor K.1.desc).map (fun d => d.parameters.length) = some (aux.getD 0 0)) &&
          (decide (P.2.2.1[K.2.2.2.2.2.2.getD 2 0]? = some (.instanceMethod K.1)) && decide (P.2.2.1[K.2.2.2.2.2.2.getD 3 0]? = some (.selects K.1.cls K.1 K.1)))))
        | none => false)
      | none => false)
    | .invokestatic k => (match v with
      | .null => decide (P.2.2.1[aux.getD 0 0]? = some (.methodLink M.1.cls k arraycopyName)) && (decide (P.2.2.1[aux.getD 1 0]? = some (.native arraycopyName)) && (decide (P.2.2.1[aux.getD 2 0]? = some (.static arraycopyName)) && decide (P.2.2.1[aux.getD 3 0]? = some (.initialized "java/lang/System"))))
      | .ref z => (decide (z = 1) && (decide (P.2.2.1[aux.getD 0 0]? = some (.methodLink M.1.cls k Lib.Math.max.name)) && (decide (P.2.2.1[aux.getD 1 0]? = some (.static Lib.Math.max.name)) && (decide (P.2.2.1[aux.getD 2 0]? = some (.initialized "java/lang/Math")) && decide (P.2.2.1[aux.getD 3 0]? = some (.code Lib.Math.max.name Lib.Math.max.code 2 (some .int))))))) ||
          (decide (z = 2) && (decide (P.2.2.1[aux.getD 0 0]? = some (.methodLink M.1.cls k Lib.Math.min.name)) && (decide (P.2.2.1[aux.getD 1 0]? = some (.static Lib.Math.min.name)) && (decide (P.2.2.1[aux.getD 2 0]? = some (.initialized "java/lang/Math")) && decide (P.2.2.1[aux.getD 3 0]? = some (.code Lib.Math.min.name Lib.Math.min.code 2 (some .int)))))))
      | .float _ => (decide (P.2.2.1[aux.getD 0 0]? = some (.methodLink M.1.cls k Lib.Math.abs.name)) && (decide (P.2.2.1[aux.getD 1 0]? = some (.static Lib.Math.abs.name)) && (decide (P.2.2.1[aux.getD 2 0]? = some (.initialized "java/lang/Math")) && decide (P.2.2.1[aux.getD 3 0]? = some (.code Lib.Math.abs.name Lib.Math.abs.code 1 (some .int))))))
      | .int _ => (match P.1[a]? with
        | some K => decide ((parseMethodDescriptor K.1.desc).map (fun d => d.parameters.length) = some (aux.getD 0 0)) && (decide (P.2.2.1[K.2.2.2.2.2.2.getD 2 0]? = some (.static K.1)) && decide (P.2.2.1[aux.getD 1 0]? = some (.methodLink M.1.cls k K.1)))
        | none => false)
      | .long _ => (match P.1[a]? with
        | some K => decide ((parseMethodDescriptor K.1.desc).map (fun d => d.parameters.length) = some (aux.getD 0 0)) && (decide (P.2.2.1[K.2.2.2.2.2.2.getD 2 0]? = some (.static K.1)) && (match P.2.2.2[aux.getD 1 0]? with
          | some q => decide (q.1 = M.1.cls) && (decide (q.2.1 = k) && decide (q.2.2.1 = K.1))
          | none => false))
        | none => false)
      | _ => false)
    | _ => true
def pm_okO (P : pm_P) (M : pm_M) (i : Nat) : Bool := match M.2.2.2.2.2.1[i]? with
  | none => false
  | some op => decide (decode M.2.1 op.1 = .ok (op.2.1, op.2.2.1)) && (decide (pm_ln op.2.1 = 0 ∨ op.2.2.1 = pm_ln op.2.1) && (decide (i + 1 < M.2.2.2.2.2.1.length → pm_pc M.2.2.2.2.2.1 (i + 1) = op.1 + op.2.2.1) && pm_chk P M op))
def pm_okM (P : pm_P) (M : pm_M) : Bool :=
  (plainName M.1.cls && (decide (M.1.cls ≠ "java/lang/invoke/MethodHandle") && (decide (M.1.cls ≠ "java/lang/invoke/VarHandle") && (decide (P.2.2.1[M.2.2.2.2.2.2.getD 0 0]? = some (.code M.1 M.2.1 M.2.2.1 M.2.2.2.1)) && (decide (P.2.2.1[M.2.2.2.2.2.2.getD 1 0]? = some (.initialized M.1.cls)) && (decide (M.2.2.1 ≤ 40) && decide (pm_pc M.2.2.2.2.2.1 0 = 0))))))) &&
    (List.range M.2.2.2.2.2.1.length).all (pm_okO P M)
