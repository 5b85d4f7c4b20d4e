/-! the walk: one theorem for all instructions -/
def pm_fin (E : pm_C → Option pm_R) (x : pm_X) : Option pm_R := match x with
  | .inl c => E c
  | .inr r => r
theorem pm_ev_fin {call : pm_K} {ret : Option FieldType} {ops : List pm_OP} {n : Nat} {c : pm_C} : pm_ev call ret ops (n + 1) c = pm_fin (pm_ev call ret ops n) (pm_step call ret ops c) := rfl
section INV
variable {E : pm_C → Option pm_R} {i a k : Nat} {ls : pm_LS} {st : List Value} {hp : pm_HP} {o : pm_R}
theorem pm_ldI_inv (h : pm_fin E (pm_ldI i ls st hp k) = some o) : ∃ x, pm_ld ls k = some (.int x) ∧ E (i + 1, ls, .int x :: st, hp) = some o := by
  unfold pm_ldI at h
  split at h
  · rename_i x hx; exact ⟨x, hx, h⟩
  · cases h
theorem pm_ldA_inv (h : pm_fin E (pm_ldA i ls st hp k) = some o) : ∃ x, pm_ld ls k = some (.ref x) ∧ E (i + 1, ls, .ref x :: st, hp) = some o := by
  unfold pm_ldA at h
  split at h
  · rename_i x hx; exact ⟨x, hx, h⟩
  · cases h
theorem pm_ldL_inv (h : pm_fin E (pm_ldL i ls st hp k) = some o) : ∃ x, pm_ld ls k = some (.long x) ∧ E (i + 1, ls, .long x :: st, hp) = some o := by
  unfold pm_ldL at h
  split at h
  · rename_i x hx; exact ⟨x, hx, h⟩
  · cases h
theorem pm_stI_inv (h : pm_fin E (pm_stI i ls st hp k) = some o) : ∃ x st2, st = .int x :: st2 ∧ E (i + 1, ls.set k (some (.int x)), st2, hp) = some o := by
  unfold pm_stI at h
  split at h
  · rename_i x st2; exact ⟨x, st2, rfl, h⟩
  · cases h
theorem pm_stL_inv (h : pm_fin E (pm_stL i ls st hp k) = some o) : ∃ x st2, st = .long x :: st2 ∧ E (i + 1, (ls.set k (some (.long x))).set (k + 1) none, st2, hp) = some o := by
  unfold pm_stL at h
  split at h
  · rename_i x st2; exact ⟨x, st2, rfl, h⟩
  · cases h
theorem pm_cI_inv {v : Value} (h : pm_fin E (pm_cI i ls st hp v) = some o) : ∃ x, v = .int x ∧ E (i + 1, ls, .int x :: st, hp) = some o := by
  unfold pm_cI at h
  split at h
  · rename_i x; exact ⟨x, rfl, h⟩
  · cases h
theorem pm_cL_inv {v : Value} (h : pm_fin E (pm_cL i ls st hp v) = some o) : ∃ x, v = .long x ∧ E (i + 1, ls, .long x :: st, hp) = some o := by
  unfold pm_cL at h
  split at h
  · rename_i x; exact ⟨x, rfl, h⟩
  · cases h
theorem pm_b2_inv {f : Int32 → Int32 → Int32} (h : pm_fin E (pm_b2 i ls st hp f) = some o) : ∃ x y st2, st = .int y :: .int x :: st2 ∧ E (i + 1, ls, .int (f x y) :: st2, hp) = some o := by
  unfold pm_b2 at h
  split at h
  · rename_i y x st2; exact ⟨x, y, st2, rfl, h⟩
  · cases h
theorem pm_d2_inv {f : Int32 → Int32 → Int32} (h : pm_fin E (pm_d2 i ls st hp f) = some o) : ∃ x y st2, st = .int y :: .int x :: st2 ∧ ¬ y = 0 ∧ E (i + 1, ls, .int (f x y) :: st2, hp) = some o := by
  unfold pm_d2 at h
  split at h
  · rename_i y x st2
    by_cases hy : y = 0
    · rw [if_pos hy] at h; cases h
    · rw [if_neg hy] at h; exact ⟨x, y, st2, rfl, hy, h⟩
  · cases h
theorem pm_l2_inv {f : Int64 → Int64 → Int64} (h : pm_fin E (pm_l2 i ls st hp f) = some o) : ∃ x y st2, st = .long y :: .long x :: st2 ∧ E (i + 1, ls, .long (f x y) :: st2, hp) = some o := by
  unfold pm_l2 at h
  split at h
  · rename_i y x st2; exact ⟨x, y, st2, rfl, h⟩
  · cases h
theorem pm_e2_inv {f : Int64 → Int64 → Int64} (h : pm_fin E (pm_e2 i ls st hp f) = some o) : ∃ x y st2, st = .long y :: .long x :: st2 ∧ ¬ y = 0 ∧ E (i + 1, ls, .long (f x y) :: st2, hp) = some o := by
  unfold pm_e2 at h
  split at h
  · rename_i y x st2
    by_cases hy : y = 0
    · rw [if_pos hy] at h; cases h
    · rw [if_neg hy] at h; exact ⟨x, y, st2, rfl, hy, h⟩
  · cases h
theorem pm_i1_inv {f : Int32 → pm_X → pm_X → pm_X} (h : pm_fin E (pm_i1 i ls st hp a f) = some o) : ∃ x st2, st = .int x :: st2 ∧ pm_fin E (f x (.inl (a, ls, st2, hp)) (.inl (i + 1, ls, st2, hp))) = some o := by
  unfold pm_i1 at h
  split at h
  · rename_i x st2; exact ⟨x, st2, rfl, h⟩
  · cases h
theorem pm_i2_inv {f : Int32 → Int32 → pm_X → pm_X → pm_X} (h : pm_fin E (pm_i2 i ls st hp a f) = some o) : ∃ x y st2, st = .int y :: .int x :: st2 ∧ pm_fin E (f x y (.inl (a, ls, st2, hp)) (.inl (i + 1, ls, st2, hp))) = some o := by
  unfold pm_i2 at h
  split at h
  · rename_i y x st2; exact ⟨x, y, st2, rfl, h⟩
  · cases h
theorem pm_gf_inv {aux : List Nat} (h : pm_fin E (pm_gf i ls st hp a aux) = some o) : ∃ x st2 fs v, st = .ref x :: st2 ∧ hp[x]? = some (.inr (aux.getD 0 0, fs)) ∧ fs[a]? = some v ∧ E (i + 1, ls, v :: st2, hp) = some o := by
  unfold pm_gf at h
  split at h
  · rename_i x st2
    split at h
    · rename_i q hq
      obtain ⟨c0, fs⟩ := q
      by_cases hc : c0 = aux.getD 0 0
      · rw [if_pos hc] at h
        split at h
        · rename_i v hv; exact ⟨x, st2, fs, v, rfl, by rw [hq, hc], hv, h⟩
        · cases h
      · rw [if_neg hc] at h; cases h
    · cases h
  · cases h
theorem pm_pf_inv {v : Value} {aux : List Nat} (h : pm_fin E (pm_pf i ls st hp a v aux) = some o) : ∃ w x st2 fs, st = w :: .ref x :: st2 ∧ ((∃ y z, w = .int y ∧ v = .int z) ∨ (∃ y z, w = .long y ∧ v = .long z)) ∧ hp[x]? = some (.inr (aux.getD 0 0, fs)) ∧ a < fs.length ∧ E (i + 1, ls, st2, hp.set x (.inr (aux.getD 0 0, fs.set a w))) = some o := by
  unfold pm_pf at h
  split at h
  · rename_i y x st2
    split at h
    · rename_i z
      split at h
      · rename_i q hq
        obtain ⟨c0, fs⟩ := q
        by_cases hc : c0 = aux.getD 0 0 ∧ a < fs.length
        · rw [if_pos hc] at h
          have hc1 := hc.1
          subst hc1
          exact ⟨.int y, x, st2, fs, rfl, Or.inl ⟨y, z, rfl, rfl⟩, hq, hc.2, h⟩
        · rw [if_neg hc] at h; cases h
      · cases h
    · cases h
  · rename_i y x st2
    split at h
    · rename_i z
      split at h
      · rename_i q hq
        obtain ⟨c0, fs⟩ := q
        by_cases hc : c0 = aux.getD 0 0 ∧ a < fs.length
        · rw [if_pos hc] at h
          have hc1 := hc.1
          subst hc1
          exact ⟨.long y, x, st2, fs, rfl, Or.inr ⟨y, z, rfl, rfl⟩, hq, hc.2, h⟩
        · rw [if_neg hc] at h; cases h
      · cases h
    · cases h
  · cases h
theorem pm_in_of {j : Int32} {n : Nat} (h : pm_in j n = true) : vp_in j n := of_decide_eq_true (p := ¬ (j < 0 ∨ n ≤ j.toNatClampNeg)) h
theorem pm_al_inv {t : Nat} (h : pm_fin E (pm_al i ls st hp t) = some o) : ∃ j x st2 n f, st = .int j :: .ref x :: st2 ∧ hp[x]? = some (.inl (t, n, .inl f)) ∧ vp_in j n ∧ E (i + 1, ls, .int (f j.toNatClampNeg) :: st2, hp) = some o := by
  unfold pm_al at h
  split at h
  · rename_i j x st2
    split at h
    · rename_i t0 n f hq
      by_cases hc : t0 = t ∧ pm_in j n = true
      · rw [if_pos hc] at h
        have hc1 := hc.1
        subst hc1
        exact ⟨j, x, st2, n, f, rfl, hq, pm_in_of hc.2, h⟩
      · rw [if_neg hc] at h; cases h
    · cases h
  · cases h
theorem pm_as_inv {t : Nat} {g : Int32 → Int32} (h : pm_fin E (pm_as i ls st hp t g) = some o) : ∃ y j x st2 n f, st = .int y :: .int j :: .ref x :: st2 ∧ hp[x]? = some (.inl (t, n, .inl f)) ∧ vp_in j n ∧ E (i + 1, ls, st2, hp.set x (.inl (t, n, .inl (upd f j.toNatClampNeg (g y))))) = some o := by
  unfold pm_as at h
  split at h
  · rename_i y j x st2
    split at h
    · rename_i t0 n f hq
      by_cases hc : t0 = t ∧ pm_in j n = true
      · rw [if_pos hc] at h
        have hc1 := hc.1
        subst hc1
        exact ⟨y, j, x, st2, n, f, rfl, hq, pm_in_of hc.2, h⟩
      · rw [if_neg hc] at h; cases h
    · cases h
  · cases h
theorem pm_len_inv (h : pm_fin E (pm_len i ls st hp) = some o) : ∃ x st2 t n f, st = .ref x :: st2 ∧ hp[x]? = some (.inl (t, n, f)) ∧ t < 2 ∧ E (i + 1, ls, .int (Int32.ofNat n) :: st2, hp) = some o := by
  unfold pm_len at h
  split at h
  · rename_i x st2
    split at h
    · rename_i t0 n f hq
      by_cases hc : t0 < 2
      · rw [if_pos hc] at h; exact ⟨x, st2, t0, n, f, rfl, hq, hc, h⟩
      · rw [if_neg hc] at h; cases h
    · cases h
  · cases h
theorem pm_cp_inv (h : pm_fin E (pm_cp i ls st hp) = some o) : ∃ n dp d sp x st2 n0 f n1 g, st = .int n :: .int dp :: .ref d :: .int sp :: .ref x :: st2 ∧ hp[x]? = some (.inl (0, n0, .inl f)) ∧ hp[d]? = some (.inl (0, n1, .inl g)) ∧ (¬ sp < 0 ∧ ¬ dp < 0 ∧ ¬ n < 0 ∧ sp.toNatClampNeg + n.toNatClampNeg ≤ n0 ∧ dp.toNatClampNeg + n.toNatClampNeg ≤ n1 ∧ st2.length ≤ 4) ∧
    E (i + 1, ls, st2, hp.set d (.inl (0, n1, .inl (va_cpy f g sp.toNatClampNeg dp.toNatClampNeg n.toNatClampNeg)))) = some o := by
  unfold pm_cp at h
  split at h
  · rename_i n dp d sp x st2
    split at h
    · rename_i n0 f hq
      split at h
      · rename_i n1 g hg
        split at h
        · rename_i hc; exact ⟨n, dp, d, sp, x, st2, n0, f, n1, g, rfl, hq, hg, hc, h⟩
        · cases h
      · cases h
    · cases h
  · cases h
theorem pm_bd_inv {w : Option pm_R} {kk : Option Value → pm_HP → pm_X} (h : pm_fin E (pm_bd w kk) = some o) : ∃ r hp2, w = some (r, hp2) ∧ pm_fin E (kk r hp2) = some o := by
  cases w with
  | none => cases h
  | some q => exact ⟨q.1, q.2, rfl, h⟩
theorem pm_iv_inv {call : pm_K} {aux : List Nat} (h : pm_fin E (pm_iv call i ls st hp a aux) = some o) : ∃ x rest fs r hp2, st.drop (aux.getD 0 0) = .ref x :: rest ∧ hp[x]? = some (.inr (aux.getD 1 0, fs)) ∧ rest.length ≤ 4 ∧ call a (.ref x :: (st.take (aux.getD 0 0)).reverse) hp = some (r, hp2) ∧ E (i + 1, ls, r.toList ++ rest, hp2) = some o := by
  unfold pm_iv at h
  split at h
  · rename_i x rest hd
    split at h
    · rename_i q hq
      obtain ⟨c0, fs⟩ := q
      by_cases hc : c0 = aux.getD 1 0 ∧ rest.length ≤ 4
      · rw [if_pos hc] at h
        obtain ⟨r, hp2, h1, h2⟩ := pm_bd_inv h
        exact ⟨x, rest, fs, r, hp2, hd, by rw [hq, hc.1], hc.2, h1, h2⟩
      · rw [if_neg hc] at h; cases h
    · cases h
  · cases h
theorem pm_is_inv {call : pm_K} {aux : List Nat} (h : pm_fin E (pm_is call i ls st hp a aux) = some o) : ∃ r hp2, aux.getD 0 0 ≤ st.length ∧ (st.drop (aux.getD 0 0)).length ≤ 4 ∧ call a ((st.take (aux.getD 0 0)).reverse) hp = some (r, hp2) ∧ E (i + 1, ls, r.toList ++ st.drop (aux.getD 0 0), hp2) = some o := by
  unfold pm_is at h
  split at h
  · rename_i hc
    obtain ⟨r, hp2, h1, h2⟩ := pm_bd_inv h
    exact ⟨r, hp2, hc.1, hc.2, h1, h2⟩
  · cases h
theorem pm_mx_inv {z : Nat} (h : pm_fin E (pm_mx i ls st hp z) = some o) : ∃ x y st2, st = .int y :: .int x :: st2 ∧ st2.length ≤ 4 ∧ ((z = 1 ∧ E (i + 1, ls, .int (if x < y then y else x) :: st2, hp) = some o) ∨ (z = 2 ∧ E (i + 1, ls, .int (if y < x then y else x) :: st2, hp) = some o)) := by
  unfold pm_mx at h
  split at h
  · rename_i y x st2
    by_cases hl : st2.length ≤ 4
    · rw [if_pos hl] at h
      by_cases h1 : z = 1
      · rw [if_pos h1] at h; exact ⟨x, y, st2, rfl, hl, Or.inl ⟨h1, h⟩⟩
      · rw [if_neg h1] at h
        by_cases h2 : z = 2
        · rw [if_pos h2] at h; exact ⟨x, y, st2, rfl, hl, Or.inr ⟨h2, h⟩⟩
        · rw [if_neg h2] at h; cases h
    · rw [if_neg hl] at h; cases h
  · cases h
theorem pm_ab_inv (h : pm_fin E (pm_ab i ls st hp) = some o) : ∃ x st2, st = .int x :: st2 ∧ st2.length ≤ 4 ∧ E (i + 1, ls, .int (if 0 ≤ x then x else 0 - x) :: st2, hp) = some o := by
  unfold pm_ab at h
  split at h
  · rename_i x st2
    by_cases hl : st2.length ≤ 4
    · rw [if_pos hl] at h; exact ⟨x, st2, rfl, hl, h⟩
    · rw [if_neg hl] at h; cases h
  · cases h
end INV
/-- a method's start and end, in the words of the pure machine -/
def pm_Pre (D : va_G) (cl : List vw_C) (nst : List pm_N) (ad : Nat → Nat) (cA : Nat → ClassId) (hp : pm_HP) (sz : Nat) (U : State) : Prop := U.heap.size = sz ∧ va_P D cl (pm_ws ad cA hp) U.heap ∧ va_K D cl (pm_tys cA) U ∧ pm_NW nst U
def pm_Post (D : va_G) (cl : List vw_C) (ad : Nat → Nat) (cA : Nat → ClassId) (r : Option Value) (hp : pm_HP) (A : Nat → Prop) : Array Value → State → Outcome → State → Prop := fun _ st oc t => oc = .returned (r.map (pm_vm ad)) ∧ va_P D cl (pm_ws ad cA hp) t.heap ∧ va_F A st t
def pm_rm (d : Nat) : Room := { frames := d, cells := 0, slots := 0, locals := 64 * d }
theorem pm_NW.warm {nst : List pm_N} {s U : State} (h : pm_NW nst s) (hW : s.WarmedH U.vm) : pm_NW nst U := fun q hq => va_Nw.warmM hW (h q hq)
theorem pm_blind (D : va_G) (cl : List vw_C) (nst : List pm_N) (ad : Nat → Nat) (cA : Nat → ClassId) (hp : pm_HP) (sz : Nat) (av : List Value) : FrameBlind (va_Pc av (pm_Pre D cl nst ad cA hp sz)) := by
  intro a U g mk h
  obtain ⟨h0, h1, h2, h3, h4⟩ := h
  exact ⟨h0, h1, h2, va_K.moved (u := U) (U := U.calling g mk a) (Vm.Alike.refl U.vm) h3, fun q hq => va_Nw.same (u := U) (U := U.calling g mk a) rfl rfl (h4 q hq)⟩
theorem pm_call {p : Program} {l : Launch} {e : Env} {R : Room} {s : State} {m : MethodId} {args : Array Value} {below : List Frame} {meth : Method} {c : Code} {H : Heap} {locs : List Loc} {Q : State → Prop} {D : va_G} {cl : List vw_C} {ad : Nat → Nat} {cA : Nat → ClassId} {r : Option Value} {hp : pm_HP}
    {pc : Nat} {ls : Array Slot} {rest st0 : List Value} {a : Array Value} {A0 A1 : Nat → Prop} {H0 : Heap} {free : Addr → Prop}
    (hr : va_Run p l e R s m args below meth c H locs 0 0 0 0 (F0 m pc ls st0) rest (pm_Post D cl ad cA r hp A1 a) free) (hS : va_S A0 H0 H locs) (hA : ∀ q, A1 q → A0 q) (hf : ∀ q, free q → A0 q)
    (kk : ∀ (H1 : Heap) (locs1 : List Loc), va_P D cl (pm_ws ad cA hp) H1 → va_S A0 H0 H1 locs1 → W p l e R s m args below meth c H1 locs1 0 0 Q (F0 m (pc + 3) ls ((r.map (pm_vm ad)).toList ++ rest))) : W p l e R s m args below meth c H locs 0 0 Q (F0 m pc ls st0) := by
  intro T hT X
  obtain ⟨v, st₀, t, T', L, h0, X', hL, e1, e2, ⟨hv, hP1, hz, hk⟩, st⟩ := hr T hT X
  cases hv
  rw [h0] at hz hk
  obtain ⟨t2, a1, b1⟩ := kk T'.heap (locs ++ L) (by rw [e1]; exact hP1)
    ⟨Nat.le_trans hS.1 (by rw [e1]; exact hz), fun q h1 h2 => by rw [e1, hk q (Nat.lt_of_lt_of_le h1 hS.1) (fun z => h2 (hA q z))]; exact hS.2.1 q h1 h2, fun q hq => by
      rcases List.mem_append.mp hq with h | h
      · exact hS.2.2 q h
      · exact hf _ (hL q h)⟩ T' rfl X'
  exact ⟨t2, st t2 a1, b1⟩
/-- what the whole program's tables say -/
def pm_okP (P : pm_P) : Prop := (∀ w ∈ P.2.2.1, goodWord w = true) ∧ (∀ q ∈ P.2.1, (∀ w ∈ u_ws q.1 q.2.1 q.2.2, w ∈ P.2.2.1) ∧ (∀ k, k < q.2.2 → (parseFieldDescriptor (q.2.1 k).2.2.1).isSome = true) ∧ ∀ a, a < q.2.2 → ∀ b, b < q.2.2 → a ≠ b → (q.2.1 a).2.1 ≠ (q.2.1 b).2.1) ∧ ∀ M ∈ P.1, pm_okM P M = true
theorem pm_okM_to {P : pm_P} {M : pm_M} (h : pm_okM P M = true) : plainName M.1.cls = true ∧ M.1.cls ≠ "java/lang/invoke/MethodHandle" ∧ M.1.cls ≠ "java/lang/invoke/VarHandle" ∧ Cond.code M.1 M.2.1 M.2.2.1 M.2.2.2.1 ∈ P.2.2.1 ∧ Cond.initialized M.1.cls ∈ P.2.2.1 ∧ M.2.2.1 ≤ 40 ∧ pm_pc M.2.2.2.2.2.1 0 = 0 ∧
    ∀ (i : Nat) (op : pm_OP), M.2.2.2.2.2.1[i]? = some op → decode M.2.1 op.1 = .ok (op.2.1, op.2.2.1) ∧ (pm_ln op.2.1 = 0 ∨ op.2.2.1 = pm_ln op.2.1) ∧ (i + 1 < M.2.2.2.2.2.1.length → pm_pc M.2.2.2.2.2.1 (i + 1) = op.1 + op.2.2.1) ∧ pm_chk P M op = true := by
  unfold pm_okM at h
  simp only [Bool.and_eq_true, decide_eq_true_eq, List.all_eq_true, List.mem_range] at h
  obtain ⟨⟨h1, h2, h3, h4, h5, h6, h7⟩, h8⟩ := h
  refine ⟨h1, h2, h3, List.mem_of_getElem? h4, List.mem_of_getElem? h5, h6, h7, fun i op hi => ?_⟩
  have h9 := h8 i (List.getElem?_eq_some_iff.mp hi).1
  unfold pm_okO at h9
  rw [hi] at h9
  simp only [Bool.and_eq_true, decide_eq_true_eq] at h9
  exact h9
