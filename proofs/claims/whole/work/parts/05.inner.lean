/-! the walk of a method, by its pure run -/
set_option maxHeartbeats 4000000 in
theorem pm_inner {p : Program} {l : Launch} {e : Env} {s : State} {m : MethodId} {args : Array Value} {below : List Frame} {meth : Method} {c : Code} {P : pm_P} {M : pm_M} {d N : Nat} {call : pm_K} {D : va_G} {ad : Nat → Nat} {cA : Nat → ClassId} {r : Option Value} {hp9 : pm_HP}
    (hP0 : pm_okP P) (hM : pm_okM P M = true) (hx : p.tables.exec = Jvm.exec) (hb : c.code = M.2.1) (hml : c.maxLocals = M.2.2.1) (hr : meth.sig.returnType = M.2.2.2.1) (hlocks : meth.locks = false) (hown : s.vm.findClass M.1.cls = some m.cls)
    (hts : ∀ w ∈ P.2.2.1, w.before args s = true) (hK : va_K D P.2.1 (pm_tys cA) s) (hNW : pm_NW P.2.2.2 s) (hinj : ∀ i j, i < N → j < N → ad i = ad j → i = j)
    (hcall : ∀ (k : Nat) (K : pm_M) (as : List Value) (hp1 hp2 : pm_HP) (r1 : Option Value), P.1[k]? = some K → call k as hp1 = some (r1, hp2) → hp1.length = N → hp2.length = N ∧ ∀ sz, Met l K.1 (.code K.1 K.2.1 K.2.2.1 K.2.2.2.1 :: P.2.2.1) (pm_rm d) (va_Pc (as.map (pm_vm ad)) (pm_Pre D P.2.1 P.2.2.2 ad cA hp1 sz)) (pm_Post D P.2.1 ad cA r1 hp2 (pm_A ad N sz)) 0 0 (pm_A ad N sz)) :
    ∀ (n i : Nat) (pl : pm_LS) (st : List Value) (hp : pm_HP) (ls : Array Slot) (H : Heap) (locs : List Loc), pm_ev call M.2.2.2.1 M.2.2.2.2.2.1 n (i, pl, st, hp) = some (r, hp9) → pm_LR ls M.2.2.1 M.2.2.2.2.1 ad pl → hp.length = N → va_P D P.2.1 (pm_ws ad cA hp) H → va_S (pm_A ad N s.heap.size) s.heap H locs →
      W p l e (pm_rm (d + 1)) s m args below meth c H locs 0 0 (MQ below (pm_Post D P.2.1 ad cA r hp9 (pm_A ad N s.heap.size)) args s 0 0 (pm_A ad N s.heap.size)) (F0 m (pm_pc M.2.2.2.2.2.1 i) ls (st.map (pm_vm ad))) := by
  obtain ⟨hok1, hok2, hok3⟩ := hP0
  obtain ⟨-, -, -, hcode, hini, hml40, -, hops⟩ := pm_okM_to hM
  have hws : ∀ {K : pm_M}, pm_okM P K = true → GoodIn P.2.2.1 (.code K.1 K.2.1 K.2.2.1 K.2.2.2.1 :: P.2.2.1) := fun hK1 w hw => by
    rcases List.mem_cons.mp hw with rfl | hw
    · exact ⟨(pm_okM_to hK1).2.2.2.1, good_of_word (hok1 _ (pm_okM_to hK1).2.2.2.1)⟩
    · exact ⟨hw, good_of_word (hok1 _ hw)⟩
  intro n
  induction n with
  | zero => intro i pl st hp ls H locs h; cases h
  | succ n ih =>
    intro i pl st hp ls H locs h hL hN hP hS
    rw [pm_ev_fin] at h
    have hD := pm_D (cA := cA) (hp := hp) s.heap.size hN hinj
    rcases hop : M.2.2.2.2.2.1[i]? with _ | ⟨pc, ins, len, a, v, aux, sw⟩
    · have hs : pm_step call M.2.2.2.1 M.2.2.2.2.2.1 (i, pl, st, hp) = .inr none := pm_step_none hop
      rw [hs] at h
      cases h
    · have hpc : pm_pc M.2.2.2.2.2.1 i = pc := by unfold pm_pc; rw [hop]
      obtain ⟨hdec, hlen, hnx, hck⟩ := hops i _ hop
      rw [hpc]
      have go : ∀ {pl2 : pm_LS} {st2 : List Value} {hp2 : pm_HP} {ls2 : Array Slot} {H2 : Heap} {locs2 : List Loc}, pm_ev call M.2.2.2.1 M.2.2.2.2.2.1 n (i + 1, pl2, st2, hp2) = some (r, hp9) → pm_LR ls2 M.2.2.1 M.2.2.2.2.1 ad pl2 → hp2.length = N → va_P D P.2.1 (pm_ws ad cA hp2) H2 → va_S (pm_A ad N s.heap.size) s.heap H2 locs2 →
          W p l e (pm_rm (d + 1)) s m args below meth c H2 locs2 0 0 (MQ below (pm_Post D P.2.1 ad cA r hp9 (pm_A ad N s.heap.size)) args s 0 0 (pm_A ad N s.heap.size)) (F0 m (pc + len) ls2 (st2.map (pm_vm ad))) := by
        intro pl2 st2 hp2 ls2 H2 locs2 h1 h2 h3 h4 h5
        have hlt : i + 1 < M.2.2.2.2.2.1.length := by
          rcases Nat.lt_or_ge (i + 1) M.2.2.2.2.2.1.length with q | q
          · exact q
          · exfalso
            cases n with
            | zero => cases h1
            | succ n =>
              rw [pm_ev_fin] at h1
              have hs : pm_step call M.2.2.2.1 M.2.2.2.2.2.1 (i + 1, pl2, st2, hp2) = .inr none := pm_step_none (List.getElem?_eq_none q)
              rw [hs] at h1
              cases h1
        have h6 := ih (i + 1) pl2 st2 hp2 ls2 H2 locs2 h1 h2 h3 h4 h5
        rw [hnx hlt] at h6
        exact h6
      have hsl : ls.size = M.2.2.1 := hL.1
      dsimp only at hdec hlen
      cases ins with
      | iload k =>
        have hs : pm_step call M.2.2.2.1 M.2.2.2.2.2.1 (i, pl, st, hp) = pm_ldI i pl st hp k := pm_step_some hop
        rw [hs] at h
        have hln := hlen
        obtain rfl : len = 2 := hln.elim (fun q => absurd (show (2 : Nat) = 0 from q) (by decide)) (fun q => q)
        obtain ⟨x, h1, h2⟩ := pm_ldI_inv h
        exact lv_iload hx hb hdec (hL.ld h1) (go h2 hL hN hP hS)
      | iload_n k =>
        have hs : pm_step call M.2.2.2.1 M.2.2.2.2.2.1 (i, pl, st, hp) = pm_ldI i pl st hp k := pm_step_some hop
        rw [hs] at h
        have hln := hlen
        obtain rfl : len = 1 := hln.elim (fun q => absurd (show (1 : Nat) = 0 from q) (by decide)) (fun q => q)
        obtain ⟨x, h1, h2⟩ := pm_ldI_inv h
        exact lv_iload_n hx hb hdec rfl (hL.ld h1) (go h2 hL hN hP hS)
      | aload k =>
        have hs : pm_step call M.2.2.2.1 M.2.2.2.2.2.1 (i, pl, st, hp) = pm_ldA i pl st hp k := pm_step_some hop
        rw [hs] at h
        have hln := hlen
        obtain rfl : len = 2 := hln.elim (fun q => absurd (show (2 : Nat) = 0 from q) (by decide)) (fun q => q)
        obtain ⟨x, h1, h2⟩ := pm_ldA_inv h
        exact lv_aload hx hb hdec (hL.ld h1) (go h2 hL hN hP hS)
      | aload_n k =>
        have hs : pm_step call M.2.2.2.1 M.2.2.2.2.2.1 (i, pl, st, hp) = pm_ldA i pl st hp k := pm_step_some hop
        rw [hs] at h
        have hln := hlen
        obtain rfl : len = 1 := hln.elim (fun q => absurd (show (1 : Nat) = 0 from q) (by decide)) (fun q => q)
        obtain ⟨x, h1, h2⟩ := pm_ldA_inv h
        exact lv_aload_n hx hb hdec rfl (hL.ld h1) (go h2 hL hN hP hS)
      | lload k =>
        have hs : pm_step call M.2.2.2.1 M.2.2.2.2.2.1 (i, pl, st, hp) = pm_ldL i pl st hp k := pm_step_some hop
        rw [hs] at h
        have hln := hlen
        obtain rfl : len = 2 := hln.elim (fun q => absurd (show (2 : Nat) = 0 from q) (by decide)) (fun q => q)
        obtain ⟨x, h1, h2⟩ := pm_ldL_inv h
        exact lv_lload hx hb hdec (hL.ld h1) (go h2 hL hN hP hS)
      | lload_n k =>
        have hs : pm_step call M.2.2.2.1 M.2.2.2.2.2.1 (i, pl, st, hp) = pm_ldL i pl st hp k := pm_step_some hop
        rw [hs] at h
        have hln := hlen
        obtain rfl : len = 1 := hln.elim (fun q => absurd (show (1 : Nat) = 0 from q) (by decide)) (fun q => q)
        obtain ⟨x, h1, h2⟩ := pm_ldL_inv h
        exact lv_lload_n hx hb hdec rfl (hL.ld h1) (go h2 hL hN hP hS)
      | istore k =>
        have hs : pm_step call M.2.2.2.1 M.2.2.2.2.2.1 (i, pl, st, hp) = pm_stI i pl st hp k := pm_step_some hop
        rw [hs] at h
        have hln := hlen
        obtain rfl : len = 2 := hln.elim (fun q => absurd (show (2 : Nat) = 0 from q) (by decide)) (fun q => q)
        obtain ⟨x, st2, rfl, h2⟩ := pm_stI_inv h
        have hk : pm_oks M.2.2.1 M.2.2.2.2.1 k = true := hck
        have hk1 : (k : Nat) < M.2.2.1 := by have := hk; unfold pm_oks at this; simp only [Bool.and_eq_true, decide_eq_true_eq] at this; exact this.1
        exact lv_istore hx hb hdec hL.has hk1 rfl (fun ls2 hl2 => go h2 (hL.st1 (v := .int x) hk rfl hl2) hN hP hS)
      | istore_n k =>
        have hs : pm_step call M.2.2.2.1 M.2.2.2.2.2.1 (i, pl, st, hp) = pm_stI i pl st hp k := pm_step_some hop
        rw [hs] at h
        have hln := hlen
        obtain rfl : len = 1 := hln.elim (fun q => absurd (show (1 : Nat) = 0 from q) (by decide)) (fun q => q)
        obtain ⟨x, st2, rfl, h2⟩ := pm_stI_inv h
        have hk : pm_oks M.2.2.1 M.2.2.2.2.1 k = true := hck
        have hk1 : (k : Nat) < M.2.2.1 := by have := hk; unfold pm_oks at this; simp only [Bool.and_eq_true, decide_eq_true_eq] at this; exact this.1
        exact lv_istore_n hx hb hdec rfl hL.has hk1 rfl (fun ls2 hl2 => go h2 (hL.st1 (v := .int x) hk rfl hl2) hN hP hS)
      | lstore k =>
        have hs : pm_step call M.2.2.2.1 M.2.2.2.2.2.1 (i, pl, st, hp) = pm_stL i pl st hp k := pm_step_some hop
        rw [hs] at h
        have hln := hlen
        obtain rfl : len = 2 := hln.elim (fun q => absurd (show (2 : Nat) = 0 from q) (by decide)) (fun q => q)
        obtain ⟨x, st2, rfl, h2⟩ := pm_stL_inv h
        have hk : pm_okl M.2.2.1 M.2.2.2.2.1 k = true := hck
        have hk1 : (k : Nat) + 1 < M.2.2.1 := by have := hk; unfold pm_okl at this; simp only [Bool.and_eq_true, decide_eq_true_eq] at this; exact this.1
        exact lv_lstore hx hb hdec hL.has hk1 rfl (fun ls2 hl2 => go h2 (hL.st2 (v := .long x) hk hl2) hN hP hS)
      | lstore_n k =>
        have hs : pm_step call M.2.2.2.1 M.2.2.2.2.2.1 (i, pl, st, hp) = pm_stL i pl st hp k := pm_step_some hop
        rw [hs] at h
        have hln := hlen
        obtain rfl : len = 1 := hln.elim (fun q => absurd (show (1 : Nat) = 0 from q) (by decide)) (fun q => q)
        obtain ⟨x, st2, rfl, h2⟩ := pm_stL_inv h
        have hk : pm_okl M.2.2.1 M.2.2.2.2.1 k = true := hck
        have hk1 : (k : Nat) + 1 < M.2.2.1 := by have := hk; unfold pm_okl at this; simp only [Bool.and_eq_true, decide_eq_true_eq] at this; exact this.1
        exact lv_lstore_n hx hb hdec rfl hL.has hk1 rfl (fun ls2 hl2 => go h2 (hL.st2 (v := .long x) hk hl2) hN hP hS)
      | iconst k =>
        have hs : pm_step call M.2.2.2.1 M.2.2.2.2.2.1 (i, pl, st, hp) = pm_cI i pl st hp v := pm_step_some hop
        rw [hs] at h
        have hln := hlen
        obtain rfl : len = 1 := hln.elim (fun q => absurd (show (1 : Nat) = 0 from q) (by decide)) (fun q => q)
        obtain ⟨x, rfl, h2⟩ := pm_cI_inv h
        have hk : Value.int x = .int (Int32.ofInt k) := of_decide_eq_true (show decide (Value.int x = .int (Int32.ofInt k)) = true from hck)
        exact lv_iconst hx hb hdec (Value.int.inj hk).symm (go h2 hL hN hP hS)
      | bipush k =>
        have hs : pm_step call M.2.2.2.1 M.2.2.2.2.2.1 (i, pl, st, hp) = pm_cI i pl st hp v := pm_step_some hop
        rw [hs] at h
        have hln := hlen
        obtain rfl : len = 2 := hln.elim (fun q => absurd (show (2 : Nat) = 0 from q) (by decide)) (fun q => q)
        obtain ⟨x, rfl, h2⟩ := pm_cI_inv h
        have hk : Value.int x = .int ((Int8.ofInt k).toInt32) := of_decide_eq_true (show decide (Value.int x = .int ((Int8.ofInt k).toInt32)) = true from hck)
        exact lv_bipush hx hb hdec (Value.int.inj hk).symm (go h2 hL hN hP hS)
      | sipush k =>
        have hs : pm_step call M.2.2.2.1 M.2.2.2.2.2.1 (i, pl, st, hp) = pm_cI i pl st hp v := pm_step_some hop
        rw [hs] at h
        have hln := hlen
        obtain rfl : len = 3 := hln.elim (fun q => absurd (show (3 : Nat) = 0 from q) (by decide)) (fun q => q)
        obtain ⟨x, rfl, h2⟩ := pm_cI_inv h
        have hk : Value.int x = .int ((Int16.ofInt k).toInt32) := of_decide_eq_true (show decide (Value.int x = .int ((Int16.ofInt k).toInt32)) = true from hck)
        exact lv_sipush hx hb hdec (Value.int.inj hk).symm (go h2 hL hN hP hS)
      | lconst k =>
        have hs : pm_step call M.2.2.2.1 M.2.2.2.2.2.1 (i, pl, st, hp) = pm_cL i pl st hp v := pm_step_some hop
        rw [hs] at h
        have hln := hlen
        obtain rfl : len = 1 := hln.elim (fun q => absurd (show (1 : Nat) = 0 from q) (by decide)) (fun q => q)
        obtain ⟨x, rfl, h2⟩ := pm_cL_inv h
        have hk : Value.long x = .long (Int64.ofNat (k : Nat)) := of_decide_eq_true (show decide (Value.long x = .long (Int64.ofNat (k : Nat))) = true from hck)
        exact lv_lconst hx hb hdec (Value.long.inj hk).symm (go h2 hL hN hP hS)
      | ldc_w k =>
        have hs : pm_step call M.2.2.2.1 M.2.2.2.2.2.1 (i, pl, st, hp) = pm_cI i pl st hp v := pm_step_some hop
        rw [hs] at h
        have hln := hlen
        obtain rfl : len = 3 := hln.elim (fun q => absurd (show (3 : Nat) = 0 from q) (by decide)) (fun q => q)
        obtain ⟨x, rfl, h2⟩ := pm_cI_inv h
        have hk : P.2.2.1[aux.getD 0 0]? = some (.constant M.1.cls k x) := of_decide_eq_true (show decide (P.2.2.1[aux.getD 0 0]? = some (.constant M.1.cls k x)) = true from hck)
        exact lv_ldcw hx hb hown (hts _ (List.mem_of_getElem? hk)) hdec (go h2 hL hN hP hS)
      | ldc2_w k =>
        have hs : pm_step call M.2.2.2.1 M.2.2.2.2.2.1 (i, pl, st, hp) = pm_cL i pl st hp v := pm_step_some hop
        rw [hs] at h
        have hln := hlen
        obtain rfl : len = 3 := hln.elim (fun q => absurd (show (3 : Nat) = 0 from q) (by decide)) (fun q => q)
        obtain ⟨x, rfl, h2⟩ := pm_cL_inv h
        have hk : P.2.2.1[aux.getD 0 0]? = some (.constantLong M.1.cls k x) := of_decide_eq_true (show decide (P.2.2.1[aux.getD 0 0]? = some (.constantLong M.1.cls k x)) = true from hck)
        exact lv_ldc2 hx hb hown (hts _ (List.mem_of_getElem? hk)) hdec (go h2 hL hN hP hS)
      | iadd =>
        have hs : pm_step call M.2.2.2.1 M.2.2.2.2.2.1 (i, pl, st, hp) = pm_b2 i pl st hp (fun x y => x + y) := pm_step_some hop
        rw [hs] at h
        have hln := hlen
        obtain rfl : len = 1 := hln.elim (fun q => absurd (show (1 : Nat) = 0 from q) (by decide)) (fun q => q)
        obtain ⟨x, y, st2, rfl, h2⟩ := pm_b2_inv h
        exact lv_iadd hx hb hdec (go h2 hL hN hP hS)
      | isub =>
        have hs : pm_step call M.2.2.2.1 M.2.2.2.2.2.1 (i, pl, st, hp) = pm_b2 i pl st hp (fun x y => x - y) := pm_step_some hop
        rw [hs] at h
        have hln := hlen
        obtain rfl : len = 1 := hln.elim (fun q => absurd (show (1 : Nat) = 0 from q) (by decide)) (fun q => q)
        obtain ⟨x, y, st2, rfl, h2⟩ := pm_b2_inv h
        exact lv_isub hx hb hdec (go h2 hL hN hP hS)
      | imul =>
        have hs : pm_step call M.2.2.2.1 M.2.2.2.2.2.1 (i, pl, st, hp) = pm_b2 i pl st hp (fun x y => x * y) := pm_step_some hop
        rw [hs] at h
        have hln := hlen
        obtain rfl : len = 1 := hln.elim (fun q => absurd (show (1 : Nat) = 0 from q) (by decide)) (fun q => q)
        obtain ⟨x, y, st2, rfl, h2⟩ := pm_b2_inv h
        exact lv_imul hx hb hdec (go h2 hL hN hP hS)
      | iand =>
        have hs : pm_step call M.2.2.2.1 M.2.2.2.2.2.1 (i, pl, st, hp) = pm_b2 i pl st hp (fun x y => x &&& y) := pm_step_some hop
        rw [hs] at h
        have hln := hlen
        obtain rfl : len = 1 := hln.elim (fun q => absurd (show (1 : Nat) = 0 from q) (by decide)) (fun q => q)
        obtain ⟨x, y, st2, rfl, h2⟩ := pm_b2_inv h
        exact lv_iand hx hb hdec (go h2 hL hN hP hS)
      | ior =>
        have hs : pm_step call M.2.2.2.1 M.2.2.2.2.2.1 (i, pl, st, hp) = pm_b2 i pl st hp (fun x y => x ||| y) := pm_step_some hop
        rw [hs] at h
        have hln := hlen
        obtain rfl : len = 1 := hln.elim (fun q => absurd (show (1 : Nat) = 0 from q) (by decide)) (fun q => q)
        obtain ⟨x, y, st2, rfl, h2⟩ := pm_b2_inv h
        exact lv_ior hx hb hdec (go h2 hL hN hP hS)
      | ishl =>
        have hs : pm_step call M.2.2.2.1 M.2.2.2.2.2.1 (i, pl, st, hp) = pm_b2 i pl st hp (fun x y => x <<< (y &&& 31)) := pm_step_some hop
        rw [hs] at h
        have hln := hlen
        obtain rfl : len = 1 := hln.elim (fun q => absurd (show (1 : Nat) = 0 from q) (by decide)) (fun q => q)
        obtain ⟨x, y, st2, rfl, h2⟩ := pm_b2_inv h
        exact lv_ishl hx hb hdec (go h2 hL hN hP hS)
      | ishr =>
        have hs : pm_step call M.2.2.2.1 M.2.2.2.2.2.1 (i, pl, st, hp) = pm_b2 i pl st hp (fun x y => x >>> (y &&& 31)) := pm_step_some hop
        rw [hs] at h
        have hln := hlen
        obtain rfl : len = 1 := hln.elim (fun q => absurd (show (1 : Nat) = 0 from q) (by decide)) (fun q => q)
        obtain ⟨x, y, st2, rfl, h2⟩ := pm_b2_inv h
        exact lv_ishr hx hb hdec (go h2 hL hN hP hS)
      | iushr =>
        have hs : pm_step call M.2.2.2.1 M.2.2.2.2.2.1 (i, pl, st, hp) = pm_b2 i pl st hp (fun x y => (x.toUInt32 >>> (y.toUInt32 &&& Int32.toUInt32 31)).toInt32) := pm_step_some hop
        rw [hs] at h
        have hln := hlen
        obtain rfl : len = 1 := hln.elim (fun q => absurd (show (1 : Nat) = 0 from q) (by decide)) (fun q => q)
        obtain ⟨x, y, st2, rfl, h2⟩ := pm_b2_inv h
        exact lv_iushr hx hb hdec rfl (go h2 hL hN hP hS)
      | idiv =>
        have hs : pm_step call M.2.2.2.1 M.2.2.2.2.2.1 (i, pl, st, hp) = pm_d2 i pl st hp (fun x y => x / y) := pm_step_some hop
        rw [hs] at h
        have hln := hlen
        obtain rfl : len = 1 := hln.elim (fun q => absurd (show (1 : Nat) = 0 from q) (by decide)) (fun q => q)
        obtain ⟨x, y, st2, rfl, hy, h2⟩ := pm_d2_inv h
        exact lv_idiv hx hb hdec hy (go h2 hL hN hP hS)
      | irem =>
        have hs : pm_step call M.2.2.2.1 M.2.2.2.2.2.1 (i, pl, st, hp) = pm_d2 i pl st hp (fun x y => x - x / y * y) := pm_step_some hop
        rw [hs] at h
        have hln := hlen
        obtain rfl : len = 1 := hln.elim (fun q => absurd (show (1 : Nat) = 0 from q) (by decide)) (fun q => q)
        obtain ⟨x, y, st2, rfl, hy, h2⟩ := pm_d2_inv h
        exact lv_irem hx hb hdec hy (go h2 hL hN hP hS)
      | ladd =>
        have hs : pm_step call M.2.2.2.1 M.2.2.2.2.2.1 (i, pl, st, hp) = pm_l2 i pl st hp (fun x y => x + y) := pm_step_some hop
        rw [hs] at h
        have hln := hlen
        obtain rfl : len = 1 := hln.elim (fun q => absurd (show (1 : Nat) = 0 from q) (by decide)) (fun q => q)
        obtain ⟨x, y, st2, rfl, h2⟩ := pm_l2_inv h
        exact lv_ladd hx hb hdec (go h2 hL hN hP hS)
      | lsub =>
        have hs : pm_step call M.2.2.2.1 M.2.2.2.2.2.1 (i, pl, st, hp) = pm_l2 i pl st hp (fun x y => x - y) := pm_step_some hop
        rw [hs] at h
        have hln := hlen
        obtain rfl : len = 1 := hln.elim (fun q => absurd (show (1 : Nat) = 0 from q) (by decide)) (fun q => q)
        obtain ⟨x, y, st2, rfl, h2⟩ := pm_l2_inv h
        exact lv_lsub hx hb hdec (go h2 hL hN hP hS)
      | lmul =>
        have hs : pm_step call M.2.2.2.1 M.2.2.2.2.2.1 (i, pl, st, hp) = pm_l2 i pl st hp (fun x y => x * y) := pm_step_some hop
        rw [hs] at h
        have hln := hlen
        obtain rfl : len = 1 := hln.elim (fun q => absurd (show (1 : Nat) = 0 from q) (by decide)) (fun q => q)
        obtain ⟨x, y, st2, rfl, h2⟩ := pm_l2_inv h
        exact lv_lmul hx hb hdec (go h2 hL hN hP hS)
      | ldiv =>
        have hs : pm_step call M.2.2.2.1 M.2.2.2.2.2.1 (i, pl, st, hp) = pm_e2 i pl st hp (fun x y => x / y) := pm_step_some hop
        rw [hs] at h
        have hln := hlen
        obtain rfl : len = 1 := hln.elim (fun q => absurd (show (1 : Nat) = 0 from q) (by decide)) (fun q => q)
        obtain ⟨x, y, st2, rfl, hy, h2⟩ := pm_e2_inv h
        exact lv_ldiv hx hb hdec hy (go h2 hL hN hP hS)
      | lrem =>
        have hs : pm_step call M.2.2.2.1 M.2.2.2.2.2.1 (i, pl, st, hp) = pm_e2 i pl st hp (fun x y => x - x / y * y) := pm_step_some hop
        rw [hs] at h
        have hln := hlen
        obtain rfl : len = 1 := hln.elim (fun q => absurd (show (1 : Nat) = 0 from q) (by decide)) (fun q => q)
        obtain ⟨x, y, st2, rfl, hy, h2⟩ := pm_e2_inv h
        exact lv_lrem hx hb hdec hy (go h2 hL hN hP hS)
      | ineg =>
        have hs : pm_step call M.2.2.2.1 M.2.2.2.2.2.1 (i, pl, st, hp) = pm_ng i pl st hp := pm_step_some hop
        rw [hs] at h
        have hln := hlen
        obtain rfl : len = 1 := hln.elim (fun q => absurd (show (1 : Nat) = 0 from q) (by decide)) (fun q => q)
        unfold pm_ng at h
        split at h
        · rename_i x st2
          exact lv_ineg hx hb hdec (go (st2 := .int (-x) :: st2) h hL hN hP hS)
        · cases h
      | lushr =>
        have hs : pm_step call M.2.2.2.1 M.2.2.2.2.2.1 (i, pl, st, hp) = pm_lu i pl st hp := pm_step_some hop
        rw [hs] at h
        have hln := hlen
        obtain rfl : len = 1 := hln.elim (fun q => absurd (show (1 : Nat) = 0 from q) (by decide)) (fun q => q)
        unfold pm_lu at h
        split at h
        · rename_i y x st2
          exact lv_lushr hx hb hdec rfl (go (st2 := .long (x.toUInt64 >>> (y.toInt64.toUInt64 &&& Int64.toUInt64 63)).toInt64 :: st2) h hL hN hP hS)
        · cases h
      | i2l =>
        have hs : pm_step call M.2.2.2.1 M.2.2.2.2.2.1 (i, pl, st, hp) = pm_il i pl st hp := pm_step_some hop
        rw [hs] at h
        have hln := hlen
        obtain rfl : len = 1 := hln.elim (fun q => absurd (show (1 : Nat) = 0 from q) (by decide)) (fun q => q)
        unfold pm_il at h
        split at h
        · rename_i x st2
          exact lv_i2l hx hb hdec rfl (go (st2 := .long x.toInt64 :: st2) h hL hN hP hS)
        · cases h
      | l2i =>
        have hs : pm_step call M.2.2.2.1 M.2.2.2.2.2.1 (i, pl, st, hp) = pm_li i pl st hp := pm_step_some hop
        rw [hs] at h
        have hln := hlen
        obtain rfl : len = 1 := hln.elim (fun q => absurd (show (1 : Nat) = 0 from q) (by decide)) (fun q => q)
        unfold pm_li at h
        split at h
        · rename_i x st2
          exact lv_l2i hx hb hdec rfl (go (st2 := .int x.toInt32 :: st2) h hL hN hP hS)
        · cases h
      | lcmp =>
        have hs : pm_step call M.2.2.2.1 M.2.2.2.2.2.1 (i, pl, st, hp) = pm_lc i pl st hp := pm_step_some hop
        rw [hs] at h
        have hln := hlen
        obtain rfl : len = 1 := hln.elim (fun q => absurd (show (1 : Nat) = 0 from q) (by decide)) (fun q => q)
        unfold pm_lc at h
        split at h
        · rename_i y x st2
          exact W.lcmp hx hb hdec (go (st2 := .int (lg_cmp x y) :: st2) h hL hN hP hS)
        · cases h
      | goto off =>
        have hs : pm_step call M.2.2.2.1 M.2.2.2.2.2.1 (i, pl, st, hp) = .inl (a, pl, st, hp) := pm_step_some hop
        rw [hs] at h
        have hln := hlen
        obtain rfl : len = 3 := hln.elim (fun q => absurd (show (3 : Nat) = 0 from q) (by decide)) (fun q => q)
        have hk : (pc : Int) + off = (pm_pc M.2.2.2.2.2.1 a : Int) := of_decide_eq_true (show decide ((pc : Int) + off = (pm_pc M.2.2.2.2.2.1 a : Int)) = true from hck)
        exact lv_goto hx hb hdec hk (ih a pl st hp ls H locs h hL hN hP hS)
      | ifCond cd off =>
        have hk : (pc : Int) + off = (pm_pc M.2.2.2.2.2.1 a : Int) := of_decide_eq_true (show decide ((pc : Int) + off = (pm_pc M.2.2.2.2.2.1 a : Int)) = true from hck)
        have hln := hlen
        obtain rfl : len = 3 := hln.elim (fun q => absurd (show (3 : Nat) = 0 from q) (by decide)) (fun q => q)
        cases cd with
        | eq =>
          have hs : pm_step call M.2.2.2.1 M.2.2.2.2.2.1 (i, pl, st, hp) = pm_i1 i pl st hp a (fun x t f => if x = 0 then t else f) := pm_step_some hop
          rw [hs] at h
          obtain ⟨x, st2, rfl, h2⟩ := pm_i1_inv h
          try dsimp only at h2
          exact lv_if_eq hx hb hdec hk (fun q => ih a pl st2 hp ls H locs (by rw [if_pos q] at h2; exact h2) hL hN hP hS) (fun q => go (by rw [if_neg q] at h2; exact h2) hL hN hP hS)
        | ne =>
          have hs : pm_step call M.2.2.2.1 M.2.2.2.2.2.1 (i, pl, st, hp) = pm_i1 i pl st hp a (fun x t f => if x = 0 then f else t) := pm_step_some hop
          rw [hs] at h
          obtain ⟨x, st2, rfl, h2⟩ := pm_i1_inv h
          try dsimp only at h2
          exact lv_if_ne hx hb hdec hk (fun q => ih a pl st2 hp ls H locs (by rw [if_neg q] at h2; exact h2) hL hN hP hS) (fun q => go (by rw [if_pos q] at h2; exact h2) hL hN hP hS)
        | lt =>
          have hs : pm_step call M.2.2.2.1 M.2.2.2.2.2.1 (i, pl, st, hp) = pm_i1 i pl st hp a (fun x t f => if x < 0 then t else f) := pm_step_some hop
          rw [hs] at h
          obtain ⟨x, st2, rfl, h2⟩ := pm_i1_inv h
          try dsimp only at h2
          exact lv_if_lt hx hb hdec hk (fun q => ih a pl st2 hp ls H locs (by rw [if_pos q] at h2; exact h2) hL hN hP hS) (fun q => go (by rw [if_neg q] at h2; exact h2) hL hN hP hS)
        | ge =>
          have hs : pm_step call M.2.2.2.1 M.2.2.2.2.2.1 (i, pl, st, hp) = pm_i1 i pl st hp a (fun x t f => if x < 0 then f else t) := pm_step_some hop
          rw [hs] at h
          obtain ⟨x, st2, rfl, h2⟩ := pm_i1_inv h
          try dsimp only at h2
          exact lv_if_ge hx hb hdec hk (fun q => ih a pl st2 hp ls H locs (by rw [if_neg (Int32.not_lt.mpr q)] at h2; exact h2) hL hN hP hS) (fun q => go (by rw [if_pos (Int32.not_le.mp q)] at h2; exact h2) hL hN hP hS)
        | gt =>
          have hs : pm_step call M.2.2.2.1 M.2.2.2.2.2.1 (i, pl, st, hp) = pm_i1 i pl st hp a (fun x t f => if 0 < x then t else f) := pm_step_some hop
          rw [hs] at h
          obtain ⟨x, st2, rfl, h2⟩ := pm_i1_inv h
          try dsimp only at h2
          exact lv_if_gt hx hb hdec hk (fun q => ih a pl st2 hp ls H locs (by rw [if_pos q] at h2; exact h2) hL hN hP hS) (fun q => go (by rw [if_neg q] at h2; exact h2) hL hN hP hS)
        | le =>
          have hs : pm_step call M.2.2.2.1 M.2.2.2.2.2.1 (i, pl, st, hp) = pm_i1 i pl st hp a (fun x t f => if 0 < x then f else t) := pm_step_some hop
          rw [hs] at h
          obtain ⟨x, st2, rfl, h2⟩ := pm_i1_inv h
          try dsimp only at h2
          exact lv_if_le hx hb hdec hk (fun q => ih a pl st2 hp ls H locs (by rw [if_neg (Int32.not_lt.mpr q)] at h2; exact h2) hL hN hP hS) (fun q => go (by rw [if_pos (Int32.not_le.mp q)] at h2; exact h2) hL hN hP hS)
      | if_icmp cd off =>
        have hk : (pc : Int) + off = (pm_pc M.2.2.2.2.2.1 a : Int) := of_decide_eq_true (show decide ((pc : Int) + off = (pm_pc M.2.2.2.2.2.1 a : Int)) = true from hck)
        have hln := hlen
        obtain rfl : len = 3 := hln.elim (fun q => absurd (show (3 : Nat) = 0 from q) (by decide)) (fun q => q)
        cases cd with
        | eq =>
          have hs : pm_step call M.2.2.2.1 M.2.2.2.2.2.1 (i, pl, st, hp) = pm_i2 i pl st hp a (fun x y t f => if x = y then t else f) := pm_step_some hop
          rw [hs] at h
          obtain ⟨x, y, st2, rfl, h2⟩ := pm_i2_inv h
          try dsimp only at h2
          exact lv_icmp_eq hx hb hdec hk (fun q => ih a pl st2 hp ls H locs (by rw [if_pos q] at h2; exact h2) hL hN hP hS) (fun q => go (by rw [if_neg q] at h2; exact h2) hL hN hP hS)
        | ne =>
          have hs : pm_step call M.2.2.2.1 M.2.2.2.2.2.1 (i, pl, st, hp) = pm_i2 i pl st hp a (fun x y t f => if x = y then f else t) := pm_step_some hop
          rw [hs] at h
          obtain ⟨x, y, st2, rfl, h2⟩ := pm_i2_inv h
          try dsimp only at h2
          exact lv_icmp_ne hx hb hdec hk (fun q => ih a pl st2 hp ls H locs (by rw [if_neg q] at h2; exact h2) hL hN hP hS) (fun q => go (by rw [if_pos q] at h2; exact h2) hL hN hP hS)
        | lt =>
          have hs : pm_step call M.2.2.2.1 M.2.2.2.2.2.1 (i, pl, st, hp) = pm_i2 i pl st hp a (fun x y t f => if x < y then t else f) := pm_step_some hop
          rw [hs] at h
          obtain ⟨x, y, st2, rfl, h2⟩ := pm_i2_inv h
          try dsimp only at h2
          exact lv_icmp_lt hx hb hdec hk (fun q => ih a pl st2 hp ls H locs (by rw [if_pos q] at h2; exact h2) hL hN hP hS) (fun q => go (by rw [if_neg q] at h2; exact h2) hL hN hP hS)
        | ge =>
          have hs : pm_step call M.2.2.2.1 M.2.2.2.2.2.1 (i, pl, st, hp) = pm_i2 i pl st hp a (fun x y t f => if x < y then f else t) := pm_step_some hop
          rw [hs] at h
          obtain ⟨x, y, st2, rfl, h2⟩ := pm_i2_inv h
          try dsimp only at h2
          exact lv_icmp_ge hx hb hdec hk (fun q => ih a pl st2 hp ls H locs (by rw [if_neg (Int32.not_lt.mpr q)] at h2; exact h2) hL hN hP hS) (fun q => go (by rw [if_pos (Int32.not_le.mp q)] at h2; exact h2) hL hN hP hS)
        | gt =>
          have hs : pm_step call M.2.2.2.1 M.2.2.2.2.2.1 (i, pl, st, hp) = pm_i2 i pl st hp a (fun x y t f => if y < x then t else f) := pm_step_some hop
          rw [hs] at h
          obtain ⟨x, y, st2, rfl, h2⟩ := pm_i2_inv h
          try dsimp only at h2
          exact lv_icmp_gt hx hb hdec hk (fun q => ih a pl st2 hp ls H locs (by rw [if_pos q] at h2; exact h2) hL hN hP hS) (fun q => go (by rw [if_neg q] at h2; exact h2) hL hN hP hS)
        | le =>
          have hs : pm_step call M.2.2.2.1 M.2.2.2.2.2.1 (i, pl, st, hp) = pm_i2 i pl st hp a (fun x y t f => if y < x then f else t) := pm_step_some hop
          rw [hs] at h
          obtain ⟨x, y, st2, rfl, h2⟩ := pm_i2_inv h
          try dsimp only at h2
          exact lv_icmp_le hx hb hdec hk (fun q => ih a pl st2 hp ls H locs (by rw [if_neg (Int32.not_lt.mpr q)] at h2; exact h2) hL hN hP hS) (fun q => go (by rw [if_pos (Int32.not_le.mp q)] at h2; exact h2) hL hN hP hS)
      | iinc k z =>
        have hs : pm_step call M.2.2.2.1 M.2.2.2.2.2.1 (i, pl, st, hp) = pm_ii i pl st hp k v := pm_step_some hop
        rw [hs] at h
        unfold pm_ii at h
        have hln := hlen
        obtain rfl : len = 3 := hln.elim (fun q => absurd (show (3 : Nat) = 0 from q) (by decide)) (fun q => q)
        have hk0 : (pm_oks M.2.2.1 M.2.2.2.2.1 k && decide (v = .int (Int32.ofInt z))) = true := hck
        simp only [Bool.and_eq_true, decide_eq_true_eq] at hk0
        obtain ⟨hk, rfl⟩ := hk0
        have hk1 : k < M.2.2.1 := by have := hk; unfold pm_oks at this; simp only [Bool.and_eq_true, decide_eq_true_eq] at this; exact this.1
        split at h
        · rename_i x hx1
          have hx2 : pl[k]? = some (some (.int x)) := by
            unfold pm_ld at hx1
            split at hx1
            · rename_i u hu; cases hx1; exact hu
            · cases hx1
          obtain ⟨j, hj⟩ := List.getElem?_of_mem (pm_lv_mem (ad := ad) hx2)
          exact lv_iinc hx hb hdec hL.has hj rfl hk1 rfl (fun ls2 hl2 => go (pl2 := pl.set k (some (.int (x + Int32.ofInt z)))) (st2 := st) h (hL.st1 (v := .int (x + Int32.ofInt z)) hk rfl hl2) hN hP hS)
        · cases h
      | tableswitch df lo hi offs =>
        have hs : pm_step call M.2.2.2.1 M.2.2.2.2.2.1 (i, pl, st, hp) = pm_ts pl st hp a sw := pm_step_some hop
        rw [hs] at h
        unfold pm_ts at h
        have hk0 : (decide ((pc : Int) + df = (pm_pc M.2.2.2.2.2.1 a : Int)) && (decide (hi + 1 = lo + offs.toList.length) && pm_swT M.2.2.2.2.2.1 pc lo sw offs.toList)) = true := hck
        simp only [Bool.and_eq_true, decide_eq_true_eq] at hk0
        split at h
        · rename_i x st2
          rcases pm_swT_to (k := fun t => .inl (t, pl, st2, hp)) (x := x) (d := a) sw offs.toList lo hk0.2.2 with ⟨t, off, h1, h2, h3, h4, h5⟩ | ⟨h1, h2⟩
          · rw [h1] at h
            exact lv_tableIn hx hb hdec h2 (by omega) (by rw [← Array.getElem?_toList]; exact h4) h5 (ih t pl st2 hp ls H locs h hL hN hP hS)
          · rw [h1] at h
            exact lv_tableOut hx hb hdec (by omega) hk0.1 (ih a pl st2 hp ls H locs h hL hN hP hS)
        · cases h
      | lookupswitch df ps =>
        have hs : pm_step call M.2.2.2.1 M.2.2.2.2.2.1 (i, pl, st, hp) = pm_ts pl st hp a sw := pm_step_some hop
        rw [hs] at h
        unfold pm_ts at h
        have hk0 : (decide ((pc : Int) + df = (pm_pc M.2.2.2.2.2.1 a : Int)) && ((ps.toList.zip (ps.toList.drop 1)).all (fun (a, next) => a.1 < next.1) && pm_swL M.2.2.2.2.2.1 pc sw ps.toList)) = true := hck
        rw [Bool.and_eq_true, Bool.and_eq_true, decide_eq_true_eq] at hk0
        split at h
        · rename_i x st2
          obtain ⟨t, h1, h2⟩ := pm_swL_to hk0.1 (k := fun t => .inl (t, pl, st2, hp)) (x := x) sw ps.toList hk0.2.2
          rw [h1] at h
          exact lv_lookup hx hb hdec hk0.2.1 rfl h2 (ih t pl st2 hp ls H locs h hL hN hP hS)
        · cases h
      | dup =>
        have hs : pm_step call M.2.2.2.1 M.2.2.2.2.2.1 (i, pl, st, hp) = pm_du i pl st hp := pm_step_some hop
        rw [hs] at h
        have hln := hlen
        obtain rfl : len = 1 := hln.elim (fun q => absurd (show (1 : Nat) = 0 from q) (by decide)) (fun q => q)
        unfold pm_du at h
        split at h
        · rename_i x st2
          exact lv_dup (va := .int x) hx hb hdec rfl (go (st2 := .int x :: .int x :: st2) h hL hN hP hS)
        · rename_i x st2
          exact lv_dup (va := .ref (ad x)) hx hb hdec rfl (go (st2 := .ref x :: .ref x :: st2) h hL hN hP hS)
        · cases h
      | dup2 =>
        have hs : pm_step call M.2.2.2.1 M.2.2.2.2.2.1 (i, pl, st, hp) = pm_dd i pl st hp := pm_step_some hop
        rw [hs] at h
        have hln := hlen
        obtain rfl : len = 1 := hln.elim (fun q => absurd (show (1 : Nat) = 0 from q) (by decide)) (fun q => q)
        unfold pm_dd at h
        split at h
        · rename_i x y st2
          exact lv_dup2_11 (va := .int x) (vb := .ref (ad y)) hx hb hdec rfl rfl (go (st2 := .int x :: .ref y :: .int x :: .ref y :: st2) h hL hN hP hS)
        · rename_i x st2
          exact lv_dup2_2 (va := .long x) hx hb hdec rfl (go (st2 := .long x :: .long x :: st2) h hL hN hP hS)
        · cases h
      | pop =>
        have hs : pm_step call M.2.2.2.1 M.2.2.2.2.2.1 (i, pl, st, hp) = pm_po i pl st hp := pm_step_some hop
        rw [hs] at h
        have hln := hlen
        obtain rfl : len = 1 := hln.elim (fun q => absurd (show (1 : Nat) = 0 from q) (by decide)) (fun q => q)
        unfold pm_po at h
        split at h
        · rename_i x st2
          exact lv_pop (va := .int x) hx hb hdec rfl (go (st2 := st2) h hL hN hP hS)
        · cases h
      | getfield k =>
        have hs : pm_step call M.2.2.2.1 M.2.2.2.2.2.1 (i, pl, st, hp) = pm_gf i pl st hp a aux := pm_step_some hop
        rw [hs] at h
        have hln := hlen
        obtain rfl : len = 3 := hln.elim (fun q => absurd (show (3 : Nat) = 0 from q) (by decide)) (fun q => q)
        obtain ⟨x, st2, fs, u, rfl, h1, h2, h3⟩ := pm_gf_inv h
        cases hq : P.2.1[aux.getD 0 0]? with
        | none => unfold pm_chk at hck; dsimp only at hck; rw [hq] at hck; cases hck
        | some q =>
          have hk : (decide (a < q.2.2) && decide (P.2.2.1[aux.getD 1 0]? = some (.fieldLink M.1.cls k (q.2.1 a).1 (q.2.1 a).2.1 (q.2.1 a).2.2.1))) = true := by unfold pm_chk at hck; dsimp only at hck; rw [hq] at hck; exact hck
          simp only [Bool.and_eq_true, decide_eq_true_eq] at hk
          obtain ⟨q1, q2, q3⟩ := q
          exact va_get (D := D) (ci := aux.getD 0 0) (v := pm_vm ad u) (C := q1) (T := q2) (N := q3) hx hb hts ((hok2 _ (List.mem_of_getElem? hq)).1) hown hK hP x (pm_ws_at h1) hq a hk.1 (hts _ (List.mem_of_getElem? hk.2)) (fun _ h9 => h9) (by rw [List.getElem?_map, h2]; rfl) hdec (go h3 hL hN hP hS)
      | putfield k =>
        have hs : pm_step call M.2.2.2.1 M.2.2.2.2.2.1 (i, pl, st, hp) = pm_pf i pl st hp a v aux := pm_step_some hop
        rw [hs] at h
        have hln := hlen
        obtain rfl : len = 3 := hln.elim (fun q => absurd (show (3 : Nat) = 0 from q) (by decide)) (fun q => q)
        obtain ⟨u, x, st2, fs, rfl, hw, h1, h2, h3⟩ := pm_pf_inv h
        cases hq : P.2.1[aux.getD 0 0]? with
        | none => unfold pm_chk at hck; dsimp only at hck; rw [hq] at hck; cases hck
        | some q =>
          have hk : (decide (a < q.2.2) && (decide (P.2.2.1[aux.getD 1 0]? = some (.fieldLink M.1.cls k (q.2.1 a).1 (q.2.1 a).2.1 (q.2.1 a).2.2.1)) && (decide ((q.2.1 a).2.2.2 = false) && pm_fty v (parseFieldDescriptor (q.2.1 a).2.2.1)))) = true := by unfold pm_chk at hck; dsimp only at hck; rw [hq] at hck; exact hck
          rw [Bool.and_eq_true, Bool.and_eq_true, Bool.and_eq_true, decide_eq_true_eq, decide_eq_true_eq, decide_eq_true_eq] at hk
          obtain ⟨q1, q2, q3⟩ := q
          have hc := hok2 _ (List.mem_of_getElem? hq)
          have hset : ∀ w : Value, (pm_ws ad cA hp).set x (ad x, .inr (aux.getD 0 0, (fs.map (pm_vm ad)).set a (pm_vm ad w))) = pm_ws ad cA (hp.set x (.inr (aux.getD 0 0, fs.set a w))) := by
            intro w
            rw [← List.map_set]
            exact pm_ws_set (x := .inr (aux.getD 0 0, fs.set a w))
          have hlN : (hp.set x (.inr (aux.getD 0 0, fs.set a u))).length = N := by rw [List.length_set]; exact hN
          have hty : ∀ k1, k1 < q3 → parseFieldDescriptor (q2 k1).2.2.1 = some ((parseFieldDescriptor (q2 k1).2.2.1).getD .int) := by
            intro k1 hk1
            have := hc.2.1 k1 hk1
            dsimp only at this
            cases hz : parseFieldDescriptor (q2 k1).2.2.1 with
            | none => rw [hz] at this; cases this
            | some z => rfl
          rcases hw with ⟨y, z, rfl, rfl⟩ | ⟨y, z, rfl, rfl⟩
          · refine va_put (D := D) (ci := aux.getD 0 0) (v := .int y) (ty := .int) (C := q1) (T := q2) (N := q3) hx hb hts hc.1 (fun k1 => (parseFieldDescriptor (q2 k1).2.2.1).getD .int) hty hc.2.2 hown hK hP hD hS x (pm_ws_at h1) hq a hk.1 (hts _ (List.mem_of_getElem? hk.2.1)) (fun _ h9 => h9) hk.2.2.1 (of_decide_eq_true hk.2.2.2) rfl rfl (by rw [List.length_map]; exact h2) hdec (fun H1 locs1 hP1 _ hS1 => ?_)
            rw [show (Value.int y) = pm_vm ad (.int y) from rfl, hset] at hP1
            exact go h3 hL hlN hP1 hS1
          · refine va_put (D := D) (ci := aux.getD 0 0) (v := .long y) (ty := .long) (C := q1) (T := q2) (N := q3) hx hb hts hc.1 (fun k1 => (parseFieldDescriptor (q2 k1).2.2.1).getD .int) hty hc.2.2 hown hK hP hD hS x (pm_ws_at h1) hq a hk.1 (hts _ (List.mem_of_getElem? hk.2.1)) (fun _ h9 => h9) hk.2.2.1 (of_decide_eq_true hk.2.2.2) rfl rfl (by rw [List.length_map]; exact h2) hdec (fun H1 locs1 hP1 _ hS1 => ?_)
            rw [show (Value.long y) = pm_vm ad (.long y) from rfl, hset] at hP1
            exact go h3 hL hlN hP1 hS1
      | iaload =>
        have hs : pm_step call M.2.2.2.1 M.2.2.2.2.2.1 (i, pl, st, hp) = pm_al i pl st hp 0 := pm_step_some hop
        rw [hs] at h
        have hln := hlen
        obtain rfl : len = 1 := hln.elim (fun q => absurd (show (1 : Nat) = 0 from q) (by decide)) (fun q => q)
        obtain ⟨j, x, st2, n1, f, rfl, h1, h2, h3⟩ := pm_al_inv h
        exact va_iald (D := D) hx hb hK hP x 0 (pm_ws_at h1) rfl h2 hdec (go h3 hL hN hP hS)
      | baload =>
        have hs : pm_step call M.2.2.2.1 M.2.2.2.2.2.1 (i, pl, st, hp) = pm_al i pl st hp 1 := pm_step_some hop
        rw [hs] at h
        have hln := hlen
        obtain rfl : len = 1 := hln.elim (fun q => absurd (show (1 : Nat) = 0 from q) (by decide)) (fun q => q)
        obtain ⟨j, x, st2, n1, f, rfl, h1, h2, h3⟩ := pm_al_inv h
        exact va_zald (D := D) hx hb hK hP x 1 (pm_ws_at h1) rfl h2 hdec (go h3 hL hN hP hS)
      | iastore =>
        have hs : pm_step call M.2.2.2.1 M.2.2.2.2.2.1 (i, pl, st, hp) = pm_as i pl st hp 0 (fun x => x) := pm_step_some hop
        rw [hs] at h
        have hln := hlen
        obtain rfl : len = 1 := hln.elim (fun q => absurd (show (1 : Nat) = 0 from q) (by decide)) (fun q => q)
        obtain ⟨y, j, x, st2, n1, f, rfl, h1, h2, h3⟩ := pm_as_inv h
        refine va_iast (D := D) hx hb hK hP hD hS x 0 (pm_ws_at h1) rfl h2 hdec (fun H1 locs1 hP1 _ hS1 => ?_)
        refine go h3 hL (by rw [List.length_set]; exact hN) ?_ hS1
        rw [← pm_ws_set]
        exact hP1
      | bastore =>
        have hs : pm_step call M.2.2.2.1 M.2.2.2.2.2.1 (i, pl, st, hp) = pm_as i pl st hp 1 (fun x => vp_nar .boolean x) := pm_step_some hop
        rw [hs] at h
        have hln := hlen
        obtain rfl : len = 1 := hln.elim (fun q => absurd (show (1 : Nat) = 0 from q) (by decide)) (fun q => q)
        obtain ⟨y, j, x, st2, n1, f, rfl, h1, h2, h3⟩ := pm_as_inv h
        refine va_zast (D := D) hx hb hK hP hD hS x 1 (pm_ws_at h1) rfl h2 hdec (fun H1 locs1 hP1 _ hS1 => ?_)
        refine go h3 hL (by rw [List.length_set]; exact hN) ?_ hS1
        rw [← pm_ws_set]
        exact hP1
      | arraylength =>
        have hs : pm_step call M.2.2.2.1 M.2.2.2.2.2.1 (i, pl, st, hp) = pm_len i pl st hp := pm_step_some hop
        rw [hs] at h
        have hln := hlen
        obtain rfl : len = 1 := hln.elim (fun q => absurd (show (1 : Nat) = 0 from q) (by decide)) (fun q => q)
        obtain ⟨x, st2, t, n1, f, rfl, h1, h2, h3⟩ := pm_len_inv h
        have ht : ∃ ty, (pm_tys cA)[t]? = some (cA t, ty) := by
          rcases (show t = 0 ∨ t = 1 by omega) with rfl | rfl
          · exact ⟨_, rfl⟩
          · exact ⟨_, rfl⟩
        obtain ⟨ty, ht⟩ := ht
        exact va_alen (D := D) hx hb hK hP x t (pm_ws_at h1) ht rfl hdec (go h3 hL hN hP hS)
      | invokevirtual k =>
        have hs : pm_step call M.2.2.2.1 M.2.2.2.2.2.1 (i, pl, st, hp) = pm_iv call i pl st hp a aux := pm_step_some hop
        rw [hs] at h
        have hln := hlen
        obtain rfl : len = 3 := hln.elim (fun q => absurd (show (3 : Nat) = 0 from q) (by decide)) (fun q => q)
        have hA : ∀ q, pm_A ad N H.size q → pm_A ad N s.heap.size q := fun q hq => hq.elim Or.inl (fun z => Or.inr (Nat.le_trans hS.1 z))
        obtain ⟨x, rest, fs, r1, hp2, h1, h2, h3, h4, h5⟩ := pm_iv_inv h
        cases hk0 : P.1[a]? with
        | none => unfold pm_chk at hck; dsimp only at hck; rw [hk0] at hck; cases hck
        | some K =>
          cases hq : P.2.1[aux.getD 1 0]? with
          | none => unfold pm_chk at hck; dsimp only at hck; rw [hk0] at hck; dsimp only at hck; rw [hq] at hck; cases hck
          | some q =>
            have hk : (decide (q.1 = K.1.cls) && (decide (P.2.2.1[aux.getD 2 0]? = some (.methodLink M.1.cls k K.1)) && (decide ((parseMethodDescriptor K.1.desc).map (fun d => d.parameters.length) = some (aux.getD 0 0)) &&
                  (decide (P.2.2.1[K.2.2.2.2.2.2.getD 2 0]? = some (.instanceMethod K.1)) && decide (P.2.2.1[K.2.2.2.2.2.2.getD 3 0]? = some (.selects K.1.cls K.1 K.1)))))) = true := by unfold pm_chk at hck; dsimp only at hck; rw [hk0] at hck; dsimp only at hck; rw [hq] at hck; exact hck
            simp only [Bool.and_eq_true, decide_eq_true_eq] at hk
            obtain ⟨g1, g2, g3, g4, g5⟩ := hk
            have hKM := hok3 K (List.mem_of_getElem? hk0)
            obtain ⟨j1, j2, j3, j4, j5, j6, -, -⟩ := pm_okM_to hKM
            obtain ⟨hN2, hMet⟩ := hcall a K _ hp hp2 r1 hk0 h4 hN
            have hlt : (st.take (aux.getD 0 0)).length = aux.getD 0 0 := by
              have : (st.drop (aux.getD 0 0)).length = rest.length + 1 := by rw [h1]; rfl
              rw [List.length_drop] at this
              rw [List.length_take]
              omega
            have hcb : CallB (pm_rm (d + 1)) s args M.1.cls k K.1 K.2.1 K.2.2.1 K.2.2.2.1 (.code K.1 K.2.1 K.2.2.1 K.2.2.2.1 :: P.2.2.1) (pm_rm d) 0 0 (aux.getD 0 0) := callB_of (aux.getD 0 0) hts (hws hKM) rfl rfl rfl (hts _ j5) (hts _ (List.mem_of_getElem? g2)) ⟨j2, j3, g3⟩ ⟨Nat.le_refl _, by show 8 + (K.2.2.1 + 11) + 64 * d ≤ 64 * (d + 1); omega⟩
            have hrun := va_runV (e := e) (below := below) (meth := meth) (H := H) (locs := locs) (cells := 0) (slots := 0) (g := F0 m pc ls (st.map (pm_vm ad))) (b := ad x) (C := K.1.cls) (As := ((st.take (aux.getD 0 0)).reverse).map (pm_vm ad)) (rest := rest.map (pm_vm ad)) ⟨hx, hb, hml, hown, hts⟩ (hMet H.size) ⟨hcb, hts _ (List.mem_of_getElem? g4), hts _ (List.mem_of_getElem? g5)⟩
              ⟨pm_blind D P.2.1 P.2.2.2 ad cA hp H.size _, by rw [← g1]; exact va_recv hK hP hq (pm_ws_at h2), fun U hU hW => ⟨rfl, by rw [hU], by rw [hU]; exact hP, va_K.moved hW.alike hK, hNW.warm hW⟩⟩
              rfl (by rw [List.length_map, List.length_reverse, hlt]) hsl (by
                show st.map (pm_vm ad) = _
                rw [List.map_reverse, List.reverse_reverse]
                conv => lhs; rw [← List.take_append_drop (aux.getD 0 0) st, h1]
                rw [List.map_append]
                rfl) (by
                refine lv_room (Nat.le_trans (?_ : _ ≤ 2 * rest.length) (by omega))
                clear h1 h2 h3 h4 h5 hcb hlt
                induction rest with
                | nil => exact Nat.le_refl _
                | cons y ys ihy =>
                  rw [List.map_cons, List.map_cons, List.sum_cons, List.length_cons]
                  have := lv_cat (pm_vm ad y)
                  omega) hdec ⟨Nat.le_refl _, Nat.le_refl _⟩
            refine pm_call hrun hS hA hA (fun H1 locs1 hP1 hS1 => ?_)
            have h6 := go (st2 := r1.toList ++ rest) h5 hL hN2 hP1 hS1
            have e1 : (r1.map (pm_vm ad)).toList ++ rest.map (pm_vm ad) = (r1.toList ++ rest).map (pm_vm ad) := by cases r1 <;> rfl
            rw [e1]
            exact h6
      | invokestatic k =>
        have hln := hlen
        obtain rfl : len = 3 := hln.elim (fun q => absurd (show (3 : Nat) = 0 from q) (by decide)) (fun q => q)
        have hA : ∀ q, pm_A ad N H.size q → pm_A ad N s.heap.size q := fun q hq => hq.elim Or.inl (fun z => Or.inr (Nat.le_trans hS.1 z))
        cases v with
        | null =>
          have hs : pm_step call M.2.2.2.1 M.2.2.2.2.2.1 (i, pl, st, hp) = pm_cp i pl st hp := pm_step_some hop
          rw [hs] at h
          obtain ⟨n1, dp, dd, sp, x, st2, n0, f, n2, g, rfl, h1, h2, h3, h4⟩ := pm_cp_inv h
          have hk : (decide (P.2.2.1[aux.getD 0 0]? = some (.methodLink M.1.cls k arraycopyName)) && (decide (P.2.2.1[aux.getD 1 0]? = some (.native arraycopyName)) && (decide (P.2.2.1[aux.getD 2 0]? = some (.static arraycopyName)) && decide (P.2.2.1[aux.getD 3 0]? = some (.initialized "java/lang/System"))))) = true := hck
          simp only [Bool.and_eq_true, decide_eq_true_eq] at hk
          obtain ⟨k1, k2, k3, k4, k5, k6⟩ := h3
          have hroom : ∀ rest : List Value, rest.length ≤ 4 → ((rest.map (pm_vm ad)).map fun v => v.category).sum ≤ 8 := by
            intro rest h9
            refine Nat.le_trans (?_ : _ ≤ 2 * rest.length) (by omega)
            clear h9
            induction rest with
            | nil => exact Nat.le_refl _
            | cons y ys ihy =>
              rw [List.map_cons, List.map_cons, List.sum_cons, List.length_cons]
              have := lv_cat (pm_vm ad y)
              omega
          refine va_copyi (D := D) (A := pm_A ad N s.heap.size) hx hb (by rw [hml, hsl]) hown (hts _ (List.mem_of_getElem? hk.1)) (hts _ (List.mem_of_getElem? hk.2.1)) (hts _ (List.mem_of_getElem? hk.2.2.1)) (hts _ (List.mem_of_getElem? hk.2.2.2)) hK hP hD hS x dd 0 0 (pm_ws_at h1) (pm_ws_at h2) rfl rfl rfl k1 k2 k3 k4 k5 (fun _ _ => rfl) (Nat.succ_le_succ (Nat.zero_le d)) ?_ hdec (fun H1 locs1 hP1 _ hS1 => ?_)
          · have := hroom st2 k6
            have e9 : nativeFrameWords "java/lang/System" "arraycopy" 5 = 7 := by decide +kernel
            rw [e9]
            show _ ≤ 64 * (d + 1)
            omega
          · refine go (st2 := st2) h4 hL (by rw [List.length_set]; exact hN) ?_ hS1
            rw [← pm_ws_set]
            exact hP1
        | ref z =>
          have hs : pm_step call M.2.2.2.1 M.2.2.2.2.2.1 (i, pl, st, hp) = pm_mx i pl st hp z := pm_step_some hop
          rw [hs] at h
          obtain ⟨x, y, st2, rfl, h1, h2⟩ := pm_mx_inv h
          unfold pm_chk at hck
          dsimp only at hck
          simp only [Bool.or_eq_true, Bool.and_eq_true, decide_eq_true_eq] at hck
          have hroom : ∀ rest : List Value, rest.length ≤ 4 → ((rest.map (pm_vm ad)).map fun v => v.category).sum ≤ 8 := by
            intro rest h9
            refine Nat.le_trans (?_ : _ ≤ 2 * rest.length) (by omega)
            clear h9
            induction rest with
            | nil => exact Nat.le_refl _
            | cons y ys ihy =>
              rw [List.map_cons, List.map_cons, List.sum_cons, List.length_cons]
              have := lv_cat (pm_vm ad y)
              omega
          have hro : ∀ rest : List Value, rest.length ≤ 4 → ((rest.map (pm_vm ad)).map fun v => v.category).sum + 13 ≤ (pm_rm (d + 1)).locals := by
            intro rest h9
            have := hroom rest h9
            show _ ≤ 64 * (d + 1)
            omega
          rcases h2 with ⟨rfl, h2⟩ | ⟨rfl, h2⟩
          · rcases hck with ⟨-, g1, g2, g3, g4⟩ | ⟨g0, -⟩
            · exact va_mmax hx hb (by rw [hml, hsl]) hown (hts _ (List.mem_of_getElem? g1)) (hts _ (List.mem_of_getElem? g2)) (hts _ (List.mem_of_getElem? g3)) (hts _ (List.mem_of_getElem? g4)) (Nat.succ_le_succ (Nat.zero_le d)) (hro st2 h1) (Nat.zero_le _) (Nat.zero_le _) hdec (go (st2 := .int (if x < y then y else x) :: st2) h2 hL hN hP hS)
            · cases g0
          · rcases hck with ⟨g0, -⟩ | ⟨-, g1, g2, g3, g4⟩
            · cases g0
            · exact va_mmin hx hb (by rw [hml, hsl]) hown (hts _ (List.mem_of_getElem? g1)) (hts _ (List.mem_of_getElem? g2)) (hts _ (List.mem_of_getElem? g3)) (hts _ (List.mem_of_getElem? g4)) (Nat.succ_le_succ (Nat.zero_le d)) (hro st2 h1) (Nat.zero_le _) (Nat.zero_le _) hdec (go (st2 := .int (if y < x then y else x) :: st2) h2 hL hN hP hS)
        | float z =>
          have hs : pm_step call M.2.2.2.1 M.2.2.2.2.2.1 (i, pl, st, hp) = pm_ab i pl st hp := pm_step_some hop
          rw [hs] at h
          obtain ⟨x, st2, rfl, h1, h2⟩ := pm_ab_inv h
          unfold pm_chk at hck
          dsimp only at hck
          simp only [Bool.and_eq_true, decide_eq_true_eq] at hck
          obtain ⟨g1, g2, g3, g4⟩ := hck
          have hroom : ∀ rest : List Value, rest.length ≤ 4 → ((rest.map (pm_vm ad)).map fun v => v.category).sum ≤ 8 := by
            intro rest h9
            refine Nat.le_trans (?_ : _ ≤ 2 * rest.length) (by omega)
            clear h9
            induction rest with
            | nil => exact Nat.le_refl _
            | cons y ys ihy =>
              rw [List.map_cons, List.map_cons, List.sum_cons, List.length_cons]
              have := lv_cat (pm_vm ad y)
              omega
          have hro : ∀ rest : List Value, rest.length ≤ 4 → ((rest.map (pm_vm ad)).map fun v => v.category).sum + 13 ≤ (pm_rm (d + 1)).locals := by
            intro rest h9
            have := hroom rest h9
            show _ ≤ 64 * (d + 1)
            omega
          exact va_mabs hx hb (by rw [hml, hsl]) hown (hts _ (List.mem_of_getElem? g1)) (hts _ (List.mem_of_getElem? g2)) (hts _ (List.mem_of_getElem? g3)) (hts _ (List.mem_of_getElem? g4)) (Nat.succ_le_succ (Nat.zero_le d)) (hro st2 h1) (Nat.zero_le _) (Nat.zero_le _) hdec (go (st2 := .int (if 0 ≤ x then x else 0 - x) :: st2) h2 hL hN hP hS)
        | int z =>
          have hs : pm_step call M.2.2.2.1 M.2.2.2.2.2.1 (i, pl, st, hp) = pm_is call i pl st hp a aux := pm_step_some hop
          rw [hs] at h
          obtain ⟨r1, hp2, h1, h2, h4, h5⟩ := pm_is_inv h
          cases hk0 : P.1[a]? with
          | none => unfold pm_chk at hck; dsimp only at hck; rw [hk0] at hck; cases hck
          | some K =>
            have hKM := hok3 K (List.mem_of_getElem? hk0)
            have hk : (decide ((parseMethodDescriptor K.1.desc).map (fun d => d.parameters.length) = some (aux.getD 0 0)) && (decide (P.2.2.1[K.2.2.2.2.2.2.getD 2 0]? = some (.static K.1)) && decide (P.2.2.1[aux.getD 1 0]? = some (.methodLink M.1.cls k K.1)))) = true := by unfold pm_chk at hck; dsimp only at hck; rw [hk0] at hck; exact hck
            simp only [Bool.and_eq_true, decide_eq_true_eq] at hk
            obtain ⟨g1, g2, g3⟩ := hk
            obtain ⟨j1, j2, j3, j4, j5, j6, -, -⟩ := pm_okM_to hKM
            obtain ⟨hN2, hMet⟩ := hcall a K _ hp hp2 r1 hk0 h4 hN
            have hlt : (st.take (aux.getD 0 0)).length = aux.getD 0 0 := by rw [List.length_take]; omega
            have hstk : st.map (pm_vm ad) = (((st.take (aux.getD 0 0)).reverse).map (pm_vm ad)).reverse ++ (st.drop (aux.getD 0 0)).map (pm_vm ad) := by
              rw [List.map_reverse, List.reverse_reverse, ← List.map_append, List.take_append_drop]
            have hroom : ∀ rest : List Value, rest.length ≤ 4 → ((rest.map (pm_vm ad)).map fun v => v.category).sum ≤ 8 := by
              intro rest h9
              refine Nat.le_trans (?_ : _ ≤ 2 * rest.length) (by omega)
              clear h9
              induction rest with
              | nil => exact Nat.le_refl _
              | cons y ys ihy =>
                rw [List.map_cons, List.map_cons, List.sum_cons, List.length_cons]
                have := lv_cat (pm_vm ad y)
                omega
            have hcb : CallB (pm_rm (d + 1)) s args M.1.cls k K.1 K.2.1 K.2.2.1 K.2.2.2.1 (.code K.1 K.2.1 K.2.2.1 K.2.2.2.1 :: P.2.2.1) (pm_rm d) 0 0 (aux.getD 0 0) := callB_of (aux.getD 0 0) hts (hws hKM) rfl rfl rfl (hts _ j5) (hts _ (List.mem_of_getElem? g3)) ⟨j2, j3, g1⟩ ⟨Nat.le_refl _, by show 8 + (K.2.2.1 + 11) + 64 * d ≤ 64 * (d + 1); omega⟩
            have hrun := va_runS (e := e) (below := below) (meth := meth) (H := H) (locs := locs) (cells := 0) (slots := 0) (g := F0 m pc ls (st.map (pm_vm ad))) (As := ((st.take (aux.getD 0 0)).reverse).map (pm_vm ad)) (rest := (st.drop (aux.getD 0 0)).map (pm_vm ad)) ⟨hx, hb, hml, hown, hts⟩ (hMet H.size) ⟨hcb, hts _ (List.mem_of_getElem? g2)⟩
              ⟨pm_blind D P.2.1 P.2.2.2 ad cA hp H.size _, fun U hU hW => ⟨rfl, by rw [hU], by rw [hU]; exact hP, va_K.moved hW.alike hK, hNW.warm hW⟩⟩
              rfl (by rw [List.length_map, List.length_reverse, hlt]) hsl hstk (lv_room (hroom _ h2)) hdec ⟨Nat.le_refl _, Nat.le_refl _⟩
            refine pm_call hrun hS hA hA (fun H1 locs1 hP1 hS1 => ?_)
            have h6 := go (st2 := r1.toList ++ st.drop (aux.getD 0 0)) h5 hL hN2 hP1 hS1
            have e1 : (r1.map (pm_vm ad)).toList ++ (st.drop (aux.getD 0 0)).map (pm_vm ad) = (r1.toList ++ st.drop (aux.getD 0 0)).map (pm_vm ad) := by cases r1 <;> rfl
            rw [e1]
            exact h6
        | long z =>
          have hs : pm_step call M.2.2.2.1 M.2.2.2.2.2.1 (i, pl, st, hp) = pm_is call i pl st hp a aux := pm_step_some hop
          rw [hs] at h
          obtain ⟨r1, hp2, h1, h2, h4, h5⟩ := pm_is_inv h
          cases hk0 : P.1[a]? with
          | none => unfold pm_chk at hck; dsimp only at hck; rw [hk0] at hck; cases hck
          | some K =>
            have hKM := hok3 K (List.mem_of_getElem? hk0)
            cases hq : P.2.2.2[aux.getD 1 0]? with
            | none => unfold pm_chk at hck; dsimp only at hck; rw [hk0] at hck; dsimp only at hck; rw [hq] at hck; simp at hck
            | some q =>
              have hk : (decide ((parseMethodDescriptor K.1.desc).map (fun d => d.parameters.length) = some (aux.getD 0 0)) && (decide (P.2.2.1[K.2.2.2.2.2.2.getD 2 0]? = some (.static K.1)) && (decide (q.1 = M.1.cls) && (decide (q.2.1 = k) && decide (q.2.2.1 = K.1))))) = true := by unfold pm_chk at hck; dsimp only at hck; rw [hk0] at hck; dsimp only at hck; rw [hq] at hck; exact hck
              simp only [Bool.and_eq_true, decide_eq_true_eq] at hk
              obtain ⟨g1, g2, g3, g4, g5⟩ := hk
              obtain ⟨j1, j2, j3, j4, j5, j6, -, -⟩ := pm_okM_to hKM
              obtain ⟨hN2, hMet⟩ := hcall a K _ hp hp2 r1 hk0 h4 hN
              have hlt : (st.take (aux.getD 0 0)).length = aux.getD 0 0 := by rw [List.length_take]; omega
              have hstk : st.map (pm_vm ad) = (((st.take (aux.getD 0 0)).reverse).map (pm_vm ad)).reverse ++ (st.drop (aux.getD 0 0)).map (pm_vm ad) := by
                rw [List.map_reverse, List.reverse_reverse, ← List.map_append, List.take_append_drop]
              have hroom : ∀ rest : List Value, rest.length ≤ 4 → ((rest.map (pm_vm ad)).map fun v => v.category).sum ≤ 8 := by
                intro rest h9
                refine Nat.le_trans (?_ : _ ≤ 2 * rest.length) (by omega)
                clear h9
                induction rest with
                | nil => exact Nat.le_refl _
                | cons y ys ihy =>
                  rw [List.map_cons, List.map_cons, List.sum_cons, List.length_cons]
                  have := lv_cat (pm_vm ad y)
                  omega
              have hcb : va_CN (pm_rm (d + 1)) s args M.1.cls k K.1 q.2.2.2 K.2.1 K.2.2.1 K.2.2.2.1 (.code K.1 K.2.1 K.2.2.1 K.2.2.2.1 :: P.2.2.1) (pm_rm d) 0 0 (aux.getD 0 0) := va_cnB (aux.getD 0 0) hts (hws hKM) rfl rfl rfl (by have := hNW q (List.mem_of_getElem? hq); rw [g3, g4, g5] at this; exact this) (hts _ j5) ⟨j2, j3, g1⟩ ⟨Nat.le_refl _, by show 8 + (K.2.2.1 + 11) + 64 * d ≤ 64 * (d + 1); omega⟩
              have hrun := va_runSN (e := e) (below := below) (meth := meth) (H := H) (locs := locs) (cells := 0) (slots := 0) (g := F0 m pc ls (st.map (pm_vm ad))) (As := ((st.take (aux.getD 0 0)).reverse).map (pm_vm ad)) (rest := (st.drop (aux.getD 0 0)).map (pm_vm ad)) ⟨hx, hb, hml, hown, hts⟩ (hMet H.size) ⟨hcb, hts _ (List.mem_of_getElem? g2), trivial⟩
                ⟨pm_blind D P.2.1 P.2.2.2 ad cA hp H.size _, fun U hU hW => ⟨rfl, by rw [hU], by rw [hU]; exact hP, va_K.moved hW.alike hK, hNW.warm hW⟩⟩
                rfl (by rw [List.length_map, List.length_reverse, hlt]) hsl hstk (lv_room (hroom _ h2)) hdec ⟨Nat.le_refl _, Nat.le_refl _⟩
              refine pm_call hrun hS hA hA (fun H1 locs1 hP1 hS1 => ?_)
              have h6 := go (st2 := r1.toList ++ st.drop (aux.getD 0 0)) h5 hL hN2 hP1 hS1
              have e1 : (r1.map (pm_vm ad)).toList ++ (st.drop (aux.getD 0 0)).map (pm_vm ad) = (r1.toList ++ st.drop (aux.getD 0 0)).map (pm_vm ad) := by cases r1 <;> rfl
              rw [e1]
              exact h6
        | _ => unfold pm_chk at hck; cases hck
      | ireturn =>
        have hs : pm_step call M.2.2.2.1 M.2.2.2.2.2.1 (i, pl, st, hp) = pm_ri M.2.2.2.1 st hp := pm_step_some hop
        rw [hs] at h
        unfold pm_ri at h
        have hln := hlen
        obtain rfl : len = 1 := hln.elim (fun q => absurd (show (1 : Nat) = 0 from q) (by decide)) (fun q => q)
        split at h
        · rename_i x
          by_cases hz : pm_rz M.2.2.2.1 x = true
          · rw [if_pos hz] at h
            cases h
            unfold pm_rz at hz
            split at hz
            · rename_i hret
              exact W.iret (v := x) hx hb (by rw [hr, hret]) (fun t ht hW => ⟨rfl, by rw [ht]; exact hP, hS.F ht⟩) hS.2.2 hdec hlocks
            · rename_i hret
              exact W.zret (v := x) (ty := .boolean) hx hb (by rw [hr, hret]) (of_decide_eq_true hz) (fun t ht hW => ⟨rfl, by rw [ht]; exact hP, hS.F ht⟩) hS.2.2 hdec hlocks
            · cases hz
          · rw [if_neg hz] at h; cases h
        · cases h
      | lreturn =>
        have hs : pm_step call M.2.2.2.1 M.2.2.2.2.2.1 (i, pl, st, hp) = pm_rl M.2.2.2.1 st hp := pm_step_some hop
        rw [hs] at h
        unfold pm_rl at h
        have hln := hlen
        obtain rfl : len = 1 := hln.elim (fun q => absurd (show (1 : Nat) = 0 from q) (by decide)) (fun q => q)
        split at h
        · rename_i x
          by_cases hz : M.2.2.2.1 = some .long
          · rw [if_pos hz] at h
            cases h
            exact W.lret (v := x) hx hb (by rw [hr, hz]) (fun t ht hW => ⟨rfl, by rw [ht]; exact hP, hS.F ht⟩) hS.2.2 hdec hlocks
          · rw [if_neg hz] at h; cases h
        · cases h
      | return_ =>
        have hs : pm_step call M.2.2.2.1 M.2.2.2.2.2.1 (i, pl, st, hp) = pm_rv M.2.2.2.1 st hp := pm_step_some hop
        rw [hs] at h
        unfold pm_rv at h
        have hln := hlen
        obtain rfl : len = 1 := hln.elim (fun q => absurd (show (1 : Nat) = 0 from q) (by decide)) (fun q => q)
        split at h
        · by_cases hz : M.2.2.2.1 = none
          · rw [if_pos hz] at h
            cases h
            exact W.vret hx hb (by rw [hr, hz]) (fun t ht hW => ⟨rfl, by rw [ht]; exact hP, hS.F ht⟩) hS.2.2 hdec hlocks
          · rw [if_neg hz] at h; cases h
        · cases h
      | _ =>
        have hs : pm_step call M.2.2.2.1 M.2.2.2.2.2.1 (i, pl, st, hp) = .inr none := pm_step_some hop
        rw [hs] at h
        cases h
