/-! the number of cells stays; the soundness of runs -/
theorem pm_evlen {call : pm_K} {ret : Option FieldType} {ops : List pm_OP} {r : Option Value} {hp9 : pm_HP} (hc : ∀ (k : Nat) (as : List Value) (h : pm_HP) (r : Option Value) (h2 : pm_HP), call k as h = some (r, h2) → h2.length = h.length) :
    ∀ (n i : Nat) (pl : pm_LS) (st : List Value) (hp : pm_HP), pm_ev call ret ops n (i, pl, st, hp) = some (r, hp9) → hp9.length = hp.length := by
  intro n
  induction n with
  | zero => intro i pl st hp h; cases h
  | succ n ih =>
    intro i pl st hp h
    rw [pm_ev_fin] at h
    rcases hop : ops[i]? with _ | ⟨pc, ins, len, a, v, aux, sw⟩
    · rw [pm_step_none hop] at h; cases h
    · rw [pm_step_some hop] at h
      cases ins with
      | iload k =>
        replace h : pm_fin (pm_ev call ret ops n) (pm_ldI i pl st hp k) = some (r, hp9) := h
        obtain ⟨x, h1, h2⟩ := pm_ldI_inv h
        exact ih _ _ _ _ h2
      | iload_n k =>
        replace h : pm_fin (pm_ev call ret ops n) (pm_ldI i pl st hp k) = some (r, hp9) := h
        obtain ⟨x, h1, h2⟩ := pm_ldI_inv h
        exact ih _ _ _ _ h2
      | aload k =>
        replace h : pm_fin (pm_ev call ret ops n) (pm_ldA i pl st hp k) = some (r, hp9) := h
        obtain ⟨x, h1, h2⟩ := pm_ldA_inv h
        exact ih _ _ _ _ h2
      | aload_n k =>
        replace h : pm_fin (pm_ev call ret ops n) (pm_ldA i pl st hp k) = some (r, hp9) := h
        obtain ⟨x, h1, h2⟩ := pm_ldA_inv h
        exact ih _ _ _ _ h2
      | lload k =>
        replace h : pm_fin (pm_ev call ret ops n) (pm_ldL i pl st hp k) = some (r, hp9) := h
        obtain ⟨x, h1, h2⟩ := pm_ldL_inv h
        exact ih _ _ _ _ h2
      | lload_n k =>
        replace h : pm_fin (pm_ev call ret ops n) (pm_ldL i pl st hp k) = some (r, hp9) := h
        obtain ⟨x, h1, h2⟩ := pm_ldL_inv h
        exact ih _ _ _ _ h2
      | istore k =>
        replace h : pm_fin (pm_ev call ret ops n) (pm_stI i pl st hp k) = some (r, hp9) := h
        obtain ⟨x, st2, rfl, h2⟩ := pm_stI_inv h
        exact ih _ _ _ _ h2
      | istore_n k =>
        replace h : pm_fin (pm_ev call ret ops n) (pm_stI i pl st hp k) = some (r, hp9) := h
        obtain ⟨x, st2, rfl, h2⟩ := pm_stI_inv h
        exact ih _ _ _ _ h2
      | lstore k =>
        replace h : pm_fin (pm_ev call ret ops n) (pm_stL i pl st hp k) = some (r, hp9) := h
        obtain ⟨x, st2, rfl, h2⟩ := pm_stL_inv h
        exact ih _ _ _ _ h2
      | lstore_n k =>
        replace h : pm_fin (pm_ev call ret ops n) (pm_stL i pl st hp k) = some (r, hp9) := h
        obtain ⟨x, st2, rfl, h2⟩ := pm_stL_inv h
        exact ih _ _ _ _ h2
      | iconst k =>
        replace h : pm_fin (pm_ev call ret ops n) (pm_cI i pl st hp v) = some (r, hp9) := h
        obtain ⟨x, rfl, h2⟩ := pm_cI_inv h
        exact ih _ _ _ _ h2
      | bipush k =>
        replace h : pm_fin (pm_ev call ret ops n) (pm_cI i pl st hp v) = some (r, hp9) := h
        obtain ⟨x, rfl, h2⟩ := pm_cI_inv h
        exact ih _ _ _ _ h2
      | sipush k =>
        replace h : pm_fin (pm_ev call ret ops n) (pm_cI i pl st hp v) = some (r, hp9) := h
        obtain ⟨x, rfl, h2⟩ := pm_cI_inv h
        exact ih _ _ _ _ h2
      | ldc_w k =>
        replace h : pm_fin (pm_ev call ret ops n) (pm_cI i pl st hp v) = some (r, hp9) := h
        obtain ⟨x, rfl, h2⟩ := pm_cI_inv h
        exact ih _ _ _ _ h2
      | lconst k =>
        replace h : pm_fin (pm_ev call ret ops n) (pm_cL i pl st hp v) = some (r, hp9) := h
        obtain ⟨x, rfl, h2⟩ := pm_cL_inv h
        exact ih _ _ _ _ h2
      | ldc2_w k =>
        replace h : pm_fin (pm_ev call ret ops n) (pm_cL i pl st hp v) = some (r, hp9) := h
        obtain ⟨x, rfl, h2⟩ := pm_cL_inv h
        exact ih _ _ _ _ h2
      | iadd =>
        replace h : pm_fin (pm_ev call ret ops n) (pm_b2 i pl st hp (fun x y => x + y)) = some (r, hp9) := h
        obtain ⟨x, y, st2, rfl, h2⟩ := pm_b2_inv h
        exact ih _ _ _ _ h2
      | isub =>
        replace h : pm_fin (pm_ev call ret ops n) (pm_b2 i pl st hp (fun x y => x - y)) = some (r, hp9) := h
        obtain ⟨x, y, st2, rfl, h2⟩ := pm_b2_inv h
        exact ih _ _ _ _ h2
      | imul =>
        replace h : pm_fin (pm_ev call ret ops n) (pm_b2 i pl st hp (fun x y => x * y)) = some (r, hp9) := h
        obtain ⟨x, y, st2, rfl, h2⟩ := pm_b2_inv h
        exact ih _ _ _ _ h2
      | iand =>
        replace h : pm_fin (pm_ev call ret ops n) (pm_b2 i pl st hp (fun x y => x &&& y)) = some (r, hp9) := h
        obtain ⟨x, y, st2, rfl, h2⟩ := pm_b2_inv h
        exact ih _ _ _ _ h2
      | ior =>
        replace h : pm_fin (pm_ev call ret ops n) (pm_b2 i pl st hp (fun x y => x ||| y)) = some (r, hp9) := h
        obtain ⟨x, y, st2, rfl, h2⟩ := pm_b2_inv h
        exact ih _ _ _ _ h2
      | ishl =>
        replace h : pm_fin (pm_ev call ret ops n) (pm_b2 i pl st hp (fun x y => x <<< (y &&& 31))) = some (r, hp9) := h
        obtain ⟨x, y, st2, rfl, h2⟩ := pm_b2_inv h
        exact ih _ _ _ _ h2
      | ishr =>
        replace h : pm_fin (pm_ev call ret ops n) (pm_b2 i pl st hp (fun x y => x >>> (y &&& 31))) = some (r, hp9) := h
        obtain ⟨x, y, st2, rfl, h2⟩ := pm_b2_inv h
        exact ih _ _ _ _ h2
      | iushr =>
        replace h : pm_fin (pm_ev call ret ops n) (pm_b2 i pl st hp (fun x y => (x.toUInt32 >>> (y.toUInt32 &&& Int32.toUInt32 31)).toInt32)) = some (r, hp9) := h
        obtain ⟨x, y, st2, rfl, h2⟩ := pm_b2_inv h
        exact ih _ _ _ _ h2
      | idiv =>
        replace h : pm_fin (pm_ev call ret ops n) (pm_d2 i pl st hp (fun x y => x / y)) = some (r, hp9) := h
        obtain ⟨x, y, st2, rfl, hy, h2⟩ := pm_d2_inv h
        exact ih _ _ _ _ h2
      | irem =>
        replace h : pm_fin (pm_ev call ret ops n) (pm_d2 i pl st hp (fun x y => x - x / y * y)) = some (r, hp9) := h
        obtain ⟨x, y, st2, rfl, hy, h2⟩ := pm_d2_inv h
        exact ih _ _ _ _ h2
      | ladd =>
        replace h : pm_fin (pm_ev call ret ops n) (pm_l2 i pl st hp (fun x y => x + y)) = some (r, hp9) := h
        obtain ⟨x, y, st2, rfl, h2⟩ := pm_l2_inv h
        exact ih _ _ _ _ h2
      | lsub =>
        replace h : pm_fin (pm_ev call ret ops n) (pm_l2 i pl st hp (fun x y => x - y)) = some (r, hp9) := h
        obtain ⟨x, y, st2, rfl, h2⟩ := pm_l2_inv h
        exact ih _ _ _ _ h2
      | lmul =>
        replace h : pm_fin (pm_ev call ret ops n) (pm_l2 i pl st hp (fun x y => x * y)) = some (r, hp9) := h
        obtain ⟨x, y, st2, rfl, h2⟩ := pm_l2_inv h
        exact ih _ _ _ _ h2
      | ldiv =>
        replace h : pm_fin (pm_ev call ret ops n) (pm_e2 i pl st hp (fun x y => x / y)) = some (r, hp9) := h
        obtain ⟨x, y, st2, rfl, hy, h2⟩ := pm_e2_inv h
        exact ih _ _ _ _ h2
      | lrem =>
        replace h : pm_fin (pm_ev call ret ops n) (pm_e2 i pl st hp (fun x y => x - x / y * y)) = some (r, hp9) := h
        obtain ⟨x, y, st2, rfl, hy, h2⟩ := pm_e2_inv h
        exact ih _ _ _ _ h2
      | ineg =>
        replace h : pm_fin (pm_ev call ret ops n) (pm_ng i pl st hp) = some (r, hp9) := h
        unfold pm_ng at h
        split at h
        · exact ih _ _ _ _ h
        · cases h
      | lushr =>
        replace h : pm_fin (pm_ev call ret ops n) (pm_lu i pl st hp) = some (r, hp9) := h
        unfold pm_lu at h
        split at h
        · exact ih _ _ _ _ h
        · cases h
      | i2l =>
        replace h : pm_fin (pm_ev call ret ops n) (pm_il i pl st hp) = some (r, hp9) := h
        unfold pm_il at h
        split at h
        · exact ih _ _ _ _ h
        · cases h
      | l2i =>
        replace h : pm_fin (pm_ev call ret ops n) (pm_li i pl st hp) = some (r, hp9) := h
        unfold pm_li at h
        split at h
        · exact ih _ _ _ _ h
        · cases h
      | lcmp =>
        replace h : pm_fin (pm_ev call ret ops n) (pm_lc i pl st hp) = some (r, hp9) := h
        unfold pm_lc at h
        split at h
        · exact ih _ _ _ _ h
        · cases h
      | dup =>
        replace h : pm_fin (pm_ev call ret ops n) (pm_du i pl st hp) = some (r, hp9) := h
        unfold pm_du at h
        split at h
        · exact ih _ _ _ _ h
        · exact ih _ _ _ _ h
        · cases h
      | dup2 =>
        replace h : pm_fin (pm_ev call ret ops n) (pm_dd i pl st hp) = some (r, hp9) := h
        unfold pm_dd at h
        split at h
        · exact ih _ _ _ _ h
        · exact ih _ _ _ _ h
        · cases h
      | pop =>
        replace h : pm_fin (pm_ev call ret ops n) (pm_po i pl st hp) = some (r, hp9) := h
        unfold pm_po at h
        split at h
        · exact ih _ _ _ _ h
        · cases h
      | goto off =>
        replace h : pm_fin (pm_ev call ret ops n) (.inl (a, pl, st, hp)) = some (r, hp9) := h
        exact ih _ _ _ _ h
      | ifCond cd off =>
        cases cd with
        | eq =>
          replace h : pm_fin (pm_ev call ret ops n) (pm_i1 i pl st hp a (fun x t f => if x = 0 then t else f)) = some (r, hp9) := h
          obtain ⟨x, st2, rfl, h2⟩ := pm_i1_inv h
          try dsimp only at h2
          split at h2
          · exact ih _ _ _ _ h2
          · exact ih _ _ _ _ h2
        | ne =>
          replace h : pm_fin (pm_ev call ret ops n) (pm_i1 i pl st hp a (fun x t f => if x = 0 then f else t)) = some (r, hp9) := h
          obtain ⟨x, st2, rfl, h2⟩ := pm_i1_inv h
          try dsimp only at h2
          split at h2
          · exact ih _ _ _ _ h2
          · exact ih _ _ _ _ h2
        | lt =>
          replace h : pm_fin (pm_ev call ret ops n) (pm_i1 i pl st hp a (fun x t f => if x < 0 then t else f)) = some (r, hp9) := h
          obtain ⟨x, st2, rfl, h2⟩ := pm_i1_inv h
          try dsimp only at h2
          split at h2
          · exact ih _ _ _ _ h2
          · exact ih _ _ _ _ h2
        | ge =>
          replace h : pm_fin (pm_ev call ret ops n) (pm_i1 i pl st hp a (fun x t f => if x < 0 then f else t)) = some (r, hp9) := h
          obtain ⟨x, st2, rfl, h2⟩ := pm_i1_inv h
          try dsimp only at h2
          split at h2
          · exact ih _ _ _ _ h2
          · exact ih _ _ _ _ h2
        | gt =>
          replace h : pm_fin (pm_ev call ret ops n) (pm_i1 i pl st hp a (fun x t f => if 0 < x then t else f)) = some (r, hp9) := h
          obtain ⟨x, st2, rfl, h2⟩ := pm_i1_inv h
          try dsimp only at h2
          split at h2
          · exact ih _ _ _ _ h2
          · exact ih _ _ _ _ h2
        | le =>
          replace h : pm_fin (pm_ev call ret ops n) (pm_i1 i pl st hp a (fun x t f => if 0 < x then f else t)) = some (r, hp9) := h
          obtain ⟨x, st2, rfl, h2⟩ := pm_i1_inv h
          try dsimp only at h2
          split at h2
          · exact ih _ _ _ _ h2
          · exact ih _ _ _ _ h2
      | if_icmp cd off =>
        cases cd with
        | eq =>
          replace h : pm_fin (pm_ev call ret ops n) (pm_i2 i pl st hp a (fun x y t f => if x = y then t else f)) = some (r, hp9) := h
          obtain ⟨x, y, st2, rfl, h2⟩ := pm_i2_inv h
          try dsimp only at h2
          split at h2
          · exact ih _ _ _ _ h2
          · exact ih _ _ _ _ h2
        | ne =>
          replace h : pm_fin (pm_ev call ret ops n) (pm_i2 i pl st hp a (fun x y t f => if x = y then f else t)) = some (r, hp9) := h
          obtain ⟨x, y, st2, rfl, h2⟩ := pm_i2_inv h
          try dsimp only at h2
          split at h2
          · exact ih _ _ _ _ h2
          · exact ih _ _ _ _ h2
        | lt =>
          replace h : pm_fin (pm_ev call ret ops n) (pm_i2 i pl st hp a (fun x y t f => if x < y then t else f)) = some (r, hp9) := h
          obtain ⟨x, y, st2, rfl, h2⟩ := pm_i2_inv h
          try dsimp only at h2
          split at h2
          · exact ih _ _ _ _ h2
          · exact ih _ _ _ _ h2
        | ge =>
          replace h : pm_fin (pm_ev call ret ops n) (pm_i2 i pl st hp a (fun x y t f => if x < y then f else t)) = some (r, hp9) := h
          obtain ⟨x, y, st2, rfl, h2⟩ := pm_i2_inv h
          try dsimp only at h2
          split at h2
          · exact ih _ _ _ _ h2
          · exact ih _ _ _ _ h2
        | gt =>
          replace h : pm_fin (pm_ev call ret ops n) (pm_i2 i pl st hp a (fun x y t f => if y < x then t else f)) = some (r, hp9) := h
          obtain ⟨x, y, st2, rfl, h2⟩ := pm_i2_inv h
          try dsimp only at h2
          split at h2
          · exact ih _ _ _ _ h2
          · exact ih _ _ _ _ h2
        | le =>
          replace h : pm_fin (pm_ev call ret ops n) (pm_i2 i pl st hp a (fun x y t f => if y < x then f else t)) = some (r, hp9) := h
          obtain ⟨x, y, st2, rfl, h2⟩ := pm_i2_inv h
          try dsimp only at h2
          split at h2
          · exact ih _ _ _ _ h2
          · exact ih _ _ _ _ h2
      | iinc k z =>
        replace h : pm_fin (pm_ev call ret ops n) (pm_ii i pl st hp k v) = some (r, hp9) := h
        unfold pm_ii at h
        split at h
        · split at h
          · exact ih _ _ _ _ h
          · cases h
        · cases h
      | tableswitch df lo hi offs =>
        replace h : pm_fin (pm_ev call ret ops n) (pm_ts pl st hp a sw) = some (r, hp9) := h
        unfold pm_ts at h
        split at h
        · rename_i x st2
          have key : ∀ sw : List (Int32 × Nat), pm_fin (pm_ev call ret ops n) (pm_sw (fun t => .inl (t, pl, st2, hp)) x a sw) = some (r, hp9) → hp9.length = hp.length := by
            intro sw
            induction sw with
            | nil => intro h1; exact ih _ _ _ _ h1
            | cons q qs ihq =>
              intro h1
              rw [pm_sw] at h1
              split at h1
              · exact ih _ _ _ _ h1
              · exact ihq h1
          exact key sw h
        · cases h
      | lookupswitch df ps =>
        replace h : pm_fin (pm_ev call ret ops n) (pm_ts pl st hp a sw) = some (r, hp9) := h
        unfold pm_ts at h
        split at h
        · rename_i x st2
          have key : ∀ sw : List (Int32 × Nat), pm_fin (pm_ev call ret ops n) (pm_sw (fun t => .inl (t, pl, st2, hp)) x a sw) = some (r, hp9) → hp9.length = hp.length := by
            intro sw
            induction sw with
            | nil => intro h1; exact ih _ _ _ _ h1
            | cons q qs ihq =>
              intro h1
              rw [pm_sw] at h1
              split at h1
              · exact ih _ _ _ _ h1
              · exact ihq h1
          exact key sw h
        · cases h
      | getfield k =>
        replace h : pm_fin (pm_ev call ret ops n) (pm_gf i pl st hp a aux) = some (r, hp9) := h
        obtain ⟨x, st2, fs, u, rfl, h1, h2, h3⟩ := pm_gf_inv h
        exact ih _ _ _ _ h3
      | putfield k =>
        replace h : pm_fin (pm_ev call ret ops n) (pm_pf i pl st hp a v aux) = some (r, hp9) := h
        obtain ⟨u, x, st2, fs, rfl, hw, h1, h2, h3⟩ := pm_pf_inv h
        have := ih _ _ _ _ h3
        rw [List.length_set] at this
        exact this
      | iaload =>
        replace h : pm_fin (pm_ev call ret ops n) (pm_al i pl st hp 0) = some (r, hp9) := h
        obtain ⟨j, x, st2, n1, f, rfl, h1, h2, h3⟩ := pm_al_inv h
        exact ih _ _ _ _ h3
      | baload =>
        replace h : pm_fin (pm_ev call ret ops n) (pm_al i pl st hp 1) = some (r, hp9) := h
        obtain ⟨j, x, st2, n1, f, rfl, h1, h2, h3⟩ := pm_al_inv h
        exact ih _ _ _ _ h3
      | iastore =>
        replace h : pm_fin (pm_ev call ret ops n) (pm_as i pl st hp 0 (fun x => x)) = some (r, hp9) := h
        obtain ⟨y, j, x, st2, n1, f, rfl, h1, h2, h3⟩ := pm_as_inv h
        have := ih _ _ _ _ h3
        rw [List.length_set] at this
        exact this
      | bastore =>
        replace h : pm_fin (pm_ev call ret ops n) (pm_as i pl st hp 1 (fun x => vp_nar .boolean x)) = some (r, hp9) := h
        obtain ⟨y, j, x, st2, n1, f, rfl, h1, h2, h3⟩ := pm_as_inv h
        have := ih _ _ _ _ h3
        rw [List.length_set] at this
        exact this
      | arraylength =>
        replace h : pm_fin (pm_ev call ret ops n) (pm_len i pl st hp) = some (r, hp9) := h
        obtain ⟨x, st2, t, n1, f, rfl, h1, h2, h3⟩ := pm_len_inv h
        exact ih _ _ _ _ h3
      | invokevirtual k =>
        replace h : pm_fin (pm_ev call ret ops n) (pm_iv call i pl st hp a aux) = some (r, hp9) := h
        obtain ⟨x, rest, fs, r1, hp2, h1, h2, h3, h4, h5⟩ := pm_iv_inv h
        exact (ih _ _ _ _ h5).trans (hc _ _ _ _ _ h4)
      | invokestatic k =>
        have key : pm_fin (pm_ev call ret ops n) (pm_is call i pl st hp a aux) = some (r, hp9) → hp9.length = hp.length := by
          intro h
          obtain ⟨r1, hp2, h1, h2, h4, h5⟩ := pm_is_inv h
          exact (ih _ _ _ _ h5).trans (hc _ _ _ _ _ h4)
        cases v with
        | null =>
          replace h : pm_fin (pm_ev call ret ops n) (pm_cp i pl st hp) = some (r, hp9) := h
          obtain ⟨n1, dp, dd, sp, x, st2, n0, f, n2, g, rfl, h1, h2, h3, h4⟩ := pm_cp_inv h
          have := ih _ _ _ _ h4
          rw [List.length_set] at this
          exact this
        | ref z =>
          replace h : pm_fin (pm_ev call ret ops n) (pm_mx i pl st hp z) = some (r, hp9) := h
          obtain ⟨x, y, st2, rfl, h1, h2⟩ := pm_mx_inv h
          rcases h2 with ⟨-, h2⟩ | ⟨-, h2⟩
          · exact ih _ _ _ _ h2
          · exact ih _ _ _ _ h2
        | float z =>
          replace h : pm_fin (pm_ev call ret ops n) (pm_ab i pl st hp) = some (r, hp9) := h
          obtain ⟨x, st2, rfl, h1, h2⟩ := pm_ab_inv h
          exact ih _ _ _ _ h2
        | _ => exact key h
      | ireturn =>
        replace h : pm_fin (pm_ev call ret ops n) (pm_ri ret st hp) = some (r, hp9) := h
        unfold pm_ri at h
        split at h
        · split at h
          · cases h; rfl
          · cases h
        · cases h
      | lreturn =>
        replace h : pm_fin (pm_ev call ret ops n) (pm_rl ret st hp) = some (r, hp9) := h
        unfold pm_rl at h
        split at h
        · split at h
          · cases h; rfl
          · cases h
        · cases h
      | return_ =>
        replace h : pm_fin (pm_ev call ret ops n) (pm_rv ret st hp) = some (r, hp9) := h
        unfold pm_rv at h
        split at h
        · split at h
          · cases h; rfl
          · cases h
        · cases h
      | _ => cases h
theorem pm_runlen (mt : List pm_M) : ∀ (d k : Nat) (as : List Value) (hp : pm_HP) (r : Option Value) (hp2 : pm_HP), pm_run mt d k as hp = some (r, hp2) → hp2.length = hp.length
  | 0, _, _, _, _, _, h => by cases h
  | d + 1, k, as, hp, r, hp2, h => by
    unfold pm_run at h
    try dsimp only at h
    split at h
    · cases h
    · rename_i M hM
      split at h
      · obtain ⟨n, hn⟩ := pm_EV_to h
        exact pm_evlen (pm_runlen mt d) n _ _ _ _ hn
      · cases h
set_option maxHeartbeats 4000000 in
/-- what a pure run answers, the method answers: for every method of the tables, at every depth -/
theorem pm_sound {P : pm_P} (hP0 : pm_okP P) (l : Launch) (D : va_G) (cA : Nat → ClassId) (ad : Nat → Nat) (N : Nat) (hinj : ∀ i j, i < N → j < N → ad i = ad j → i = j) :
    ∀ (d k : Nat) (K : pm_M) (as : List Value) (hp hp2 : pm_HP) (r : Option Value), P.1[k]? = some K → pm_run P.1 d k as hp = some (r, hp2) → hp.length = N →
      hp2.length = N ∧ ∀ sz, Met l K.1 (.code K.1 K.2.1 K.2.2.1 K.2.2.2.1 :: P.2.2.1) (pm_rm d) (va_Pc (as.map (pm_vm ad)) (pm_Pre D P.2.1 P.2.2.2 ad cA hp sz)) (pm_Post D P.2.1 ad cA r hp2 (pm_A ad N sz)) 0 0 (pm_A ad N sz) := by
  intro d
  induction d with
  | zero => intro k K as hp hp2 r _ h; cases h
  | succ d ih =>
    intro k K as hp hp2 r hk h hN
    refine ⟨(pm_runlen P.1 _ k as hp r hp2 h).trans hN, fun sz => ?_⟩
    unfold pm_run at h
    try dsimp only at h
    rw [hk] at h
    try dsimp only at h
    split at h
    · rename_i hent
      obtain ⟨n, hn⟩ := pm_EV_to h
      have hKM := hP0.2.2 K (List.mem_of_getElem? hk)
      obtain ⟨j1, j2, j3, j4, j5, j6, j7, -⟩ := pm_okM_to hKM
      refine Met.ofW (cc := K.2.1) (maxL := K.2.2.1) (ret := K.2.2.2.1) j1 rfl ?_
      intro p e s m args below meth c s₁ B hml hv
      obtain ⟨rfl, hsz, hP, hK, hNW⟩ := hv
      have hts := atoms_spec (ws := .code K.1 K.2.1 K.2.2.1 K.2.2.2.1 :: P.2.2.1) B.pre
      have hown : s.vm.findClass K.1.cls = some m.cls := findClass_of_methodNamed B.named
      subst hsz
      rw [lg_entry_eq]
      have hW := pm_inner (p := p) (l := l) (e := e) (below := below) (meth := meth) (d := d) (N := N) (D := D) (ad := ad) (cA := cA) (r := r) (hp9 := hp2) hP0 hKM B.exec B.bytes hml B.returns B.notSynchronized hown (fun w hw => hts w (List.mem_cons_of_mem _ hw)) hK hNW hinj (fun k2 K2 as2 h1 h2 r1 hk2 hc hn2 => ih k2 K2 as2 h1 h2 r1 hk2 hc hn2) n 0 _ [] hp _ s.heap [] hn (pm_LR_entry (ad := ad) hent.1 hent.2) hN hP va_S.rf
      rw [j7] at hW
      exact hW
    · cases h
