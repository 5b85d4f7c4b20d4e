/-! the reference: its text read from the start; manor -/
set_option maxRecDepth 100000 in
set_option maxHeartbeats 4000000 in
theorem en_X8_readManor_0 (d : Nat) (I : Nat → Int32) (F : Nat → Nat → Int32) (sd : Int64) : pm_run mt (d + 5) 120 [.ref 0] (hY I F sd) = pm_EV (pm_run mt (d + 4)) (some .int) oX8_readManor (0, [some (.ref 0)], [], hY I F sd) := rfl
theorem DR_0 {n : Nat} {b g r a : Nat → Int32} (hn : n ≤ 48) (h3 : 3 ≤ n) : DR (b 1 - 48) (b 2 - 48) 0 0 (hm0 (nI n) b g) r a := by
  have e : hm0 (nI n) b g = upd (upd (hmZ g) 23 (b 1 - 48)) 24 (b 2 - 48) := by
    unfold hm0
    rw [show (23 : Int32) = nI 23 from rfl, show (24 : Int32) = nI 24 from rfl, show (1 : Int32) = nI 1 from rfl, show (2 : Int32) = nI 2 from rfl, hset_at (by decide), hset_at (by decide), tby_in (by omega) hn, tby_in (by omega) hn]
  have z : ∀ j, j < 28 → j ≠ 23 → j ≠ 24 → hm0 (nI n) b g j = 0 := by
    intro j h1 h2 h3
    rw [e, upd_ne _ _ h3, upd_ne _ _ h2]
    unfold hmZ
    rw [pk_cpy_in (by omega) (by omega)]
  refine ⟨z 21 (by decide) (by decide) (by decide), z 22 (by decide) (by decide) (by decide), ?_, ?_, fun j h => absurd h (by omega), fun j _ h => z _ (by omega) (by omega) (by omega), fun j h => absurd h (by omega), fun j _ h => z _ (by omega) (by omega) (by omega), fun j _ h => z _ (by omega) (by omega) (by omega), fun j h1 h2 => z _ (by omega) (by omega) (by omega)⟩
  · rw [e, upd_ne _ _ (by decide), upd_at]
  · rw [e, upd_at]
theorem ffL_0S {f : Nat → Int32} {n m k : Nat} {w : Int32} (hw : ¬ w = 3) (h : tfit (f k) w = true) : ffL f n (m + 1) k w 0 0 = ffL f n m (k + 1) (twan w (f k)) 0 0 := ffL_d (x := 0) (y := 0) hw (by omega) (by omega) h
theorem nI_n9 {k : Nat} (hk : k ≤ 48) : ¬ nI k = -9 := by
  intro e
  have : (nI k).toInt = (-9 : Int32).toInt := by rw [e]
  rw [nI_toInt (by omega), show (-9 : Int32).toInt = -9 from rfl] at this
  omega
set_option maxRecDepth 100000 in
set_option maxHeartbeats 4000000 in
theorem rm_all (d : Nat) (I : Nat → Int32) (F : Nat → Nat → Int32) (sd : Int64) (n : Nat) (hn : n ≤ 48) (e2 : I 2 = nI n) (g : Nat → Int32) : ∃ I' F', pm_run mt (d + 5) 120 [.ref 0] (hY I F sd) = some (some (.int (ffault (nI n) (F 1))), hY I' F' sd) ∧ RMok I I' F F' ∧ (ffault (nI n) (F 1) = -9 → ∃ x y s w, x ≤ 4 ∧ y ≤ 5 ∧ s ≤ 9 ∧ w ≤ 9 ∧ I' 10 = nI x ∧ I' 12 = nI y ∧ I' 8 = nI s ∧ I' 9 = nI w ∧ DR (nI s) (nI w) x y (hmk (nI n) (F 1) g) (F' 3) (F' 4)) := by
  have ef : ffault (nI n) (F 1) = ffL (F 1) n n 0 0 0 0 := by unfold ffault; rw [nI_clamp (by omega)]
  rw [ef, en_X8_readManor_0, tr_X8_readManor_0_0]
  have okA : RMok I (upd (upd (upd I 3 0) 10 0) 12 0) F F := ⟨fun j a1 _ _ a4 a5 => by rw [upd_ne _ _ a5, upd_ne _ _ a4, upd_ne _ _ a1], fun _ _ _ => rfl⟩
  rcases Nat.eq_zero_or_pos n with h0 | h0
  · subst h0
    rw [if_pos (e2.trans nI_0), ffL_0 (by decide)]
    exact ⟨_, F, rfl, okA, fun h => absurd h (by decide)⟩
  have ne0 : ¬ I 2 = 0 := by rw [e2]; exact nI_ne0 h0 (by omega)
  rw [if_neg ne0]
  obtain ⟨m0, rfl⟩ : ∃ q, n = q + 1 := ⟨n - 1, by omega⟩
  by_cases c76 : F 1 0 = 76
  · rw [if_pos c76]
    have hf1 : ffL (F 1) (m0 + 1) (m0 + 1) 0 0 0 0 = ffL (F 1) (m0 + 1) m0 1 1 0 0 := by
      rw [ffL_0S (by decide) (by rw [c76]; decide)]
      rfl
    rw [hf1]
    generalize hJ : upd (upd (upd I 3 0) 10 0) 12 0 = J at okA ⊢
    have J2 : J 2 = nI (m0 + 1) := by rw [← hJ, upd_ne _ _ (by decide), upd_ne _ _ (by decide), upd_ne _ _ (by decide)]; exact e2
    have J10 : J 10 = nI 0 := by rw [← hJ, upd_ne _ _ (by decide), upd_at]; rfl
    have J12 : J 12 = nI 0 := by rw [← hJ, upd_at]; rfl
    have fk1 : figOk 1 (J 2) := ⟨1, m0 + 1, by omega, hn, rfl, J2⟩
    rw [tr_X8_readManor_0_20 d J F sd fk1, J2]
    generalize hA : figA 9 1 (nI (m0 + 1)) (F 1) = A
    generalize hP : figP 9 1 (nI (m0 + 1)) (F 1) = P
    have bad : A = -9 → P = nI 1 → ffL (F 1) (m0 + 1) m0 1 1 0 0 = nI 1 → ∃ I' F', pm_EV (pm_run mt (d + 4)) (some .int) oX8_readManor (28, [some (.ref 0)], [], hY (upd (upd J 3 P) 8 A) F sd) = some (some (.int (ffL (F 1) (m0 + 1) m0 1 1 0 0)), hY I' F' sd) ∧ RMok I I' F F' ∧ (ffL (F 1) (m0 + 1) m0 1 1 0 0 = -9 → ∃ x y s w, x ≤ 4 ∧ y ≤ 5 ∧ s ≤ 9 ∧ w ≤ 9 ∧ I' 10 = nI x ∧ I' 12 = nI y ∧ I' 8 = nI s ∧ I' 9 = nI w ∧ DR (nI s) (nI w) x y (hmk (nI (m0 + 1)) (F 1) g) (F' 3) (F' 4)) := by
      intro q1 q2 q3
      subst q1
      subst q2
      refine ⟨upd (upd (upd J 3 (nI 1)) 8 (-9)) 9 (-9), F, ?_, ⟨fun j a1 a2 a3 a4 a5 => by rw [upd_ne _ _ a3, upd_ne _ _ a2, upd_ne _ _ a1]; exact okA.1 j a1 a2 a3 a4 a5, fun _ _ _ => rfl⟩, fun h => absurd (q3.symm.trans h) (nI_n9 (by omega))⟩
      rw [tr_X8_readManor_0_28 _ _ _ _ (fun h => absurd (upd_at _ _ _) h), if_pos (upd_at _ _ _), tr_X8_readManor_0_39, if_pos (upd_at _ _ _), q3, upd_ne _ _ (by decide), upd_ne _ _ (by decide), upd_at]
    rcases Nat.eq_zero_or_pos m0 with h1 | h1
    · subst h1
      exact bad (hA.symm.trans (figA9_n (n := 1)).1) (hP.symm.trans (figA9_n (n := 1)).2) (ffL_0 (by decide))
    obtain ⟨m1, rfl⟩ : ∃ q, m0 = q + 1 := ⟨m0 - 1, by omega⟩
    cases c1 : d9 (F 1 1)
    · have := figA9_f (k := 1) (n := m1 + 1 + 1) (b := F 1) (by omega) hn c1
      exact bad (hA.symm.trans this.1) (hP.symm.trans this.2) (ffL_no (by rw [tfit1]; exact c1))
    have t1 := figA9_t (k := 1) (n := m1 + 1 + 1) (b := F 1) (by omega) hn c1
    obtain ⟨s, hs, es, -, -⟩ := d9_v c1
    obtain rfl : A = nI s := hA.symm.trans (t1.1.trans es)
    obtain rfl : P = nI 2 := hP.symm.trans t1.2
    have hf2 : ffL (F 1) (m1 + 1 + 1) (m1 + 1) 1 1 0 0 = ffL (F 1) (m1 + 1 + 1) m1 2 2 0 0 := by
      rw [ffL_0S (by decide) (by rw [tfit1]; exact c1)]
      rfl
    rw [hf2, tr_X8_readManor_0_28 d (upd (upd J 3 (nI 2)) 8 (nI s)) F sd (fun _ => ⟨2, m1 + 1 + 1, by omega, hn, by rw [upd_ne _ _ (by decide), upd_at], by rw [upd_ne _ _ (by decide), upd_ne _ _ (by decide)]; exact J2⟩), upd_at, if_neg (nI_ne9 hs), upd_ne _ _ (show (3 : Nat) ≠ 8 by decide), upd_at, upd_ne _ _ (show (2 : Nat) ≠ 8 by decide), upd_ne _ _ (show (2 : Nat) ≠ 3 by decide), J2, tr_X8_readManor_0_39, upd_at]
    generalize hA2 : figA 9 (nI 2) (nI (m1 + 1 + 1)) (F 1) = B
    generalize hP2 : figP 9 (nI 2) (nI (m1 + 1 + 1)) (F 1) = Q
    have ok2 : RMok I (upd (upd (upd (upd J 3 (nI 2)) 8 (nI s)) 3 Q) 9 B) F F := ⟨fun j a1 a2 a3 a4 a5 => by rw [upd_ne _ _ a3, upd_ne _ _ a1, upd_ne _ _ a2, upd_ne _ _ a1]; exact okA.1 j a1 a2 a3 a4 a5, fun _ _ _ => rfl⟩
    have bad2 : B = -9 → Q = nI 2 → ffL (F 1) (m1 + 1 + 1) m1 2 2 0 0 = nI 2 → ∃ I' F', (if B = -9 then some (some (Value.int (upd (upd (upd (upd J 3 (nI 2)) 8 (nI s)) 3 Q) 9 B 3)), hY (upd (upd (upd (upd J 3 (nI 2)) 8 (nI s)) 3 Q) 9 B) F sd) else pm_EV (pm_run mt (d + 4)) (some .int) oX8_readManor (46, [some (.ref 0)], [], hY (upd (upd (upd (upd J 3 (nI 2)) 8 (nI s)) 3 Q) 9 B) F sd)) = some (some (.int (ffL (F 1) (m1 + 1 + 1) m1 2 2 0 0)), hY I' F' sd) ∧ RMok I I' F F' ∧ (ffL (F 1) (m1 + 1 + 1) m1 2 2 0 0 = -9 → ∃ x y s w, x ≤ 4 ∧ y ≤ 5 ∧ s ≤ 9 ∧ w ≤ 9 ∧ I' 10 = nI x ∧ I' 12 = nI y ∧ I' 8 = nI s ∧ I' 9 = nI w ∧ DR (nI s) (nI w) x y (hmk (nI (m1 + 1 + 1)) (F 1) g) (F' 3) (F' 4)) := by
      intro q1 q2 q3
      refine ⟨_, F, ?_, ok2, fun h => absurd (q3.symm.trans h) (nI_n9 (by omega))⟩
      rw [if_pos q1, upd_ne _ _ (by decide), upd_at, q3, q2]
    rcases Nat.eq_zero_or_pos m1 with h2 | h2
    · subst h2
      exact bad2 (hA2.symm.trans (figA9_n (n := 2)).1) (hP2.symm.trans (figA9_n (n := 2)).2) (ffL_0 (by decide))
    obtain ⟨m2, rfl⟩ : ∃ q, m1 = q + 1 := ⟨m1 - 1, by omega⟩
    cases c2 : d9 (F 1 2)
    · have := figA9_f (k := 2) (n := m2 + 1 + 1 + 1) (b := F 1) (by omega) hn c2
      exact bad2 (hA2.symm.trans this.1) (hP2.symm.trans this.2) (ffL_no (by rw [tfit2]; exact c2))
    have t2 := figA9_t (k := 2) (n := m2 + 1 + 1 + 1) (b := F 1) (by omega) hn c2
    obtain ⟨w, hw, ew, -, -⟩ := d9_v c2
    obtain rfl : B = nI w := hA2.symm.trans (t2.1.trans ew)
    obtain rfl : Q = nI 3 := hP2.symm.trans t2.2
    have hf3 : ffL (F 1) (m2 + 1 + 1 + 1) (m2 + 1) 2 2 0 0 = ffL (F 1) (m2 + 1 + 1 + 1) m2 3 3 0 0 := by
      rw [ffL_0S (by decide) (by rw [tfit2]; exact c2)]
      rfl
    rw [hf3, if_neg (nI_ne9 hw)]
    have hD := DR_0 (n := m2 + 1 + 1 + 1) (b := F 1) (g := g) (r := F 3) (a := F 4) hn (by omega)
    rw [es, ew] at hD
    obtain ⟨I', F', p1, ⟨p2, p3⟩, p8, p9, p4⟩ := rm_lp d sd (m2 + 1 + 1 + 1) hn (F 1) (nI s) (nI w) m2 m2 3 0 0 (upd (upd (upd (upd J 3 (nI 2)) 8 (nI s)) 3 (nI 3)) 9 (nI w)) F _ (Nat.le_refl _) (by omega) (by rw [upd_ne _ _ (by decide), upd_ne _ _ (by decide), upd_ne _ _ (by decide), upd_ne _ _ (by decide)]; exact J2) (by rw [upd_ne _ _ (by decide), upd_at]) (by rw [upd_ne _ _ (by decide), upd_ne _ _ (by decide), upd_ne _ _ (by decide), upd_ne _ _ (by decide)]; exact J10) (by rw [upd_ne _ _ (by decide), upd_ne _ _ (by decide), upd_ne _ _ (by decide), upd_ne _ _ (by decide)]; exact J12) (by omega) (by omega) rfl hD
    refine ⟨I', F', p1, ⟨fun j a1 a2 a3 a4 a5 => by rw [p2 j a1 a2 a3 a4 a5]; exact ok2.1 j a1 a2 a3 a4 a5, p3⟩, fun h => ?_⟩
    obtain ⟨x', y', s1, s2, s3, s4, s5⟩ := p4 h
    refine ⟨x', y', s, w, s1, s2, hs, hw, s3, s4, ?_, ?_, ?_⟩
    · rw [p8, upd_ne _ _ (by decide), upd_ne _ _ (by decide), upd_at]
    · rw [p9, upd_at]
    · unfold hmk
      rw [nI_clamp (by omega), show m2 + 1 + 1 + 1 - 3 = m2 by omega]
      exact s5
  · rw [if_neg c76, show (0 : Int32) = nI 0 from rfl]
    have hf : ffL (F 1) (m0 + 1) (m0 + 1) 0 (nI 0) (nI 0) (nI 0) = nI 0 := ffL_no (show decide (F 1 0 = 76) = false by simp [c76])
    rw [hf]
    exact ⟨_, F, rfl, okA, fun h => absurd h (by decide)⟩
theorem sp_X8_readManor_0 (d : Nat) (I : Nat → Int32) (F : Nat → Nat → Int32) (sd : Int64) {RA : Int32} {RI : Nat → Int32} {RF : Nat → Nat → Int32} (h1 : pm_run mt (d + 5) 120 [.ref 0] (hY I F sd) = some (some (.int RA), hY RI RF sd)) : pm_run mt (d + 5) 120 [.ref 0] (hY I F sd) = some (some (.int RA), hY RI RF sd) := h1
set_option maxRecDepth 100000 in
set_option maxHeartbeats 4000000 in
theorem tr_X8_fault_0_0 (d : Nat) (I : Nat → Int32) (F : Nat → Nat → Int32) (sd : Int64) (RA : Int32) (RI : Nat → Int32) (RF : Nat → Nat → Int32) (g1 : pm_run mt (d + 5) 120 [.ref 0] (hY (upd I 0 0) F sd) = some (some (.int RA), hY RI RF sd)) : pm_EV (pm_run mt (d + 5)) (some .int) oX8_fault (0, [some (.ref 0)], [], (hY I F sd)) = some (some (.int RA), (hY RI RF sd)) := by
  refine Eq.trans (b := pm_EV (pm_run mt (d + 5)) (some .int) oX8_fault (5, [some (.ref 0)], [.int RA], (hY RI RF sd))) (pm_EV_cl 4 (call := pm_run mt (d + 5)) (d := (4, [some (.ref 0)], [.ref 0], (hY (upd I 0 0) F sd))) (a := 120) (as := [.ref 0]) (hp := (hY (upd I 0 0) F sd)) (hp2 := (hY RI RF sd)) (i2 := 5) (ls := [some (.ref 0)]) (rest := []) (r := some (.int RA)) rfl rfl (sp_X8_readManor_0 (d + 0) (upd I 0 0) F sd  g1)) ?_
  exact pm_EV_at 0 (d := (5, [some (.ref 0)], [.int RA], (hY RI RF sd))) rfl rfl
set_option maxRecDepth 100000 in
set_option maxHeartbeats 4000000 in
theorem en_X8_fault_0 (d : Nat) (I : Nat → Int32) (F : Nat → Nat → Int32) (sd : Int64) (RA : Int32) (RI : Nat → Int32) (RF : Nat → Nat → Int32) : pm_run mt (d + 6) 121 [.ref 0] (hY I F sd) = pm_EV (pm_run mt (d + 5)) (some .int) oX8_fault (0, [some (.ref 0)], [], (hY I F sd)) := rfl
set_option maxRecDepth 100000 in
set_option maxHeartbeats 4000000 in
theorem sp_X8_fault_0 (d : Nat) (I : Nat → Int32) (F : Nat → Nat → Int32) (sd : Int64) (RA : Int32) (RI : Nat → Int32) (RF : Nat → Nat → Int32) (h1 : pm_run mt (d + 5) 120 [.ref 0] (hY (upd I 0 0) F sd) = some (some (.int RA), hY RI RF sd)) : pm_run mt (d + 6) 121 [.ref 0] (hY I F sd) = some (some (.int RA), (hY RI RF sd)) := by
  rw [en_X8_fault_0 d I F sd RA RI RF, tr_X8_fault_0_0 d I F sd RA RI RF h1]
set_option maxRecDepth 100000 in
set_option maxHeartbeats 4000000 in
theorem tr_X8_manor_0_0 (d : Nat) (I : Nat → Int32) (F : Nat → Nat → Int32) (sd : Int64) (RA : Int32) (RI : Nat → Int32) (RF : Nat → Nat → Int32) (g1 : pm_run mt (d + 5) 120 [.ref 0] (hY (upd I 0 0) F sd) = some (some (.int RA), hY RI RF sd)) : pm_EV (pm_run mt (d + 5)) (some .int) oX8_manor (0, [some (.ref 0), none], [], (hY I F sd)) = (if RA = (-9) then pm_EV (pm_run mt (d + 5)) (some .int) oX8_manor (9, [some (.ref 0), none], [], (hY RI RF sd)) else some (some (.int (-3)), (hY RI RF sd))) := by
  refine Eq.trans (b := pm_EV (pm_run mt (d + 5)) (some .int) oX8_manor (5, [some (.ref 0), none], [.int RA], (hY RI RF sd))) (pm_EV_cl 4 (call := pm_run mt (d + 5)) (d := (4, [some (.ref 0), none], [.ref 0], (hY (upd I 0 0) F sd))) (a := 120) (as := [.ref 0]) (hp := (hY (upd I 0 0) F sd)) (hp2 := (hY RI RF sd)) (i2 := 5) (ls := [some (.ref 0), none]) (rest := []) (r := some (.int RA)) rfl rfl (sp_X8_readManor_0 (d + 0) (upd I 0 0) F sd  g1)) ?_
  refine Eq.trans (pm_EV_at 1 (d := (6, [some (.ref 0), none], [.int (-9), .int RA], (hY RI RF sd))) (x := if RA = (-9) then .inl (9, [some (.ref 0), none], [], (hY RI RF sd)) else .inl (7, [some (.ref 0), none], [], (hY RI RF sd))) rfl rfl) ?_
  refine pm_rc (fun p1 => ?_) (fun p1 => ?_)
  · show pm_EV (pm_run mt (d + 5)) (some .int) oX8_manor (9, [some (.ref 0), none], [], (hY RI RF sd)) = _
    rfl
  · show pm_EV (pm_run mt (d + 5)) (some .int) oX8_manor (7, [some (.ref 0), none], [], (hY RI RF sd)) = _
    exact pm_EV_at 1 (d := (8, [some (.ref 0), none], [.int (-3)], (hY RI RF sd))) rfl rfl
set_option maxRecDepth 100000 in
set_option maxHeartbeats 4000000 in
theorem tr_X8_manor_0_9 (d : Nat) (I : Nat → Int32) (F : Nat → Nat → Int32) (sd : Int64) (RA : Int32) (RI : Nat → Int32) (RF : Nat → Nat → Int32) : pm_EV (pm_run mt (d + 5)) (some .int) oX8_manor (9, [some (.ref 0), none], [], (hY I F sd)) = pm_EV (pm_run mt (d + 5)) (some .int) oX8_manor (23, [some (.ref 0), some (.int 0)], [], (hY (upd (upd (upd I 4 (I 8)) 5 (I 10)) 7 (I 12)) F sd)) := by
  exact pm_EV_go 14 (d := (23, [some (.ref 0), some (.int 0)], [], (hY (upd (upd (upd I 4 (I 8)) 5 (I 10)) 7 (I 12)) F sd))) rfl
set_option maxRecDepth 100000 in
set_option maxHeartbeats 4000000 in
theorem tr_X8_manor_0_23 (d : Nat) (I : Nat → Int32) (F : Nat → Nat → Int32) (sd : Int64) (RA : Int32) (RI : Nat → Int32) (RF : Nat → Nat → Int32) (x1 : Int32) (g1 : (x1 < 21) → pm_in x1 21 = true) : pm_EV (pm_run mt (d + 5)) (some .int) oX8_manor (23, [some (.ref 0), some (.int x1)], [], (hY I F sd)) = (if x1 < 21 then pm_EV (pm_run mt (d + 5)) (some .int) oX8_manor (23, [some (.ref 0), some (.int (x1 + 1))], [], (hY I (uF F 5 (upd (F 5) x1.toNatClampNeg 0)) sd)) else pm_EV (pm_run mt (d + 5)) (some .int) oX8_manor (35, [some (.ref 0), some (.int 0)], [], (hY I F sd))) := by
  refine Eq.trans (pm_EV_at 2 (d := (25, [some (.ref 0), some (.int x1)], [.int 21, .int x1], (hY I F sd))) (x := if x1 < 21 then .inl (26, [some (.ref 0), some (.int x1)], [], (hY I F sd)) else .inl (33, [some (.ref 0), some (.int x1)], [], (hY I F sd))) rfl rfl) ?_
  refine pm_rc (fun p1 => ?_) (fun p1 => ?_)
  · show pm_EV (pm_run mt (d + 5)) (some .int) oX8_manor (26, [some (.ref 0), some (.int x1)], [], (hY I F sd)) = _
    refine Eq.trans (b := pm_EV (pm_run mt (d + 5)) (some .int) oX8_manor (31, [some (.ref 0), some (.int x1)], [], ((hY I F sd)).set 5 (.inl (0, 21, .inl (upd (F 5) x1.toNatClampNeg 0))))) (pm_EV_gd 4 (d := (30, [some (.ref 0), some (.int x1)], [.int 0, .int x1, .ref 5], (hY I F sd))) (c1 := (31, [some (.ref 0), some (.int x1)], [], ((hY I F sd)).set 5 (.inl (0, 21, .inl (upd (F 5) x1.toNatClampNeg 0))))) rfl rfl ⟨rfl, g1 p1⟩) ?_
    refine Eq.trans (b := pm_EV (pm_run mt (d + 5)) (some .int) oX8_manor (31, [some (.ref 0), some (.int x1)], [], (hY I (uF F 5 (upd (F 5) x1.toNatClampNeg 0)) sd))) (congrArg (fun hz => pm_EV (pm_run mt (d + 5)) (some .int) oX8_manor (31, [some (.ref 0), some (.int x1)], [], hz)) (hY_s5 I F sd (upd (F 5) x1.toNatClampNeg 0))) ?_
    exact pm_EV_go 2 (d := (23, [some (.ref 0), some (.int (x1 + 1))], [], (hY I (uF F 5 (upd (F 5) x1.toNatClampNeg 0)) sd))) rfl
  · show pm_EV (pm_run mt (d + 5)) (some .int) oX8_manor (33, [some (.ref 0), some (.int x1)], [], (hY I F sd)) = _
    exact pm_EV_go 2 (d := (35, [some (.ref 0), some (.int 0)], [], (hY I F sd))) rfl
set_option maxRecDepth 100000 in
set_option maxHeartbeats 4000000 in
theorem tr_X8_manor_0_35 (d : Nat) (I : Nat → Int32) (F : Nat → Nat → Int32) (sd : Int64) (RA : Int32) (RI : Nat → Int32) (RF : Nat → Nat → Int32) (x1 : Int32) (g1 : (x1 < (I 5)) → pm_in (2 * x1) 8 = true) (g2 : (x1 < (I 5)) → pm_in x1 21 = true) : pm_EV (pm_run mt (d + 5)) (some .int) oX8_manor (35, [some (.ref 0), some (.int x1)], [], (hY I F sd)) = (if x1 < (I 5) then pm_EV (pm_run mt (d + 5)) (some .int) oX8_manor (49, [some (.ref 0), some (.int x1)], [], (hY I (uF F 5 (upd (F 5) x1.toNatClampNeg ((F 3) (2 * x1).toNatClampNeg))) sd)) else pm_EV (pm_run mt (d + 5)) (some .int) oX8_manor (65, [some (.ref 0), some (.int 0)], [], (hY I F sd))) := by
  refine Eq.trans (pm_EV_at 3 (d := (38, [some (.ref 0), some (.int x1)], [.int (I 5), .int x1], (hY I F sd))) (x := if x1 < (I 5) then .inl (39, [some (.ref 0), some (.int x1)], [], (hY I F sd)) else .inl (63, [some (.ref 0), some (.int x1)], [], (hY I F sd))) rfl rfl) ?_
  refine pm_rc (fun p1 => ?_) (fun p1 => ?_)
  · show pm_EV (pm_run mt (d + 5)) (some .int) oX8_manor (39, [some (.ref 0), some (.int x1)], [], (hY I F sd)) = _
    refine Eq.trans (b := pm_EV (pm_run mt (d + 5)) (some .int) oX8_manor (48, [some (.ref 0), some (.int x1)], [.int ((F 3) (2 * x1).toNatClampNeg), .int x1, .ref 5], (hY I F sd))) (pm_EV_gd 8 (d := (47, [some (.ref 0), some (.int x1)], [.int (2 * x1), .ref 3, .int x1, .ref 5], (hY I F sd))) (c1 := (48, [some (.ref 0), some (.int x1)], [.int ((F 3) (2 * x1).toNatClampNeg), .int x1, .ref 5], (hY I F sd))) rfl rfl (⟨rfl, g1 p1⟩)) ?_
    refine Eq.trans (b := pm_EV (pm_run mt (d + 5)) (some .int) oX8_manor (49, [some (.ref 0), some (.int x1)], [], ((hY I F sd)).set 5 (.inl (0, 21, .inl (upd (F 5) x1.toNatClampNeg ((F 3) (2 * x1).toNatClampNeg)))))) (pm_EV_gd 0 (d := (48, [some (.ref 0), some (.int x1)], [.int ((F 3) (2 * x1).toNatClampNeg), .int x1, .ref 5], (hY I F sd))) (c1 := (49, [some (.ref 0), some (.int x1)], [], ((hY I F sd)).set 5 (.inl (0, 21, .inl (upd (F 5) x1.toNatClampNeg ((F 3) (2 * x1).toNatClampNeg)))))) rfl rfl ⟨rfl, g2 p1⟩) ?_
    refine Eq.trans (b := pm_EV (pm_run mt (d + 5)) (some .int) oX8_manor (49, [some (.ref 0), some (.int x1)], [], (hY I (uF F 5 (upd (F 5) x1.toNatClampNeg ((F 3) (2 * x1).toNatClampNeg))) sd))) (congrArg (fun hz => pm_EV (pm_run mt (d + 5)) (some .int) oX8_manor (49, [some (.ref 0), some (.int x1)], [], hz)) (hY_s5 I F sd (upd (F 5) x1.toNatClampNeg ((F 3) (2 * x1).toNatClampNeg)))) ?_
    rfl
  · show pm_EV (pm_run mt (d + 5)) (some .int) oX8_manor (63, [some (.ref 0), some (.int x1)], [], (hY I F sd)) = _
    exact pm_EV_go 2 (d := (65, [some (.ref 0), some (.int 0)], [], (hY I F sd))) rfl
set_option maxRecDepth 100000 in
set_option maxHeartbeats 4000000 in
theorem tr_X8_manor_0_49 (d : Nat) (I : Nat → Int32) (F : Nat → Nat → Int32) (sd : Int64) (RA : Int32) (RI : Nat → Int32) (RF : Nat → Nat → Int32) (x1 : Int32) (g1 : pm_in ((2 * x1) + 1) 8 = true) (g2 : pm_in x1 4 = true) : pm_EV (pm_run mt (d + 5)) (some .int) oX8_manor (49, [some (.ref 0), some (.int x1)], [], (hY I F sd)) = pm_EV (pm_run mt (d + 5)) (some .int) oX8_manor (35, [some (.ref 0), some (.int (x1 + 1))], [], (hY I (uF F 2 (upd (F 2) x1.toNatClampNeg ((F 3) ((2 * x1) + 1).toNatClampNeg))) sd)) := by
  refine Eq.trans (b := pm_EV (pm_run mt (d + 5)) (some .int) oX8_manor (60, [some (.ref 0), some (.int x1)], [.int ((F 3) ((2 * x1) + 1).toNatClampNeg), .int x1, .ref 2], (hY I F sd))) (pm_EV_gd 10 (d := (59, [some (.ref 0), some (.int x1)], [.int ((2 * x1) + 1), .ref 3, .int x1, .ref 2], (hY I F sd))) (c1 := (60, [some (.ref 0), some (.int x1)], [.int ((F 3) ((2 * x1) + 1).toNatClampNeg), .int x1, .ref 2], (hY I F sd))) rfl rfl (⟨rfl, g1⟩)) ?_
  refine Eq.trans (b := pm_EV (pm_run mt (d + 5)) (some .int) oX8_manor (61, [some (.ref 0), some (.int x1)], [], ((hY I F sd)).set 2 (.inl (0, 4, .inl (upd (F 2) x1.toNatClampNeg ((F 3) ((2 * x1) + 1).toNatClampNeg)))))) (pm_EV_gd 0 (d := (60, [some (.ref 0), some (.int x1)], [.int ((F 3) ((2 * x1) + 1).toNatClampNeg), .int x1, .ref 2], (hY I F sd))) (c1 := (61, [some (.ref 0), some (.int x1)], [], ((hY I F sd)).set 2 (.inl (0, 4, .inl (upd (F 2) x1.toNatClampNeg ((F 3) ((2 * x1) + 1).toNatClampNeg)))))) rfl rfl ⟨rfl, g2⟩) ?_
  refine Eq.trans (b := pm_EV (pm_run mt (d + 5)) (some .int) oX8_manor (61, [some (.ref 0), some (.int x1)], [], (hY I (uF F 2 (upd (F 2) x1.toNatClampNeg ((F 3) ((2 * x1) + 1).toNatClampNeg))) sd))) (congrArg (fun hz => pm_EV (pm_run mt (d + 5)) (some .int) oX8_manor (61, [some (.ref 0), some (.int x1)], [], hz)) (hY_s2 I F sd (upd (F 2) x1.toNatClampNeg ((F 3) ((2 * x1) + 1).toNatClampNeg)))) ?_
  exact pm_EV_go 2 (d := (35, [some (.ref 0), some (.int (x1 + 1))], [], (hY I (uF F 2 (upd (F 2) x1.toNatClampNeg ((F 3) ((2 * x1) + 1).toNatClampNeg))) sd))) rfl
set_option maxRecDepth 100000 in
set_option maxHeartbeats 4000000 in
theorem tr_X8_manor_0_65 (d : Nat) (I : Nat → Int32) (F : Nat → Nat → Int32) (sd : Int64) (RA : Int32) (RI : Nat → Int32) (RF : Nat → Nat → Int32) (x1 : Int32) (g1 : (x1 < (I 7)) → pm_in x1 5 = true) (g2 : (x1 < (I 7)) → pm_in (12 + x1) 21 = true) : pm_EV (pm_run mt (d + 5)) (some .int) oX8_manor (65, [some (.ref 0), some (.int x1)], [], (hY I F sd)) = (if x1 < (I 7) then pm_EV (pm_run mt (d + 5)) (some .int) oX8_manor (65, [some (.ref 0), some (.int (x1 + 1))], [], (hY I (uF F 5 (upd (F 5) (12 + x1).toNatClampNeg ((F 4) x1.toNatClampNeg))) sd)) else pm_EV (pm_run mt (d + 5)) (some .int) oX8_manor (81, [some (.ref 0), some (.int x1)], [], (hY I F sd))) := by
  refine Eq.trans (pm_EV_at 3 (d := (68, [some (.ref 0), some (.int x1)], [.int (I 7), .int x1], (hY I F sd))) (x := if x1 < (I 7) then .inl (69, [some (.ref 0), some (.int x1)], [], (hY I F sd)) else .inl (81, [some (.ref 0), some (.int x1)], [], (hY I F sd))) rfl rfl) ?_
  refine pm_rc (fun p1 => ?_) (fun p1 => ?_)
  · show pm_EV (pm_run mt (d + 5)) (some .int) oX8_manor (69, [some (.ref 0), some (.int x1)], [], (hY I F sd)) = _
    refine Eq.trans (b := pm_EV (pm_run mt (d + 5)) (some .int) oX8_manor (78, [some (.ref 0), some (.int x1)], [.int ((F 4) x1.toNatClampNeg), .int (12 + x1), .ref 5], (hY I F sd))) (pm_EV_gd 8 (d := (77, [some (.ref 0), some (.int x1)], [.int x1, .ref 4, .int (12 + x1), .ref 5], (hY I F sd))) (c1 := (78, [some (.ref 0), some (.int x1)], [.int ((F 4) x1.toNatClampNeg), .int (12 + x1), .ref 5], (hY I F sd))) rfl rfl (⟨rfl, g1 p1⟩)) ?_
    refine Eq.trans (b := pm_EV (pm_run mt (d + 5)) (some .int) oX8_manor (79, [some (.ref 0), some (.int x1)], [], ((hY I F sd)).set 5 (.inl (0, 21, .inl (upd (F 5) (12 + x1).toNatClampNeg ((F 4) x1.toNatClampNeg)))))) (pm_EV_gd 0 (d := (78, [some (.ref 0), some (.int x1)], [.int ((F 4) x1.toNatClampNeg), .int (12 + x1), .ref 5], (hY I F sd))) (c1 := (79, [some (.ref 0), some (.int x1)], [], ((hY I F sd)).set 5 (.inl (0, 21, .inl (upd (F 5) (12 + x1).toNatClampNeg ((F 4) x1.toNatClampNeg)))))) rfl rfl ⟨rfl, g2 p1⟩) ?_
    refine Eq.trans (b := pm_EV (pm_run mt (d + 5)) (some .int) oX8_manor (79, [some (.ref 0), some (.int x1)], [], (hY I (uF F 5 (upd (F 5) (12 + x1).toNatClampNeg ((F 4) x1.toNatClampNeg))) sd))) (congrArg (fun hz => pm_EV (pm_run mt (d + 5)) (some .int) oX8_manor (79, [some (.ref 0), some (.int x1)], [], hz)) (hY_s5 I F sd (upd (F 5) (12 + x1).toNatClampNeg ((F 4) x1.toNatClampNeg)))) ?_
    exact pm_EV_go 2 (d := (65, [some (.ref 0), some (.int (x1 + 1))], [], (hY I (uF F 5 (upd (F 5) (12 + x1).toNatClampNeg ((F 4) x1.toNatClampNeg))) sd))) rfl
  · show pm_EV (pm_run mt (d + 5)) (some .int) oX8_manor (81, [some (.ref 0), some (.int x1)], [], (hY I F sd)) = _
    rfl
set_option maxRecDepth 100000 in
set_option maxHeartbeats 4000000 in
theorem tr_X8_manor_0_81 (d : Nat) (I : Nat → Int32) (F : Nat → Nat → Int32) (sd : Int64) (RA : Int32) (RI : Nat → Int32) (RF : Nat → Nat → Int32) (x1 : Int32) : pm_EV (pm_run mt (d + 5)) (some .int) oX8_manor (81, [some (.ref 0), some (.int x1)], [], (hY I F sd)) = pm_EV (pm_run mt (d + 5)) (some .int) oX8_manor (90, [some (.ref 0), some (.int x1)], [], (hY (upd I 17 0) (uF F 5 (upd (F 5) 19 (I 9))) sd)) := by
  refine Eq.trans (b := pm_EV (pm_run mt (d + 5)) (some .int) oX8_manor (87, [some (.ref 0), some (.int x1)], [], ((hY I F sd)).set 5 (.inl (0, 21, .inl (upd (F 5) 19 (I 9)))))) (pm_EV_go 6 (d := (87, [some (.ref 0), some (.int x1)], [], ((hY I F sd)).set 5 (.inl (0, 21, .inl (upd (F 5) 19 (I 9)))))) rfl) ?_
  refine Eq.trans (b := pm_EV (pm_run mt (d + 5)) (some .int) oX8_manor (87, [some (.ref 0), some (.int x1)], [], (hY I (uF F 5 (upd (F 5) 19 (I 9))) sd))) (congrArg (fun hz => pm_EV (pm_run mt (d + 5)) (some .int) oX8_manor (87, [some (.ref 0), some (.int x1)], [], hz)) (hY_s5 I F sd (upd (F 5) 19 (I 9)))) ?_
  exact pm_EV_go 3 (d := (90, [some (.ref 0), some (.int x1)], [], (hY (upd I 17 0) (uF F 5 (upd (F 5) 19 (I 9))) sd))) rfl
set_option maxRecDepth 100000 in
set_option maxHeartbeats 4000000 in
theorem tr_X8_manor_0_90 (d : Nat) (I : Nat → Int32) (F : Nat → Nat → Int32) (sd : Int64) (RA : Int32) (RI : Nat → Int32) (RF : Nat → Nat → Int32) (x1 : Int32) : pm_EV (pm_run mt (d + 5)) (some .int) oX8_manor (90, [some (.ref 0), some (.int x1)], [], (hY I F sd)) = some (some (.int ((10 * (I 5)) + (I 7))), (hY I (uF (uF F 9 (upd (F 9) 0 (vp_nar .boolean 0))) 9 (upd ((uF F 9 (upd (F 9) 0 (vp_nar .boolean 0))) 9) 1 (vp_nar .boolean 0))) sd)) := by
  refine Eq.trans (b := pm_EV (pm_run mt (d + 5)) (some .int) oX8_manor (95, [some (.ref 0), some (.int x1)], [], ((hY I F sd)).set 9 (.inl (1, 2, .inl (upd (F 9) 0 (vp_nar .boolean 0)))))) (pm_EV_go 5 (d := (95, [some (.ref 0), some (.int x1)], [], ((hY I F sd)).set 9 (.inl (1, 2, .inl (upd (F 9) 0 (vp_nar .boolean 0)))))) rfl) ?_
  refine Eq.trans (b := pm_EV (pm_run mt (d + 5)) (some .int) oX8_manor (95, [some (.ref 0), some (.int x1)], [], (hY I (uF F 9 (upd (F 9) 0 (vp_nar .boolean 0))) sd))) (congrArg (fun hz => pm_EV (pm_run mt (d + 5)) (some .int) oX8_manor (95, [some (.ref 0), some (.int x1)], [], hz)) (hY_s9 I F sd (upd (F 9) 0 (vp_nar .boolean 0)))) ?_
  refine Eq.trans (b := pm_EV (pm_run mt (d + 5)) (some .int) oX8_manor (100, [some (.ref 0), some (.int x1)], [], ((hY I (uF F 9 (upd (F 9) 0 (vp_nar .boolean 0))) sd)).set 9 (.inl (1, 2, .inl (upd ((uF F 9 (upd (F 9) 0 (vp_nar .boolean 0))) 9) 1 (vp_nar .boolean 0)))))) (pm_EV_go 5 (d := (100, [some (.ref 0), some (.int x1)], [], ((hY I (uF F 9 (upd (F 9) 0 (vp_nar .boolean 0))) sd)).set 9 (.inl (1, 2, .inl (upd ((uF F 9 (upd (F 9) 0 (vp_nar .boolean 0))) 9) 1 (vp_nar .boolean 0)))))) rfl) ?_
  refine Eq.trans (b := pm_EV (pm_run mt (d + 5)) (some .int) oX8_manor (100, [some (.ref 0), some (.int x1)], [], (hY I (uF (uF F 9 (upd (F 9) 0 (vp_nar .boolean 0))) 9 (upd ((uF F 9 (upd (F 9) 0 (vp_nar .boolean 0))) 9) 1 (vp_nar .boolean 0))) sd))) (congrArg (fun hz => pm_EV (pm_run mt (d + 5)) (some .int) oX8_manor (100, [some (.ref 0), some (.int x1)], [], hz)) (hY_s9 I (uF F 9 (upd (F 9) 0 (vp_nar .boolean 0))) sd (upd ((uF F 9 (upd (F 9) 0 (vp_nar .boolean 0))) 9) 1 (vp_nar .boolean 0)))) ?_
  exact pm_EV_at 7 (d := (107, [some (.ref 0), some (.int x1)], [.int ((10 * (I 5)) + (I 7))], (hY I (uF (uF F 9 (upd (F 9) 0 (vp_nar .boolean 0))) 9 (upd ((uF F 9 (upd (F 9) 0 (vp_nar .boolean 0))) 9) 1 (vp_nar .boolean 0))) sd))) rfl rfl
