/-! call by call: the same answer, and the states stay held -/
def OPi (c : Nat) (I : Nat → Int32) (F : Nat → Nat → Int32) (J : Nat → Int32) (G : Nat → Nat → Int32) (sd : Int64) (kx ky : Nat) (as : List Value) : Prop := ∃ x I2 F2 J2 G2 sd2, pm_run mt 10 kx (.ref 0 :: as) (hX I F sd) = some (some (.int x), hX I2 F2 sd2) ∧ pm_run mt 10 ky (.ref 0 :: as) (hY J G sd) = some (some (.int x), hY J2 G2 sd2) ∧ SR (c + 1) I2 F2 J2 G2
section
variable {c : Nat} {I J : Nat → Int32} {F G : Nat → Nat → Int32} {sd : Int64}
theorem op_write (h : SR c I F J G) (l : Int32) : OPi c I F J G sd 70 114 [.int l] := by
  obtain ⟨a, b, s, h0, ⟨t1, t2, t3⟩, h2, h3, h4, h5⟩ := h
  have eX := (en_X7_write_0 8 I F sd l).trans (tr_X7_write_0_0 8 I F sd l t1)
  have eY := sp_X8_write_0 8 J G sd l (by rw [t2]; exact t1)
  rw [t2] at eY
  refine ⟨_, _, _, _, _, _, eX, eY, a, b, s, QR_up h0, ⟨?_, rfl, ?_⟩, MN_up h2, PS_up h3, SL_up h4, h5⟩
  · obtain ⟨n, hn, en⟩ := t1
    show txOk (txN (I 0) l)
    unfold txN
    by_cases g : txG (I 0) l
    · rw [if_pos g, en, nI_p1]
      have g3 := g.2.2
      rw [en, show (48 : Int32) = nI 48 from rfl, nI_ltI (by omega) (by decide)] at g3
      exact ⟨n + 1, by omega, rfl⟩
    · rw [if_neg g]
      exact ⟨n, hn, en⟩
  · show txB (I 0) l (G 1) = txB (I 0) l (F 2)
    rw [t3]
theorem op_wipe (h : SR c I F J G) : OPi c I F J G sd 71 115 [] := by
  obtain ⟨a, b, s, h0, ⟨t1, t2, t3⟩, h2, h3, h4, h5⟩ := h
  have eX := (en_X7_wipe_0 8 I F sd).trans (tr_X7_wipe_0_0 8 I F sd)
  have eY := sp_X8_wipe_0 9 J G sd
  rw [t2] at eY
  exact ⟨_, _, _, _, _, _, eX, eY, a, b, s, QR_up h0, ⟨⟨0, by omega, rfl⟩, rfl, t3⟩, MN_up h2, PS_up h3, SL_up h4, h5⟩
theorem op_fault (h : SR c I F J G) : OPi c I F J G sd 72 121 [] := by
  obtain ⟨a, b, s, h0, ⟨t1, t2, t3⟩, h2, h3, h4, h5⟩ := id h
  have eX := (en_X7_fault_0 7 I F sd).trans (tr_X7_fault_0_0 7 I F sd t1)
  obtain ⟨n, hn, en⟩ := t1
  obtain ⟨J2, G2, e1, ⟨e2, e3⟩, -⟩ := rm_all 4 (upd J 0 0) G sd n hn (show upd J 0 0 2 = nI n by rw [upd_ne _ _ (by decide), t2, en]) (F 4)
  have eY := sp_X8_fault_0 4 J G sd _ J2 G2 e1
  rw [t3, ← en] at eY
  have f := fun j (h1 : j ≠ 3) (h2 : j ≠ 8) (h3 : j ≠ 9) (h4 : j ≠ 10) (h5 : j ≠ 12) (h0 : j ≠ 0) => (e2 j h1 h2 h3 h4 h5).trans (upd_ne J 0 h0)
  exact ⟨_, _, _, _, _, _, eX, eY, SR_up h (fun _ _ => rfl) ⟨rfl, rfl, rfl, rfl⟩ ⟨f 2 (by decide) (by decide) (by decide) (by decide) (by decide) (by decide), f 4 (by decide) (by decide) (by decide) (by decide) (by decide) (by decide), f 5 (by decide) (by decide) (by decide) (by decide) (by decide) (by decide), f 7 (by decide) (by decide) (by decide) (by decide) (by decide) (by decide), f 17 (by decide) (by decide) (by decide) (by decide) (by decide) (by decide), f 20 (by decide) (by decide) (by decide) (by decide) (by decide) (by decide)⟩ ⟨e3 1 (by decide) (by decide), e3 2 (by decide) (by decide), e3 5 (by decide) (by decide), e3 7 (by decide) (by decide), e3 8 (by decide) (by decide), e3 9 (by decide) (by decide), e3 10 (by decide) (by decide), e3 11 (by decide) (by decide)⟩⟩
theorem op_manor (h : SR c I F J G) : OPi c I F J G sd 73 122 [] := by
  obtain ⟨a, b, s, h0, ⟨t1, t2, t3⟩, h2, h3, h4, h5⟩ := id h
  have eX := (en_X7_manor_0 6 I F sd).trans (tr_X7_manor_0_0 6 I F sd t1 (fun _ => t1))
  obtain ⟨n, hn, en⟩ := t1
  obtain ⟨J2, G2, e1, ⟨e2, e3⟩, e4⟩ := rm_all 4 (upd J 0 0) G sd n hn (show upd J 0 0 2 = nI n by rw [upd_ne _ _ (by decide), t2, en]) (F 4)
  have f := fun j (h1 : j ≠ 3) (h2 : j ≠ 8) (h3 : j ≠ 9) (h4 : j ≠ 10) (h5 : j ≠ 12) (h0 : j ≠ 0) => (e2 j h1 h2 h3 h4 h5).trans (upd_ne J 0 h0)
  by_cases hf : ffault (I 0) (F 2) = -9
  · rw [if_pos hf] at eX
    rw [t3, ← en] at e1 e4
    obtain ⟨x, y, z, w, hx, hy, hz, hw, e10, e12, e8, e9, D⟩ := e4 hf
    rw [hf] at e1
    obtain ⟨G3, eY, m1, m2, m3, m4, m5, m6, m7⟩ := mn_yes 4 J G sd J2 G2 x y hx hy e10 e12 e1
    obtain ⟨d1, d2, d3, d4, d5, d6, d7, d8, d9, d10⟩ := D
    rw [d1, d2] at eX
    generalize hmk (I 0) (F 2) (F 4) = g at *
    have z5 : ∀ j, x ≤ j → j < 12 → G3 5 j = 0 := fun j h1 h2 => m5 j h1 (by omega) (by omega) (Or.inl h2)
    have z6 : ∀ j, 12 + y ≤ j → j < 21 → j ≠ 19 → G3 5 j = 0 := fun j h1 h2 h3 => m5 j (by omega) h2 h3 (Or.inr h1)
    refine ⟨_, _, _, _, _, _, eX, eY, x, y, z, ⟨⟨0, by omega, z6 20 (by omega) (by decide) (by decide)⟩, fun i hi => ?_, fun k hk => ?_⟩, ⟨⟨n, hn, en⟩, ?_, ?_⟩, ⟨hx, hy, hz, ?_, ?_, ?_, ⟨d1, d2, d3, ?_, ?_, ?_, ?_, ?_, ?_⟩, ⟨?_, ?_, ?_, ?_, ?_, ?_, ?_⟩⟩, ?_, SL_0 m6 m7, ?_⟩
    · show QG (c + 1) (G3 7 (21 * i + 20))
      rw [m1 7 (by decide) (by decide) (by decide), e3 7 (by decide) (by decide)]
      exact QG_up (h0.2.1 i hi)
    · show QG (c + 1) (G3 8 (21 * k + 20))
      rw [m1 8 (by decide) (by decide) (by decide), e3 8 (by decide) (by decide)]
      exact QG_up (h0.2.2 k hk)
    · exact (f 2 (by decide) (by decide) (by decide) (by decide) (by decide) (by decide)).trans t2
    · show G3 1 = F 2
      rw [m1 1 (by decide) (by decide) (by decide), e3 1 (by decide) (by decide), t3]
    · exact e8
    · exact e10
    · exact e12
    · intro j hj
      show g (4 + j) = G3 5 j
      rcases (show j < 4 ∨ (4 ≤ j ∧ j < 12) ∨ 12 ≤ j by omega) with l | l | l
      · by_cases lx : j < x
        · rw [(d5 j lx).1, (m2 j lx).1]
        · rw [d6 j (by omega) l, z5 j (by omega) (by omega)]
      · rw [d9 (4 + j) (by omega) (by omega), z5 j (by omega) (by omega)]
      · obtain ⟨t, rfl⟩ : ∃ t, j = 12 + t := ⟨j - 12, by omega⟩
        rw [show 4 + (12 + t) = 16 + t by omega]
        by_cases ly : t < y
        · rw [(d7 t ly).1, m3 t ly]
        · rw [d8 t (by omega) (by omega), z6 (12 + t) (by omega) (by omega) (by omega)]
    · show g 26 = G3 5 17
      rw [d10 26 (by decide) (by decide), z6 17 (by omega) (by decide) (by decide)]
    · show g 25 = G3 5 18
      rw [d10 25 (by decide) (by decide), z6 18 (by omega) (by decide) (by decide)]
    · show g 24 = G3 5 19
      rw [d4, m4, e9]
    · show g 27 = G3 5 20
      rw [d10 27 (by decide) (by decide), z6 20 (by omega) (by decide) (by decide)]
    · intro j hj
      show g j = G3 2 j
      rw [(d5 j hj).2.1, (m2 j hj).2]
    · intro j hj
      show ∃ v, v ≤ 999 ∧ G3 5 j = nI v
      by_cases lx : j < x
      · obtain ⟨v, hv, ev⟩ := (d5 j lx).2.2
        exact ⟨v, by omega, by rw [(m2 j lx).1, ev]⟩
      · exact ⟨0, by omega, z5 j (by omega) (by omega)⟩
    · intro j hj
      exact ⟨0, by omega, z5 (4 + j) (by omega) (by omega)⟩
    · intro j hj
      exact ⟨0, by omega, z5 (8 + j) (by omega) (by omega)⟩
    · intro j hj hj2
      exact ⟨z5 (4 + j) (by omega) (by omega), z5 (8 + j) (by omega) (by omega)⟩
    · intro t ht
      show inr (G3 5 (12 + t)) 10 = true
      rw [m3 t ht]
      exact (d7 t ht).2
    · exact ⟨0, by decide, z6 17 (by omega) (by decide) (by decide)⟩
    · show inr (G3 5 19) 10 = true
      rw [m4, e9]
      exact inr_mk (n := 10) (by decide) (by omega)
    · obtain ⟨fs, sz, g1, g2, g3, -⟩ := h3
      show PSr (c + 1) x y z (I 1) 0 0 _ _ _
      rw [g3]
      exact PS_0 fs g1
    · show SDr (I 4) (I 5) (I 6) (J2 20) (G3 10) (G3 11)
      rw [f 20 (by decide) (by decide) (by decide) (by decide) (by decide) (by decide), m1 10 (by decide) (by decide) (by decide), m1 11 (by decide) (by decide) (by decide), e3 10 (by decide) (by decide), e3 11 (by decide) (by decide)]
      exact h5
  · rw [if_neg hf] at eX
    have eY := mn_no 4 J G sd _ J2 G2 (by rw [t3, ← en]; exact hf) e1
    exact ⟨_, _, _, _, _, _, eX, eY, SR_up h (fun _ _ => rfl) ⟨rfl, rfl, rfl, rfl⟩ ⟨f 2 (by decide) (by decide) (by decide) (by decide) (by decide) (by decide), f 4 (by decide) (by decide) (by decide) (by decide) (by decide) (by decide), f 5 (by decide) (by decide) (by decide) (by decide) (by decide) (by decide), f 7 (by decide) (by decide) (by decide) (by decide) (by decide) (by decide), f 17 (by decide) (by decide) (by decide) (by decide) (by decide) (by decide), f 20 (by decide) (by decide) (by decide) (by decide) (by decide) (by decide)⟩ ⟨e3 1 (by decide) (by decide), e3 2 (by decide) (by decide), e3 5 (by decide) (by decide), e3 7 (by decide) (by decide), e3 8 (by decide) (by decide), e3 9 (by decide) (by decide), e3 10 (by decide) (by decide), e3 11 (by decide) (by decide)⟩⟩
end
