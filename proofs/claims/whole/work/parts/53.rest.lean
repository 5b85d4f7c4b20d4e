/-! the other calls -/
section
variable {c : Nat} {I J : Nat → Int32} {F G : Nat → Nat → Int32} {sd : Int64}
theorem SR_sx {F2 G2 : Nat → Nat → Int32} {J2 : Nat → Int32} (h : SR c I F J G) (hx : SX F F2) (hJ : J2 2 = J 2 ∧ J2 4 = J 4 ∧ J2 5 = J 5 ∧ J2 7 = J 7 ∧ J2 17 = J 17 ∧ J2 20 = J 20) (hG : G2 1 = G 1 ∧ G2 2 = G 2 ∧ G2 5 = G 5 ∧ G2 7 = G 7 ∧ G2 8 = G 8 ∧ G2 9 = G 9 ∧ G2 10 = G 10 ∧ G2 11 = G 11) : SR (c + 1) I F2 J2 G2 :=
  SR_up h (fun _ _ => rfl) ⟨hx 2 (by decide) (by decide) (by decide), hx 4 (by decide) (by decide) (by decide), hx 8 (by decide) (by decide) (by decide), hx 10 (by decide) (by decide) (by decide)⟩ hJ hG
theorem J00 (J : Nat → Int32) : upd J 0 0 2 = J 2 ∧ upd J 0 0 4 = J 4 ∧ upd J 0 0 5 = J 5 ∧ upd J 0 0 7 = J 7 ∧ upd J 0 0 17 = J 17 ∧ upd J 0 0 20 = J 20 := ⟨rfl, rfl, rfl, rfl, rfl, rfl⟩
theorem G06 (G : Nat → Nat → Int32) (x : Nat → Int32) : uF G 6 x 1 = G 1 ∧ uF G 6 x 2 = G 2 ∧ uF G 6 x 5 = G 5 ∧ uF G 6 x 7 = G 7 ∧ uF G 6 x 8 = G 8 ∧ uF G 6 x 9 = G 9 ∧ uF G 6 x 10 = G 10 ∧ uF G 6 x 11 = G 11 := ⟨rfl, rfl, rfl, rfl, rfl, rfl, rfl, rfl⟩
theorem G13 (G : Nat → Nat → Int32) (x : Nat → Int32) : uF G 13 x 1 = G 1 ∧ uF G 13 x 2 = G 2 ∧ uF G 13 x 5 = G 5 ∧ uF G 13 x 7 = G 7 ∧ uF G 13 x 8 = G 8 ∧ uF G 13 x 9 = G 9 ∧ uF G 13 x 10 = G 10 ∧ uF G 13 x 11 = G 11 := ⟨rfl, rfl, rfl, rfl, rfl, rfl, rfl, rfl⟩
theorem G612 (G : Nat → Nat → Int32) (x y : Nat → Int32) : uF (uF G 6 x) 12 y 1 = G 1 ∧ uF (uF G 6 x) 12 y 2 = G 2 ∧ uF (uF G 6 x) 12 y 5 = G 5 ∧ uF (uF G 6 x) 12 y 7 = G 7 ∧ uF (uF G 6 x) 12 y 8 = G 8 ∧ uF (uF G 6 x) 12 y 9 = G 9 ∧ uF (uF G 6 x) 12 y 10 = G 10 ∧ uF (uF G 6 x) 12 y 11 = G 11 := ⟨rfl, rfl, rfl, rfl, rfl, rfl, rfl, rfl⟩
theorem GGG (G : Nat → Nat → Int32) : G 1 = G 1 ∧ G 2 = G 2 ∧ G 5 = G 5 ∧ G 7 = G 7 ∧ G 8 = G 8 ∧ G 9 = G 9 ∧ G 10 = G 10 ∧ G 11 = G 11 := ⟨rfl, rfl, rfl, rfl, rfl, rfl, rfl, rfl⟩
theorem J2425 (J : Nat → Int32) (x y : Int32) : upd (upd (upd J 0 0) 24 x) 25 y 2 = J 2 ∧ upd (upd (upd J 0 0) 24 x) 25 y 4 = J 4 ∧ upd (upd (upd J 0 0) 24 x) 25 y 5 = J 5 ∧ upd (upd (upd J 0 0) 24 x) 25 y 7 = J 7 ∧ upd (upd (upd J 0 0) 24 x) 25 y 17 = J 17 ∧ upd (upd (upd J 0 0) 24 x) 25 y 20 = J 20 := ⟨rfl, rfl, rfl, rfl, rfl, rfl⟩
theorem J2627 (J : Nat → Int32) (x y : Int32) : upd (upd (upd J 0 0) 26 x) 27 y 2 = J 2 ∧ upd (upd (upd J 0 0) 26 x) 27 y 4 = J 4 ∧ upd (upd (upd J 0 0) 26 x) 27 y 5 = J 5 ∧ upd (upd (upd J 0 0) 26 x) 27 y 7 = J 7 ∧ upd (upd (upd J 0 0) 26 x) 27 y 17 = J 17 ∧ upd (upd (upd J 0 0) 26 x) 27 y 20 = J 20 := ⟨rfl, rfl, rfl, rfl, rfl, rfl⟩
theorem J2829 (J : Nat → Int32) (x y : Int32) : upd (upd (upd J 0 0) 28 x) 29 y 2 = J 2 ∧ upd (upd (upd J 0 0) 28 x) 29 y 4 = J 4 ∧ upd (upd (upd J 0 0) 28 x) 29 y 5 = J 5 ∧ upd (upd (upd J 0 0) 28 x) 29 y 7 = J 7 ∧ upd (upd (upd J 0 0) 28 x) 29 y 17 = J 17 ∧ upd (upd (upd J 0 0) 28 x) 29 y 20 = J 20 := ⟨rfl, rfl, rfl, rfl, rfl, rfl⟩
theorem I78 (I : Nat → Int32) (x y : Int32) : ∀ j, j < 7 → upd (upd I 7 x) 8 y j = I j := fun j hj => by rw [upd_ne _ _ (by omega), upd_ne _ _ (by omega)]
theorem op_later (h : SR c I F J G) (n w : Int32) : OPi c I F J G sd 84 147 [.int n, .int w] := by
  obtain ⟨a, b, s, h0, h1, ⟨ha, hb, hs, e4, e5, e7, hr, hp⟩, h3, h4, h5⟩ := id h
  obtain ⟨F2, eX, hx⟩ := la_X (q := G 6) 4 I F sd ha hb hs hr hp n w
  have eY := sp_X8_later_0 5 J G sd n w (gd5 ha e5) (gd10 hs e4) hp.2.2.2.2.2.2 (gd6 hb e7)
  rw [e4, e5, e7] at eY
  exact ⟨_, _, _, _, _, _, eX, eY, SR_sx h hx (J00 J) (G06 G _)⟩
theorem op_least (hc : c ≤ 600) (h : SR c I F J G) (w : Int32) : OPi c I F J G sd 85 149 [.int w] := by
  obtain ⟨a, b, s, h0, h1, ⟨ha, hb, hs, e4, e5, e7, hr, hp⟩, h3, h4, h5⟩ := id h
  have g21 := HR_21 ha hr
  have eX := (en_X7_least_0 0 I F sd w).trans (tr_X7_least_0_0 0 I F sd w (fun _ => g21) (fun _ _ => g21))
  have eY := sp_X8_least_0 6 J G sd w (gd5 ha e5)
  rw [ls_eq ha hr hp hc] at eX
  rw [e5] at eY
  have fin : SR (c + 1) I F (upd (upd (upd J 0 0) 24 (le24 (G 2) (G 5) (nI a) w (J 24))) 25 (le25 (G 2) (G 5) (nI a) w (J 25))) (uF G 6 (le6 (G 2) (G 5) (G 6) (nI a) w)) := SR_sx h (SX_r F) (J2425 J _ _) (G06 G _)
  have fin2 : SR (c + 1) (upd (upd I 7 (leB (G 2) (G 5) (nI a)).1) 8 (leB (G 2) (G 5) (nI a)).2) F (upd (upd (upd J 0 0) 24 (le24 (G 2) (G 5) (nI a) w (J 24))) 25 (le25 (G 2) (G 5) (nI a) w (J 25))) (uF G 6 (le6 (G 2) (G 5) (G 6) (nI a) w)) := SR_up h (I78 I _ _) ⟨rfl, rfl, rfl, rfl⟩ (J2425 J _ _) (G06 G _)
  by_cases c0 : w = 0
  · have hA : leA (G 2) (G 5) (nI a) w = (leB (G 2) (G 5) (nI a)).1 := by
      unfold leA
      rw [if_neg (by rw [c0]; decide), if_pos c0]
    rw [if_pos c0, if_pos c0] at eX
    rw [hA] at eY
    exact ⟨_, _, _, _, _, _, eX, eY, fin2⟩
  · rw [if_neg c0] at eX
    by_cases c1 : w = 1
    · have hA : leA (G 2) (G 5) (nI a) w = (leB (G 2) (G 5) (nI a)).2 := by
        unfold leA
        rw [if_neg (by rw [c1]; decide), if_neg c0]
      rw [if_pos c1, if_neg c0] at eX
      rw [hA] at eY
      exact ⟨_, _, _, _, _, _, eX, eY, fin2⟩
    · have hA : leA (G 2) (G 5) (nI a) w = -2 := by
        unfold leA
        cases hw : inr w 2
        · rw [if_pos rfl]
        · rcases (k01 w).mp hw with e | e
          · exact absurd e c0
          · exact absurd e c1
      rw [if_neg c1] at eX
      rw [hA] at eY
      exact ⟨_, _, _, _, _, _, eX, eY, fin⟩
theorem op_judge (hc : c ≤ 600) (h : SR c I F J G) (n : Int32) (row : Int64) : OPi c I F J G sd 86 154 [.int n, .long row] := by
  obtain ⟨a, b, s, h0, h1, ⟨ha, hb, hs, e4, e5, e7, hr, hp⟩, h3, h4, h5⟩ := id h
  obtain ⟨F2, eX, hx⟩ := jd_X (q := G 6) 3 I F sd ha hb hs (by omega) hr hp n row
  have eY := sp_X8_judge_0 4 J G sd n row (gd5 ha e5) (gd6 hb e7) (gd10 hs e4) hp.2.2.2.2.2.2
  rw [e4, e5, e7] at eY
  exact ⟨_, _, _, _, _, _, eX, eY, SR_sx h hx (J00 J) (G06 G _)⟩
theorem op_share (hc : c ≤ 600) (h : SR c I F J G) (q u : Int32) : OPi c I F J G sd 87 158 [.int q, .int u] := by
  obtain ⟨a, b, s, h0, h1, ⟨ha, hb, hs, e4, e5, e7, hr, hp⟩, h3, h4, h5⟩ := id h
  have eX := sh_X 5 I F sd ha hr hp hc q u
  have eY := sp_X8_share_0 7 J G sd q u (gd5 ha e5) (by rw [e5]; exact sh_fr ha hp hc q)
  rw [e5] at eY
  exact ⟨_, _, _, _, _, _, eX, eY, SR_sx h (SX_r F) (J00 J) (G13 G _)⟩
theorem gd7 {i4 i5 i6 j20 : Int32} {A B : Nat → Int32} (h : SDr i4 i5 i6 j20 A B) : inr j20 7 = true := by
  obtain ⟨n, h1, h2, h3, -⟩ := h
  rw [h3]
  exact inr_mk (n := 7) (by decide) (by omega)
theorem op_say (h : SR c I F J G) (q k : Int32) : OPi c I F J G sd 88 159 [.int q, .int k] := by
  obtain ⟨a, b, s, h0, h1, h2, h3, h4, h5⟩ := id h
  have eX := (en_X7_say_0 7 I F sd q k).trans (tr_X7_say_0_0 7 I F sd q k)
  have eY := sp_X8_say_0 7 J G sd q k (gd7 h5)
  obtain ⟨q1, q2⟩ := SD_say h5 q k
  rw [← q2] at eY
  generalize sdS q k (I 4) = x4 at eX q1
  generalize sdY q k (I 4) (I 5) = x5 at eX q1
  generalize sdN q k (I 4) (I 6) = x6 at eX q1
  generalize sdS q k (J 20) = x20 at eY q1
  generalize sy10 q k (J 20) (G 10) = y10 at eY q1
  generalize sy11 q k (J 20) (G 11) = y11 at eY q1
  exact ⟨_, _, _, _, _, _, eX, eY, a, b, s, QR_up h0, h1, MN_up h2, PS_up h3, SL_up h4, q1⟩
theorem op_unsay (h : SR c I F J G) : OPi c I F J G sd 89 160 [] := by
  obtain ⟨a, b, s, h0, h1, h2, h3, h4, h5⟩ := id h
  have eX := (en_X7_unsay_0 8 I F sd).trans (tr_X7_unsay_0_0 8 I F sd)
  have eY := sp_X8_unsay_0 9 J G sd
  obtain ⟨n, n1, n2, n3, -⟩ := h5
  rw [n3, ← n2] at eY
  exact ⟨_, _, _, _, _, _, eX, eY, a, b, s, QR_up h0, h1, MN_up h2, PS_up h3, SL_up h4, SD_0⟩
theorem op_lines (h : SR c I F J G) (w : Int32) : OPi c I F J G sd 90 161 [.int w] := by
  obtain ⟨a, b, s, h0, h1, ⟨ha, hb, hs, e4, e5, e7, hr, hp⟩, h3, h4, h5⟩ := id h
  have eX := (en_X7_lines_0 4 I F sd w).trans (tr_X7_lines_0_0 4 I F sd w)
  have eY := sp_X8_lines_0 7 J G sd w (gd7 h5)
  obtain ⟨n, n1, n2, n3, n4, n5, n6⟩ := h5
  rw [n5, n6, hr.2.2.2.2.1, lnC_li n4, lnF_li n4] at eX
  rw [n3] at eY
  have fin : SR (c + 1) I F (upd (upd (upd J 0 0) 26 (li26 (G 5 17) w (G 10) (G 11) (nI n) (J 26))) 27 (li27 (G 5 17) w (G 10) (G 11) (nI n) (J 27))) G := SR_sx h (SX_r F) (J2627 J _ _) (GGG G)
  by_cases c0 : w = 0
  · have hA : liA (G 5 17) w (G 10) (G 11) (nI n) = (liL (G 5 17) (G 10) (G 11) n 100).1 := by
      unfold liA
      rw [if_neg (by rw [c0]; decide), if_pos c0, nI_clamp (by omega)]
    rw [if_pos c0] at eX
    rw [hA] at eY
    exact ⟨_, _, _, _, _, _, eX, eY, fin⟩
  · rw [if_neg c0] at eX
    by_cases c1 : w = 1
    · have hA : liA (G 5 17) w (G 10) (G 11) (nI n) = (liL (G 5 17) (G 10) (G 11) n 100).2 := by
        unfold liA
        rw [if_neg (by rw [c1]; decide), if_neg c0, nI_clamp (by omega)]
      rw [if_pos c1] at eX
      rw [hA] at eY
      exact ⟨_, _, _, _, _, _, eX, eY, fin⟩
    · have hA : liA (G 5 17) w (G 10) (G 11) (nI n) = -2 := by
        unfold liA
        cases hw : inr w 2
        · rw [if_pos rfl]
        · rcases (k01 w).mp hw with e | e
          · exact absurd e c0
          · exact absurd e c1
      rw [if_neg c1] at eX
      rw [hA] at eY
      exact ⟨_, _, _, _, _, _, eX, eY, fin⟩
theorem op_rests (hc : c ≤ 600) (h : SR c I F J G) (x y w : Int32) : OPi c I F J G sd 91 162 [.int x, .int y, .int w] := by
  obtain ⟨a, b, s, h0, h1, ⟨ha, hb, hs, e4, e5, e7, hr, hp⟩, h3, h4, h5⟩ := id h
  obtain ⟨F2, eX, hx⟩ := rs_X 4 I F sd (G 12) ha hb (by omega) hr hp x y w
  have eY := sp_X8_rests_0 6 J G sd x y w (gd5 ha e5)
  rw [e5] at eY
  exact ⟨_, _, _, _, _, _, eX, eY, SR_sx h hx (J2829 J _ _) (G612 G _ _)⟩
theorem op_stray (h : SR c I F J G) (m x u : Int32) : OPi c I F J G sd 92 163 [.int m, .int x, .int u] := by
  obtain ⟨a, b, s, h0, h1, ⟨ha, hb, hs, e4, e5, e7, hr, hp⟩, h3, h4, h5⟩ := id h
  obtain ⟨F2, eX, hx⟩ := st_X 4 I F sd hb hs hr hp m x u
  have eY := sp_X8_stray_0 5 J G sd m x u (gd10 hs e4) hp.2.2.2.2.2.2 (gd6 hb e7) (by rw [e4, e7]; exact st_fr hb)
  rw [e4, e7] at eY
  exact ⟨_, _, _, _, _, _, eX, eY, SR_sx h hx (J00 J) (G06 G _)⟩
theorem op_years (hc : c ≤ 600) (h : SR c I F J G) (m : Int32) : OPi c I F J G sd 94 165 [.int m] := by
  obtain ⟨a, b, s, h0, h1, ⟨ha, hb, hs, e4, e5, e7, hr, hp⟩, h3, h4, h5⟩ := id h
  obtain ⟨F2, eX, hx⟩ := yr_X (q := G 6) 3 I F sd ha hb hs (by omega) hr hp m
  have eY := sp_X8_years_0 4 J G sd m (gd5 ha e5) (gd6 hb e7) (gd10 hs e4) hp.2.2.2.2.2.2
  rw [e5, e7] at eY
  exact ⟨_, _, _, _, _, _, eX, eY, SR_sx h hx (J00 J) (G06 G _)⟩
theorem op_keep (h : SR c I F J G) (k : Int32) : OPi c I F J G sd 95 166 [.int k] := by
  obtain ⟨a, b, s, h0, h1, h2, h3, h4, h5⟩ := id h
  obtain ⟨ha, hb, hs, e4, e5, e7, hr, hp⟩ := id h2
  have eX := (en_X7_keep_0 7 I F sd k).trans (tr_X7_keep_0_0 7 I F sd k)
  have eY := sp_X8_keep_0 8 J G sd k
  have q1 := SL_up (SL_keep ha hb h4 hr hp k)
  have q0 := QR_up (QR_keep h0 k)
  rw [show kpA k (G 5 20) = stkA k (F 4 27) by rw [hr.2.2.2.2.2.2.2.1]; rfl] at eY
  generalize stkT k (I 3) = x3 at eX q1
  generalize kp8 k (G 5) (G 8) = y8 at eY q1 q0
  generalize kp9 k (G 9) = y9 at eY q1
  generalize stkF (F 4) (F 10) k = y10 at eX q1
  exact ⟨_, _, _, _, _, _, eX, eY, a, b, s, q0, h1, MN_up h2, PS_up h3, q1, h5⟩
theorem op_again (hc : c ≤ 600) (h : SR c I F J G) (k : Int32) : OPi c I F J G sd 96 167 [.int k] := by
  obtain ⟨a, b, s, h0, h1, h2, h3, h4, h5⟩ := id h
  obtain ⟨ha, hb, hs, e4, e5, e7, hr, hp⟩ := id h2
  have eX := (en_X7_again_0 7 I F sd k).trans (tr_X7_again_0_0 7 I F sd k)
  have eY := sp_X8_again_0 8 J G sd k
  cases hq : inr k 2
  · have a1 : sgvA (F 10) (F 4) k (I 3) = -1 := by unfold sgvA; rw [hq, if_pos rfl]
    have a2 : sgvF (F 10) (F 4) k (I 3) = F 4 := by unfold sgvF; rw [hq, if_pos rfl]
    have a3 : agA k (G 9) (G 5) (G 8) = -1 := by unfold agA; rw [hq, if_pos rfl]
    have a4 : ag17 k (G 9) (J 17) = J 17 := by unfold ag17; rw [hq, if_pos rfl]
    have a5 : ag5 k (G 9) (G 5) (G 8) = G 5 := by unfold ag5; rw [hq, if_pos rfl]
    rw [a1, a2, if_pos (by decide)] at eX
    rw [a3, a4, a5] at eY
    exact ⟨_, _, _, _, _, _, eX, eY, a, b, s, QR_up h0, h1, MN_up h2, PS_up h3, SL_up h4, h5⟩
  · obtain ⟨z, hz, rfl⟩ := inr_nI (n := 2) (by decide) hq
    obtain ⟨g1, g2⟩ := h4.2 z hz
    have cz : (nI z).toNatClampNeg = z := nI_clamp (by omega)
    by_cases c0 : G 9 z = 0
    · have c1 := g1.mpr c0
      have a1 : sgvA (F 10) (F 4) (nI z) (I 3) = -3 := by unfold sgvA; rw [hq, if_neg (by decide), if_pos c1]
      have a2 : sgvF (F 10) (F 4) (nI z) (I 3) = F 4 := by unfold sgvF; rw [hq, if_neg (by decide), if_pos c1]
      have a3 : agA (nI z) (G 9) (G 5) (G 8) = -3 := by unfold agA; rw [hq, cz, if_neg (by decide), if_pos c0]
      have a4 : ag17 (nI z) (G 9) (J 17) = J 17 := by unfold ag17; rw [hq, cz, if_neg (by decide), if_pos c0]
      have a5 : ag5 (nI z) (G 9) (G 5) (G 8) = G 5 := by unfold ag5; rw [hq, cz, if_neg (by decide), if_pos c0]
      rw [a1, a2, if_pos (by decide)] at eX
      rw [a3, a4, a5] at eY
      exact ⟨_, _, _, _, _, _, eX, eY, a, b, s, QR_up h0, h1, MN_up h2, PS_up h3, SL_up h4, h5⟩
    · have c1 : ¬ (I 3 >>> (nI z &&& 31)) &&& 1 = 0 := fun q => c0 (g1.mp q)
      obtain ⟨q1, q2⟩ := g2 c0
      have e21 : ag21 (row21 (G 8) z) (va_cpy (G 8) (G 5) (21 * z) 0 21) := fun j hj => by
        unfold row21
        rw [pk_cpy_in (by omega) (by omega), Nat.sub_zero]
      have r1 : HR a b s (G 2) (va_cpy (G 8) (G 5) (21 * z) 0 21) (hfet (F 10) (F 4) 2 (nI z)) := HR_ag e21 (HR_c28 ha (fun j hj => fet_in (N := 2) (n := 2) rfl (by omega) hz hj) q1)
      have r2 := PG_ag e21 hb q2
      have r0 : QG c (va_cpy (G 8) (G 5) (21 * z) 0 21 20) := by
        rw [pk_cpy_in (by omega) (by omega), Nat.sub_zero]
        exact h0.2.2 z hz
      have m21 : (21 * nI z).toNatClampNeg = 21 * z := by rw [show 21 * nI z = nI (21 * z) by rw [show (21 : Int32) = nI 21 from rfl, pk_mul], nI_clamp (by omega)]
      have a1 : sgvA (F 10) (F 4) (nI z) (I 3) = hfet (F 10) (F 4) 2 (nI z) 27 := by unfold sgvA; rw [hq, if_neg (by decide), if_neg c1]
      have a2 : sgvF (F 10) (F 4) (nI z) (I 3) = hfet (F 10) (F 4) 2 (nI z) := by unfold sgvF; rw [hq, if_neg (by decide), if_neg c1]
      have a3 : agA (nI z) (G 9) (G 5) (G 8) = va_cpy (G 8) (G 5) (21 * z) 0 21 20 := by unfold agA; rw [hq, cz, if_neg (by decide), if_neg c0, m21]
      have a4 : ag17 (nI z) (G 9) (J 17) = 0 := by unfold ag17; rw [hq, cz, if_neg (by decide), if_neg c0]
      have a5 : ag5 (nI z) (G 9) (G 5) (G 8) = va_cpy (G 8) (G 5) (21 * z) 0 21 := by unfold ag5; rw [hq, cz, if_neg (by decide), if_neg c0, m21]
      rw [a1, a2] at eX
      rw [a3, a4, a5, ← r1.2.2.2.2.2.2.2.1] at eY
      rw [← r1.2.2.2.2.2.2.2.1] at r0
      have neg : ¬ hfet (F 10) (F 4) 2 (nI z) 27 < 0 := by
        obtain ⟨x, hx, ex⟩ := r0
        rw [ex]
        exact nI_pos (by omega)
      rw [if_neg neg] at eX
      have r3 := r1.2.2.2.2.2.2.2.1
      generalize va_cpy (G 8) (G 5) (21 * z) 0 21 = p2 at *
      generalize hfet (F 10) (F 4) 2 (nI z) = f2 at *
      obtain ⟨fs, sz, p1, -, p3, -⟩ := id h3
      have m2 : MNr c a b s (J 4) (J 5) (J 7) (G 2) p2 f2 := ⟨ha, hb, hs, e4, e5, e7, r1, r2⟩
      have f0 : PSr (c + 1) a b s (I 1) 0 0 (G 2) (G 7) (F 8) := by rw [p3]; exact PS_0 fs p1
      rw [r3] at r0
      have q0 : QR (c + 1) p2 (G 7) (G 8) := ⟨QG_up r0, fun i hi => QG_up (h0.2.1 i hi), fun k hk => QG_up (h0.2.2 k hk)⟩
      exact ⟨_, _, _, _, _, _, eX, eY, a, b, s, q0, h1, MN_up m2, f0, SL_up h4, h5⟩
def OPl (c : Nat) (I : Nat → Int32) (F : Nat → Nat → Int32) (J : Nat → Int32) (G : Nat → Nat → Int32) (sd : Int64) (kx ky : Nat) (as : List Value) : Prop := ∃ x I2 F2 J2 G2 sd2, pm_run mt 10 kx (.ref 0 :: as) (hX I F sd) = some (some (.long x), hX I2 F2 sd2) ∧ pm_run mt 10 ky (.ref 0 :: as) (hY J G sd) = some (some (.long x), hY J2 G2 sd2) ∧ SR (c + 1) I2 F2 J2 G2
theorem op_seed (h : SR c I F J G) (v : Int64) : OPl c I F J G sd 93 164 [.long v] :=
  ⟨_, _, _, _, _, _, (en_X7_seed_0 9 I F sd v).trans (tr_X7_seed_0_0 9 I F sd v), sp_X8_seed_0 9 J G sd v, SR_ask h⟩
theorem SR_skip (h : SR c I F J G) : SR (c + 1) I F J G := SR_up h (fun _ _ => rfl) ⟨rfl, rfl, rfl, rfl⟩ ⟨rfl, rfl, rfl, rfl, rfl, rfl⟩ (GGG G)
theorem SR_0 {I J : Nat → Int32} {F G : Nat → Nat → Int32} (hI : ∀ j, j < 7 → I j = 0) (hJ : ∀ j, J j = 0) (h2 : G 1 = F 2) (h4 : ∀ j, F 4 j = 0) (hG : ∀ j i, G j i = 0) : SR 0 I F J G := by
  refine ⟨0, 0, 0, ⟨⟨0, by omega, hG 5 20⟩, fun i _ => ⟨0, by omega, hG _ _⟩, fun i _ => ⟨0, by omega, hG _ _⟩⟩, ⟨⟨0, by omega, hI 0 (by decide)⟩, by rw [hJ 2, hI 0 (by decide)], h2⟩, ⟨by omega, by omega, by omega, hJ 4, hJ 5, hJ 7, ⟨h4 21, h4 22, h4 23, fun j _ => by rw [h4, hG], by rw [h4, hG], by rw [h4, hG], by rw [h4, hG], by rw [h4, hG], fun j hj => absurd hj (by omega)⟩, ⟨fun j _ => ⟨0, by omega, hG _ _⟩, fun j _ => ⟨0, by omega, hG _ _⟩, fun j _ => ⟨0, by omega, hG _ _⟩, fun j _ _ => ⟨hG _ _, hG _ _⟩, fun t ht => absurd ht (by omega), ⟨0, by omega, hG _ _⟩, by rw [hG]; decide⟩⟩, ⟨0, 0, by omega, by omega, hI 1 (by decide), hI 2 (by decide), hJ 17, fun i hi => absurd hi (by omega)⟩, ?_, ⟨0, by omega, hI 4 (by decide), hJ 20, fun i hi => absurd hi (by omega), hI 5 (by decide), hI 6 (by decide)⟩⟩
  rw [hI 3 (by decide)]
  exact SL_0 (hG 9 0) (hG 9 1)
end
