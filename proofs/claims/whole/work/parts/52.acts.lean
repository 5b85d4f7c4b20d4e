/-! asked, done, undone -/
section
variable {c : Nat} {I J : Nat → Int32} {F G : Nat → Nat → Int32} {sd : Int64}
def abV (w x0 x1 x2 x3 x4 x5 x6 x7 x8 x9 x10 x11 x12 x13 : Int32) : Int32 := if w = 0 then x0 else if w = 1 then x1 else if w = 2 then x2 else if w = 3 then x3 else if w = 4 then x4 else if w = 5 then x5 else if w = 6 then x6 else if w = 7 then x7 else if w = 8 then x8 else if w = 9 then x9 else if w = 10 then x10 else if w = 11 then x11 else if w = 12 then x12 else if w = 13 then x13 else -2
theorem gd5 {a : Nat} {x : Int32} (ha : a ≤ 4) (e : x = nI a) : inr x 5 = true := by rw [e]; exact inr_mk (n := 5) (by decide) (by omega)
theorem gd6 {a : Nat} {x : Int32} (ha : a ≤ 5) (e : x = nI a) : inr x 6 = true := by rw [e]; exact inr_mk (n := 6) (by decide) (by omega)
theorem gd10 {a : Nat} {x : Int32} (ha : a ≤ 9) (e : x = nI a) : inr x 10 = true := by rw [e]; exact inr_mk (n := 10) (by decide) (by omega)
theorem op_about (h : SR c I F J G) (w : Int32) : OPi c I F J G sd 74 131 [.int w] := by
  obtain ⟨a, b, s, h0, ⟨t1, t2, t3⟩, ⟨ha, hb, hs, e4, e5, e7, hr, hp⟩, ⟨fs, sz, p1, p2, p3, p4, p5, p6⟩, h4, ⟨n, n1, n2, n3, n4⟩⟩ := id h
  have g23 : inr (F 4 23) 10 = true := HR_23 hs hr
  have eX : pm_run mt 10 74 [.ref 0, .int w] (hX I F sd) = some (some (.int (abV w (F 4 21) (F 4 22) (F 4 23) (F 4 24) (F 4 27) (F 4 25) (hdue (F 4)) (hshort (F 4)) (F 4 26) (xant (F 4)) (xknown (F 4)) (I 2) (I 4) (I 0))), hX I F sd) := by
    refine (en_X7_about_0 4 I F sd w).trans ((tr_X7_about_0_0 4 I F sd w (by intros; exact g23) (by intros; exact g23)).trans ?_)
    unfold abV
    simp only [pm_pi]
  have eY : pm_run mt 10 131 [.ref 0, .int w] (hY J G sd) = some (some (.int (abV w (J 5) (J 7) (J 4) (G 5 19) (G 5 20) (G 5 18) (pdue (G 5)) (pshort (G 2) (G 5) (J 5)) (G 5 17) (pant (G 5) (J 4)) (pknown (G 5) (J 4) (J 7)) (J 17) (J 20) (J 2))), hY (upd J 0 0) G sd) := by
    refine (en_X8_about_0 5 J G sd w).trans ((tr_X8_about_0_0 5 J G sd w (by intros; exact gd5 ha e5) (by intros; exact gd10 hs e4) (by intros; exact hp.2.2.2.2.2.2) (by intros; exact gd10 hs e4) (by intros; exact hp.2.2.2.2.2.2) (by intros; exact gd6 hb e7)).trans ?_)
    unfold abV
    simp only [pm_pi]
  rw [e4, e5, e7, t2, p5, n3, ← p4, ← n2, ← HR_due ha hr hp, ← HR_short ha hr hp, ← HR_ant hr, ← HR_known hb hr hp, ← hr.1, ← hr.2.1, ← hr.2.2.1, ← hr.2.2.2.2.1, ← hr.2.2.2.2.2.1, ← hr.2.2.2.2.2.2.1, ← hr.2.2.2.2.2.2.2.1] at eY
  exact ⟨_, _, _, _, _, _, eX, eY, SR_up h (fun _ _ => rfl) ⟨rfl, rfl, rfl, rfl⟩ ⟨rfl, rfl, rfl, rfl, rfl, rfl⟩ ⟨rfl, rfl, rfl, rfl, rfl, rfl, rfl, rfl⟩⟩
theorem bI_n0 (z : Bool) : (bI (!z) = 0) = (z = true) := by cases z <;> decide +kernel
theorem SR_ask (h : SR c I F J G) : SR (c + 1) I F (upd J 0 0) G := SR_up h (fun _ _ => rfl) ⟨rfl, rfl, rfl, rfl⟩ ⟨rfl, rfl, rfl, rfl, rfl, rfl⟩ ⟨rfl, rfl, rfl, rfl, rfl, rfl, rfl, rfl⟩
theorem op_food (h : SR c I F J G) (q w : Int32) : OPi c I F J G sd 75 132 [.int q, .int w] := by
  obtain ⟨a, b, s, h0, ⟨t1, t2, t3⟩, ⟨ha, hb, hs, e4, e5, e7, hr, hp⟩, -, -, -⟩ := id h
  have gA : bI (!inr q (J 5)) = 0 → ∃ j, j < a ∧ q = nI j := by
    intro z
    rw [bI_n0, e5] at z
    exact inr_nI (by omega) z
  have eX := (en_X7_food_0 6 I F sd q w).trans (tr_X7_food_0_0 6 I F sd q w)
  have eY := (en_X8_food_0 7 J G sd q w).trans (tr_X8_food_0_0 7 J G sd q w (gd5 ha e5) (by intro z; intros; obtain ⟨j, hj, rfl⟩ := gA z; exact pm_in_nI (by omega) (by decide)) (by intro z; intros; obtain ⟨j, hj, rfl⟩ := gA z; exact pm_in_nI (by omega) (by decide)) (by intro z; intros; obtain ⟨j, hj, rfl⟩ := gA z; rw [show (4 : Int32) + nI j = nI (4 + j) from nI_add 4 j]; exact pm_in_nI (by omega) (by decide)) (by intro z; intros; obtain ⟨j, hj, rfl⟩ := gA z; rw [show (8 : Int32) + nI j = nI (8 + j) from nI_add 8 j]; exact pm_in_nI (by omega) (by decide)) (by intro z; intros; obtain ⟨j, hj, rfl⟩ := gA z; exact inr_mk (n := 4) (by decide) (by omega)))
  rw [hr.1] at eX
  rw [e5] at eY
  simp only [bI_n0] at eY
  simp only [bI_0] at eX
  cases hq : inr q (nI a)
  · rw [hq, if_pos rfl] at eX
    rw [hq, if_neg (by decide)] at eY
    exact ⟨_, _, _, _, _, _, eX, eY, SR_ask h⟩
  · obtain ⟨j, hj, rfl⟩ := inr_nI (by omega) hq
    rw [hq, if_neg (by decide), HR_0 ha hr hj, HR_4 hr (by omega), HR_8 hr (by omega), HR_12 hr (by omega), HR_worth ha hr hj] at eX
    rw [hq, if_pos rfl, nI_clamp (by omega), show (4 + nI j).toNatClampNeg = 4 + j from cl_add 4 j (by omega), show (8 + nI j).toNatClampNeg = 8 + j from cl_add 8 j (by omega)] at eY
    simp only [← pm_pi] at eX eY
    exact ⟨_, _, _, _, _, _, eX, eY, SR_ask h⟩
theorem bkh_all : ∀ b0 b1 b2 b3 b4 : Bool, ∀ k, k < 6 → ∀ t, t < k → yhas (bkS (bsel b0 b1 b2 b3 b4) k) (nI t) = bsel b0 b1 b2 b3 b4 t := by decide +kernel
theorem known_has {p : Nat → Int32} {sk : Int32} {b t : Nat} (hb : b ≤ 5) (ht : t < b) : yhas (pknown p sk (nI b)) (nI t) = yhas (pant p sk) (p (12 + t)) := by
  unfold pknown
  rw [nI_clamp (by omega), pkS_bk]
  generalize hB : (fun j => yhas (pant p sk) (p (12 + j))) = B
  have eB : ∀ j, j < 5 → B j = bsel (B 0) (B 1) (B 2) (B 3) (B 4) j := by
    intro j hj
    rcases (show j = 0 ∨ j = 1 ∨ j = 2 ∨ j = 3 ∨ j = 4 by omega) with e | e | e | e | e <;> subst e <;> rfl
  rw [bkS_ag eB b hb, bkh_all _ _ _ _ _ b (by omega) t ht, ← eB t (by omega), ← hB]
theorem op_thing (h : SR c I F J G) (q w : Int32) : OPi c I F J G sd 76 134 [.int q, .int w] := by
  obtain ⟨a, b, s, h0, ⟨t1, t2, t3⟩, ⟨ha, hb, hs, e4, e5, e7, hr, hp⟩, -, -, -⟩ := id h
  have g23 : inr (F 4 23) 10 = true := HR_23 hs hr
  have gA : bI (!inr q (J 7)) = 0 → pm_in (12 + q) 21 = true := by
    intro z
    rw [bI_n0, e7] at z
    obtain ⟨j, hj, rfl⟩ := inr_nI (by omega) z
    rw [show (12 : Int32) + nI j = nI (12 + j) from nI_add 12 j]
    exact pm_in_nI (by omega) (by decide)
  have eX := (en_X7_thing_0 4 I F sd q w).trans (tr_X7_thing_0_0 4 I F sd q w (by intros; exact g23) (by intros; exact g23))
  have eY := (en_X8_thing_0 5 J G sd q w).trans (tr_X8_thing_0_0 5 J G sd q w (gd6 hb e7) (by intro z; intros; exact gA z) (by intros; exact gd10 hs e4) (by intros; exact hp.2.2.2.2.2.2) (by intros; exact gd6 hb e7) (by intro z; intros; exact gA z) (by intro z; intros; exact gA z) (by intros; exact gd10 hs e4) (by intros; exact hp.2.2.2.2.2.2))
  rw [hr.2.1] at eX
  rw [e7, e4] at eY
  simp only [bI_n0] at eY
  simp only [bI_0] at eX eY
  cases hq : inr q (nI b)
  · rw [hq, if_pos rfl] at eX
    rw [hq, if_neg (by decide)] at eY
    exact ⟨_, _, _, _, _, _, eX, eY, SR_ask h⟩
  · obtain ⟨j, hj, rfl⟩ := inr_nI (by omega) hq
    have i10 := hp.2.2.2.2.1 j hj
    rw [hq, if_neg (by decide), HR_16 hr (by omega), HR_ant hr, xy_has i10, ast_eq _ i10] at eX
    rw [hq, if_pos rfl, show (12 + nI j).toNatClampNeg = 12 + j from cl_add 12 j (by omega), known_has hb hj] at eY
    simp only [← pm_pi] at eX eY
    exact ⟨_, _, _, _, _, _, eX, eY, SR_ask h⟩
/-- an act refused -/
theorem SR_ref (h : SR c I F J G) {A : Int32} (hA : A < 0) {f : Nat → Int32} (hf : f = F 4) : SR (c + 1) (upd (upd I 1 (pst1 A (I 1) (I 2))) 2 (pst2 A (I 2))) (uF (uF F 8 (hsto (F 4) (F 8) 15 (pnext (I 1) (I 2)))) 4 f) (upd J 0 0) G := by
  obtain ⟨a, b, s, h0, h1, h2, h3, h4, h5⟩ := h
  have e1 : pst1 A (I 1) (I 2) = I 1 := if_pos hA
  have e2 : pst2 A (I 2) = I 2 := if_pos hA
  rw [e1, e2, hf]
  exact ⟨a, b, s, QR_up h0, h1, MN_up h2, PS_up (PS_ref h2.1 h3 (F 4)), SL_up h4, h5⟩
/-- an act done -/
theorem SR_acts {a b s : Nat} {G2 : Nat → Nat → Int32} {x1 x2 y17 : Int32} {hs p f b7 : Nat → Int32} (h0 : QR (c + 1) p b7 (G 8)) (h1 : TXr (I 0) (J 2) (F 2) (G 1)) (ha : a ≤ 4) (hb : b ≤ 5) (hs9 : s ≤ 9) (e4 : J 4 = nI s) (e5 : J 5 = nI a) (e7 : J 7 = nI b) (h3 : PSr (c + 1) a b s x1 x2 y17 (G 2) b7 hs) (h4 : SLr c a b s (I 3) (G 2) (G 8) (G 9) (F 10)) (h5 : SDr (I 4) (I 5) (I 6) (J 20) (G 10) (G 11)) (hr : HR a b s (G 2) p f) (hp : PG (c + 1) a b p) (hG : G2 1 = G 1 ∧ G2 2 = G 2 ∧ G2 5 = p ∧ G2 7 = b7 ∧ G2 8 = G 8 ∧ G2 9 = G 9 ∧ G2 10 = G 10 ∧ G2 11 = G 11) : SR (c + 1) (upd (upd I 1 x1) 2 x2) (uF (uF F 8 hs) 4 f) (upd (upd J 0 0) 17 y17) G2 := by
  obtain ⟨q1, q2, q3, q4, q5, q6, q7, q8⟩ := hG
  refine ⟨a, b, s, ?_, ?_, ⟨ha, hb, hs9, e4, e5, e7, ?_, ?_⟩, ?_, ?_, ?_⟩
  · rw [q3, q4, q5]; exact h0
  · rw [q1]; exact h1
  · rw [q2, q3]; exact hr
  · rw [q3]; exact hp
  · rw [q2, q4]; exact h3
  · rw [q2, q5, q6]; exact SL_up h4
  · rw [q7, q8]; exact h5
theorem SR_act {a b s : Nat} {G2 : Nat → Nat → Int32} (h0 : QR c (G 5) (G 7) (G 8)) (h1 : TXr (I 0) (J 2) (F 2) (G 1)) (h2 : MNr c a b s (J 4) (J 5) (J 7) (G 2) (G 5) (F 4)) (h3 : PSr c a b s (I 1) (I 2) (J 17) (G 2) (G 7) (F 8)) (h4 : SLr c a b s (I 3) (G 2) (G 8) (G 9) (F 10)) (h5 : SDr (I 4) (I 5) (I 6) (J 20) (G 10) (G 11)) {A : Int32} (hA : ¬ A < 0) {p f : Nat → Int32} (hr : HR a b s (G 2) p f) (hp : PG (c + 1) a b p) (hq : QG (c + 1) (p 20)) (hG : G2 1 = G 1 ∧ G2 2 = G 2 ∧ G2 5 = p ∧ G2 7 = nt7 (G 5) (G 7) (J 17) ∧ G2 8 = G 8 ∧ G2 9 = G 9 ∧ G2 10 = G 10 ∧ G2 11 = G 11) : SR (c + 1) (upd (upd I 1 (pst1 A (I 1) (I 2))) 2 (pst2 A (I 2))) (uF (uF F 8 (hsto (F 4) (F 8) 15 (pnext (I 1) (I 2)))) 4 f) (upd (upd J 0 0) 17 (nt17 (J 17))) G2 :=
  SR_acts (QR_act h0 hq h3) h1 h2.1 h2.2.1 h2.2.2.1 h2.2.2.2.1 h2.2.2.2.2.1 h2.2.2.2.2.2.1 (PS_up (PS_act h2.1 h2.2.1 hA h3 h2.2.2.2.2.2.2.1 h2.2.2.2.2.2.2.2)) h4 h5 hr hp hG
theorem QG_u {p : Nat → Int32} (h : QG c (p 20)) {j : Nat} (hj : j ≠ 20) {v : Int32} : QG (c + 1) (upd p j v 20) := by
  rw [upd_ne _ _ (by omega)]
  exact QG_up h
theorem QG_q {K p : Nat → Int32} {n : Int32} (h : QG c (p 20)) : QG (c + 1) (pqF K p n 20) := by
  obtain ⟨x, hx, e⟩ := h
  rw [pqF_at, if_pos rfl, e, nI_p1]
  exact ⟨x + 1, by omega, rfl⟩
theorem QG_p {p : Nat → Int32} {n : Int32} (h : QG c (p 20)) {j : Nat} (hj : j < 4) : QG (c + 1) (ppF p (nI j) n 20) := by
  rw [ppF_at hj]
  split
  · exact QG_up h
  · rw [upd_ne _ _ (by omega), upd_ne _ _ (by omega)]
    exact QG_up h
theorem QG_l {K p : Nat → Int32} {n : Int32} (h : QG c (p 20)) {j : Nat} (hj : j < 4) : QG (c + 1) (plF K p (nI j) n 20) := by
  rw [plF_at hj]
  split
  · exact QG_up h
  · rw [upd_ne _ _ (by omega), upd_ne _ _ (by omega)]
    exact QG_up h
theorem G75 (G : Nat → Nat → Int32) (x y : Nat → Int32) : uF (uF G 5 x) 7 y 1 = G 1 ∧ uF (uF G 5 x) 7 y 2 = G 2 ∧ uF (uF G 5 x) 7 y 5 = x ∧ uF (uF G 5 x) 7 y 7 = y ∧ uF (uF G 5 x) 7 y 8 = G 8 ∧ uF (uF G 5 x) 7 y 9 = G 9 ∧ uF (uF G 5 x) 7 y 10 = G 10 ∧ uF (uF G 5 x) 7 y 11 = G 11 := ⟨rfl, rfl, rfl, rfl, rfl, rfl, rfl, rfl⟩
theorem G57 (G : Nat → Nat → Int32) (x y : Nat → Int32) : uF (uF G 7 y) 5 x 1 = G 1 ∧ uF (uF G 7 y) 5 x 2 = G 2 ∧ uF (uF G 7 y) 5 x 5 = x ∧ uF (uF G 7 y) 5 x 7 = y ∧ uF (uF G 7 y) 5 x 8 = G 8 ∧ uF (uF G 7 y) 5 x 9 = G 9 ∧ uF (uF G 7 y) 5 x 10 = G 10 ∧ uF (uF G 7 y) 5 x 11 = G 11 := ⟨rfl, rfl, rfl, rfl, rfl, rfl, rfl, rfl⟩
theorem F84 (F : Nat → Nat → Int32) (x : Nat → Int32) : uF F 8 x 4 = F 4 := rfl
theorem gd15 {a b s : Nat} {i1 i2 j17 : Int32} {K bk rw : Nat → Int32} (h : PSr c a b s i1 i2 j17 K bk rw) : inr j17 15 = true := by
  obtain ⟨fs, sz, h1, h2, h3, h4, h5, -⟩ := h
  rw [h5]
  exact inr_mk (n := 15) (by decide) (by omega)
theorem op_quarter (h : SR c I F J G) : OPi c I F J G sd 77 136 [] := by
  obtain ⟨a, b, s, h0, h1, h2, h3, h4, h5⟩ := h
  obtain ⟨ha, hb, hs, e4, e5, e7, hr, hp⟩ := id h2
  obtain ⟨q1, q2⟩ := HR_q ha hb hr hp
  have eX := (en_X7_quarter_0 4 I F sd).trans ((tr_X7_quarter_0_0 4 I F sd).trans (tr_X7_quarter_0_5 4 I (uF F 8 (hsto (F 4) (F 8) 15 (pnext (I 1) (I 2)))) sd (HR_21 ha hr)))
  rw [F84] at eX
  have eY := (en_X8_quarter_0 5 J G sd).trans (tr_X8_quarter_0_0 5 J G sd (gd15 h3) (gd5 ha e5))
  rw [e5, ← q1.2.2.2.2.2.2.1] at eY
  refine ⟨_, _, _, _, _, _, eX, eY, SR_act h0 h1 h2 h3 h4 h5 ?_ q1 (PG_mono (Nat.le_succ c) q2) (QG_q h0.1) (G75 G _ _)⟩
  show ¬ hqF (F 4) 24 < 0
  rw [q1.2.2.2.2.2.2.1]
  exact (inr_of (pqF_19 _ _ _)).1
theorem lin19 (n : Int32) : lin n.toInt64 1 9 = (!decide (n < 1) && !decide (9 < n)) := lin_lit n 1 9
/-- what is wrong with a food or a number, told alike -/
theorem refu_3 {a b s : Nat} {K p f : Nat → Int32} (ha : a ≤ 4) (hr : HR a b s K p f) (q n : Int32) : (inr q (nI a) = false ∧ hrefu f q n = -1) ∨ (inr q (nI a) = true ∧ lin n.toInt64 1 9 = false ∧ hrefu f q n = -2) ∨ ∃ j m, j < a ∧ 1 ≤ m ∧ m ≤ 9 ∧ q = nI j ∧ n = nI m ∧ lin n.toInt64 1 9 = true := by
  cases hq : inr q (nI a)
  · refine Or.inl ⟨rfl, ?_⟩
    unfold hrefu
    rw [hr.1, hq, if_pos rfl]
  · by_cases c1 : n < 1
    · refine Or.inr (Or.inl ⟨rfl, by rw [lin19]; simp [c1], ?_⟩)
      unfold hrefu
      rw [hr.1, hq, if_neg (by decide), if_pos c1]
    · by_cases c2 : 9 < n
      · refine Or.inr (Or.inl ⟨rfl, by rw [lin19]; simp [c2], ?_⟩)
        unfold hrefu
        rw [hr.1, hq, if_neg (by decide), if_neg c1, if_pos c2]
      · obtain ⟨j, hj, ej⟩ := inr_nI (by omega) hq
        obtain ⟨m, hm, em⟩ := nI_of (x := n) (fun z => c1 (by
          rw [Int32.lt_iff_toInt_lt] at z ⊢
          have e0 : (0 : Int32).toInt = 0 := rfl
          have e1 : (1 : Int32).toInt = 1 := rfl
          omega))
        have l19 : lin n.toInt64 1 9 = true := by rw [lin19]; simp [c1, c2]
        rw [em, show (1 : Int32) = nI 1 from rfl, nI_ltI (by omega) (by decide)] at c1
        rw [em, show (9 : Int32) = nI 9 from rfl, nI_ltI (by decide) (by omega)] at c2
        exact Or.inr (Or.inr ⟨j, m, hj, by omega, by omega, ej, em, l19⟩)
theorem op_put (hc : c ≤ 600) (h : SR c I F J G) (q n : Int32) : OPi c I F J G sd 78 140 [.int q, .int n] := by
  obtain ⟨a, b, s, h0, h1, h2, h3, h4, h5⟩ := id h
  obtain ⟨ha, hb, hs, e4, e5, e7, hr, hp⟩ := id h2
  have gA : bI (!inr q (J 5)) = 0 → ∃ j, j < a ∧ q = nI j := by
    intro z
    rw [bI_n0, e5] at z
    exact inr_nI (by omega) z
  have eX := (en_X7_put_0 5 I F sd q n).trans ((tr_X7_put_0_0 5 I F sd q n).trans ((tr_X7_put_0_5 5 I (uF F 8 (hsto (F 4) (F 8) 15 (pnext (I 1) (I 2)))) sd q n).trans (tr_X7_put_0_11 5 I (uF F 8 (hsto (F 4) (F 8) 15 (pnext (I 1) (I 2)))) sd q n n q)))
  rw [F84] at eX
  have eY := (en_X8_put_0 7 J G sd q n).trans (tr_X8_put_0_0 7 J G sd q n (gd5 ha e5) (by intro z; intros; obtain ⟨j, hj, rfl⟩ := gA z; exact pm_in_nI (by omega) (by decide)) (by intros; exact gd15 h3) (by intro z; intros; obtain ⟨j, hj, rfl⟩ := gA z; exact inr_mk (n := 4) (by decide) (by omega)) (by intro z; intros; obtain ⟨j, hj, rfl⟩ := gA z; exact pm_in_nI (by omega) (by decide)))
  rw [e5] at eY
  simp only [bI_n0] at eY
  simp only [bI_0] at eY
  rcases refu_3 ha hr q n with ⟨c1, c2⟩ | ⟨c1, c3, c2⟩ | ⟨j, m, hj, m1, m9, rfl, rfl, c3⟩
  · have hA : hputA (F 4) q n = -1 := by unfold hputA; rw [c2, if_pos (by decide)]
    have hF : hputF (F 4) q n = F 4 := by unfold hputF; rw [c2, if_pos (by decide)]
    rw [c1, if_neg (by decide), ← hA] at eY
    exact ⟨_, _, _, _, _, _, eX, eY, SR_ref h (by rw [hA]; decide) hF⟩
  · have hA : hputA (F 4) q n = -2 := by unfold hputA; rw [c2, if_pos (by decide)]
    have hF : hputF (F 4) q n = F 4 := by unfold hputF; rw [c2, if_pos (by decide)]
    rw [c1, if_pos rfl, c3, if_pos rfl, ← hA] at eY
    exact ⟨_, _, _, _, _, _, eX, eY, SR_ref h (by rw [hA]; decide) hF⟩
  · obtain ⟨P1, P2⟩ := HR_put ha (by omega) hr hp hj m1 m9
    rw [inr_mk (by omega) hj, if_pos rfl, c3, if_neg (by decide), nI_clamp (by omega)] at eY
    by_cases c9 : 999 < G 5 j + nI m
    · obtain ⟨q1, q2, q3⟩ := P1 c9
      rw [if_pos c9, ← q1] at eY
      exact ⟨_, _, _, _, _, _, eX, eY, SR_ref h (by rw [q1]; decide) q2⟩
    · obtain ⟨q1, q2, q3, q4, q5⟩ := P2 c9
      rw [if_neg c9, show uF (uF G 5 (ppF (G 5) (nI j) (nI m))) 7 (nt7 (G 5) (G 7) (J 17)) 5 j = hputA (F 4) (nI j) (nI m) from q2.trans q1.symm] at eY
      exact ⟨_, _, _, _, _, _, eX, eY, SR_act h0 h1 h2 h3 h4 h5 (by rw [q1]; exact q5) q3 q4 (QG_p h0.1 (by omega)) (G75 G _ _)⟩
theorem op_eat (h : SR c I F J G) (q n : Int32) : OPi c I F J G sd 79 141 [.int q, .int n] := by
  obtain ⟨a, b, s, h0, h1, h2, h3, h4, h5⟩ := id h
  obtain ⟨ha, hb, hs, e4, e5, e7, hr, hp⟩ := id h2
  have gA : bI (!inr q (J 5)) = 0 → ∃ j, j < a ∧ q = nI j := by
    intro z
    rw [bI_n0, e5] at z
    exact inr_nI (by omega) z
  have eX := (en_X7_eat_0 5 I F sd q n).trans ((tr_X7_eat_0_0 5 I F sd q n).trans ((tr_X7_eat_0_5 5 I (uF F 8 (hsto (F 4) (F 8) 15 (pnext (I 1) (I 2)))) sd q n).trans (tr_X7_eat_0_11 5 I (uF F 8 (hsto (F 4) (F 8) 15 (pnext (I 1) (I 2)))) sd q n n q)))
  rw [F84] at eX
  have eY := (en_X8_eat_0 7 J G sd q n).trans (tr_X8_eat_0_0 7 J G sd q n (gd5 ha e5) (by intro z; intros; obtain ⟨j, hj, rfl⟩ := gA z; exact pm_in_nI (by omega) (by decide)) (by intros; exact gd15 h3) (by intro z; intros; obtain ⟨j, hj, rfl⟩ := gA z; exact pm_in_nI (by omega) (by decide)))
  rw [e5] at eY
  simp only [bI_n0] at eY
  simp only [bI_0] at eY
  rcases refu_3 ha hr q n with ⟨c1, c2⟩ | ⟨c1, c3, c2⟩ | ⟨j, m, hj, m1, m9, rfl, rfl, c3⟩
  · have hA : heatA (F 4) q n = -1 := by unfold heatA; rw [c2, if_pos (by decide)]
    have hF : heatF (F 4) q n = F 4 := by unfold heatF; rw [c2, if_pos (by decide)]
    rw [c1, if_neg (by decide), ← hA] at eY
    exact ⟨_, _, _, _, _, _, eX, eY, SR_ref h (by rw [hA]; decide) hF⟩
  · have hA : heatA (F 4) q n = -2 := by unfold heatA; rw [c2, if_pos (by decide)]
    have hF : heatF (F 4) q n = F 4 := by unfold heatF; rw [c2, if_pos (by decide)]
    rw [c1, if_pos rfl, c3, if_pos rfl, ← hA] at eY
    exact ⟨_, _, _, _, _, _, eX, eY, SR_ref h (by rw [hA]; decide) hF⟩
  · obtain ⟨P1, P2⟩ := HR_eat ha hr hp hj m1 m9
    rw [inr_mk (by omega) hj, if_pos rfl, c3, if_neg (by decide), nI_clamp (by omega)] at eY
    by_cases c9 : G 5 j < nI m
    · obtain ⟨q1, q2⟩ := P1 c9
      rw [if_pos c9, ← q1] at eY
      exact ⟨_, _, _, _, _, _, eX, eY, SR_ref h (by rw [q1]; decide) q2⟩
    · obtain ⟨q1, q2, q3, q4⟩ := P2 c9
      rw [if_neg c9, show uF (uF G 7 (nt7 (G 5) (G 7) (J 17))) 5 (upd (uF G 7 (nt7 (G 5) (G 7) (J 17)) 5) j (uF G 7 (nt7 (G 5) (G 7) (J 17)) 5 j - nI m)) 5 j = heatA (F 4) (nI j) (nI m) from (upd_at (G 5) j _).trans q1.symm] at eY
      exact ⟨_, _, _, _, _, _, eX, eY, SR_act h0 h1 h2 h3 h4 h5 (by rw [q1]; exact q4) q2 (PG_mono (Nat.le_succ c) q3) (QG_u h0.1 (by omega)) (G57 G _ _)⟩
theorem op_leave (hc : c ≤ 600) (h : SR c I F J G) (q n : Int32) : OPi c I F J G sd 80 142 [.int q, .int n] := by
  obtain ⟨a, b, s, h0, h1, h2, h3, h4, h5⟩ := id h
  obtain ⟨ha, hb, hs, e4, e5, e7, hr, hp⟩ := id h2
  have gA : bI (!inr q (J 5)) = 0 → ∃ j, j < a ∧ q = nI j := by
    intro z
    rw [bI_n0, e5] at z
    exact inr_nI (by omega) z
  have eX := (en_X7_leave_0 5 I F sd q n).trans ((tr_X7_leave_0_0 5 I F sd q n).trans ((tr_X7_leave_0_5 5 I (uF F 8 (hsto (F 4) (F 8) 15 (pnext (I 1) (I 2)))) sd q n).trans (tr_X7_leave_0_11 5 I (uF F 8 (hsto (F 4) (F 8) 15 (pnext (I 1) (I 2)))) sd q n n q)))
  rw [F84] at eX
  have eY := (en_X8_leave_0 7 J G sd q n).trans (tr_X8_leave_0_0 7 J G sd q n (gd5 ha e5) (by intro z; intros; obtain ⟨j, hj, rfl⟩ := gA z; exact pm_in_nI (by omega) (by decide)) (by intro z; intros; obtain ⟨j, hj, rfl⟩ := gA z; exact inr_mk (n := 4) (by decide) (by omega)) (by intros; exact gd15 h3) (by intro z; intros; obtain ⟨j, hj, rfl⟩ := gA z; exact inr_mk (n := 4) (by decide) (by omega)) (by intro z; intros; obtain ⟨j, hj, rfl⟩ := gA z; rw [show (4 : Int32) + nI j = nI (4 + j) from nI_add 4 j]; exact pm_in_nI (by omega) (by decide)))
  rw [e5] at eY
  simp only [bI_n0] at eY
  simp only [bI_0] at eY
  rcases refu_3 ha hr q n with ⟨c1, c2⟩ | ⟨c1, c3, c2⟩ | ⟨j, m, hj, m1, m9, rfl, rfl, c3⟩
  · have hA : hlvA (F 4) q n = -1 := by unfold hlvA; rw [c2, if_pos (by decide)]
    have hF : hlvF (F 4) q n = F 4 := by unfold hlvF; rw [c2, if_pos (by decide)]
    rw [c1, if_neg (by decide), ← hA] at eY
    exact ⟨_, _, _, _, _, _, eX, eY, SR_ref h (by rw [hA]; decide) hF⟩
  · have hA : hlvA (F 4) q n = -2 := by unfold hlvA; rw [c2, if_pos (by decide)]
    have hF : hlvF (F 4) q n = F 4 := by unfold hlvF; rw [c2, if_pos (by decide)]
    rw [c1, if_pos rfl, c3, if_pos rfl, ← hA] at eY
    exact ⟨_, _, _, _, _, _, eX, eY, SR_ref h (by rw [hA]; decide) hF⟩
  · obtain ⟨P1, P2⟩ := HR_lv ha (by omega) hr hp hj m1 m9
    rw [inr_mk (by omega) hj, if_pos rfl, c3, if_neg (by decide), nI_clamp (by omega), show (4 + nI j).toNatClampNeg = 4 + j from cl_add 4 j (by omega)] at eY
    by_cases c9 : G 5 j < pgr (G 2) (nI j) (nI m)
    · obtain ⟨q1, q2, q3⟩ := P1 c9
      rw [if_pos c9, ← q1] at eY
      exact ⟨_, _, _, _, _, _, eX, eY, SR_ref h (by rw [q1]; decide) q2⟩
    · obtain ⟨q1, q2, q3, q4, q5⟩ := P2 c9
      rw [if_neg c9, show uF (uF G 5 (plF (G 2) (G 5) (nI j) (nI m))) 7 (nt7 (G 5) (G 7) (J 17)) 5 (4 + j) = hlvA (F 4) (nI j) (nI m) from q2.trans q1.symm] at eY
      exact ⟨_, _, _, _, _, _, eX, eY, SR_act h0 h1 h2 h3 h4 h5 (by rw [q1]; exact q5) q3 q4 (QG_l h0.1 (by omega)) (G75 G _ _)⟩
theorem op_move (h : SR c I F J G) (q n : Int32) : OPi c I F J G sd 81 143 [.int q, .int n] := by
  obtain ⟨a, b, s, h0, h1, h2, h3, h4, h5⟩ := id h
  obtain ⟨ha, hb, hs, e4, e5, e7, hr, hp⟩ := id h2
  have gA : bI (!inr q (J 7)) = 0 → pm_in (12 + q) 21 = true := by
    intro z
    rw [bI_n0, e7] at z
    obtain ⟨j, hj, rfl⟩ := inr_nI (by omega) z
    rw [show (12 : Int32) + nI j = nI (12 + j) from nI_add 12 j]
    exact pm_in_nI (by omega) (by decide)
  have eX := (en_X7_move_0 6 I F sd q n).trans ((tr_X7_move_0_0 6 I F sd q n).trans ((tr_X7_move_0_5 6 I (uF F 8 (hsto (F 4) (F 8) 15 (pnext (I 1) (I 2)))) sd q n).trans (tr_X7_move_0_11 6 I (uF F 8 (hsto (F 4) (F 8) 15 (pnext (I 1) (I 2)))) sd q n n q)))
  rw [F84] at eX
  have eY := (en_X8_move_0 7 J G sd q n).trans (tr_X8_move_0_0 7 J G sd q n (gd6 hb e7) (by intro z; intros; exact gA z) (by intros; exact gd15 h3) (by intro z; intros; exact gA z))
  rw [e7] at eY
  simp only [bI_n0] at eY
  cases hq : inr q (nI b)
  · have hA : hcaA (F 4) q n = -1 := by unfold hcaA; rw [hr.2.1, hq, if_pos rfl]
    have hF : hcaF (F 4) q n = F 4 := by unfold hcaF; rw [hr.2.1, hq, if_pos rfl]
    rw [hq, if_neg (by decide), ← hA] at eY
    exact ⟨_, _, _, _, _, _, eX, eY, SR_ref h (by rw [hA]; decide) hF⟩
  · rw [hq, if_pos rfl] at eY
    cases hn : inr n 10
    · have hA : hcaA (F 4) q n = -1 := by unfold hcaA; rw [hr.2.1, hq, hn, if_neg (by decide), if_pos rfl]
      have hF : hcaF (F 4) q n = F 4 := by unfold hcaF; rw [hr.2.1, hq, hn, if_neg (by decide), if_pos rfl]
      rw [hn, if_neg (by decide), ← hA] at eY
      exact ⟨_, _, _, _, _, _, eX, eY, SR_ref h (by rw [hA]; decide) hF⟩
    · obtain ⟨j, hj, rfl⟩ := inr_nI (by omega) hq
      obtain ⟨y, hy, rfl⟩ := inr_nI (n := 10) (by decide) hn
      obtain ⟨P1, P2⟩ := HR_ca ha hb hr hp hj hy
      rw [hn, if_pos rfl, show (12 + nI j).toNatClampNeg = 12 + j from cl_add 12 j (by omega)] at eY
      by_cases c9 : G 5 (12 + j) = nI y
      · obtain ⟨q1, q2⟩ := P1 c9
        rw [if_pos c9, ← q1] at eY
        exact ⟨_, _, _, _, _, _, eX, eY, SR_ref h (by rw [q1]; decide) q2⟩
      · obtain ⟨q1, q2, q3, q4⟩ := P2 c9
        rw [if_neg c9, ← q1] at eY
        exact ⟨_, _, _, _, _, _, eX, eY, SR_act h0 h1 h2 h3 h4 h5 (by rw [q1]; exact q4) q2 (PG_mono (Nat.le_succ c) q3) (QG_u h0.1 (by omega)) (G57 G _ _)⟩
theorem op_sprinkle (h : SR c I F J G) (q : Int32) : OPi c I F J G sd 82 144 [.int q] := by
  obtain ⟨a, b, s, h0, h1, h2, h3, h4, h5⟩ := id h
  obtain ⟨ha, hb, hs, e4, e5, e7, hr, hp⟩ := id h2
  have eX := (en_X7_sprinkle_0 6 I F sd q).trans ((tr_X7_sprinkle_0_0 6 I F sd q).trans (tr_X7_sprinkle_0_5 6 I (uF F 8 (hsto (F 4) (F 8) 15 (pnext (I 1) (I 2)))) sd q))
  rw [F84] at eX
  have eY := (en_X8_sprinkle_0 7 J G sd q).trans (tr_X8_sprinkle_0_0 7 J G sd q (by intros; exact gd15 h3))
  simp only [bI_n0] at eY
  simp only [bI_0] at eY
  cases hn : inr q 10
  · have hA : hstA (F 4) q = -1 := by unfold hstA; rw [hn, if_pos rfl]
    have hF : hstF (F 4) q = F 4 := by unfold hstF; rw [hn, if_pos rfl]
    rw [hn, if_neg (by decide), ← hA] at eY
    exact ⟨_, _, _, _, _, _, eX, eY, SR_ref h (by rw [hA]; decide) hF⟩
  · obtain ⟨y, hy, rfl⟩ := inr_nI (n := 10) (by decide) hn
    obtain ⟨P1, P2⟩ := HR_st ha hb hr hp hy
    rw [hn, if_pos rfl] at eY
    cases c9 : yhas (G 5 17) (nI y)
    · obtain ⟨q1, q2, q3, q4⟩ := P2 c9
      rw [c9, if_pos rfl, show ymany (uF (uF G 7 (nt7 (G 5) (G 7) (J 17))) 5 (upd (uF G 7 (nt7 (G 5) (G 7) (J 17)) 5) 17 (uF G 7 (nt7 (G 5) (G 7) (J 17)) 5 17 ||| ((1 : Int32) <<< (nI y &&& 31)))) 5 17) = hstA (F 4) (nI y) from q1.symm] at eY
      exact ⟨_, _, _, _, _, _, eX, eY, SR_act h0 h1 h2 h3 h4 h5 (by rw [q1]; exact q4) q2 (PG_mono (Nat.le_succ c) q3) (QG_u h0.1 (by omega)) (G57 G _ _)⟩
    · obtain ⟨q1, q2⟩ := P1 c9
      rw [c9, if_neg (by decide), ← q1] at eY
      exact ⟨_, _, _, _, _, _, eX, eY, SR_ref h (by rw [q1]; decide) q2⟩
theorem op_undo (h : SR c I F J G) : OPi c I F J G sd 83 145 [] := by
  obtain ⟨a, b, s, h0, h1, h2, h3, h4, h5⟩ := id h
  obtain ⟨ha, hb, hs, e4, e5, e7, hr, hp⟩ := id h2
  have eX := (en_X7_undo_0 7 I F sd).trans (tr_X7_undo_0_0 7 I F sd)
  have eY := sp_X8_undo_0 9 J G sd (gd15 h3)
  by_cases hz : I 2 = 0
  · obtain ⟨fs, sz, p1, p2, p3, p4, p5, p6⟩ := id h3
    have j0 : J 17 = 0 := p5.trans (p4.symm.trans hz)
    have a1 : ptbA (I 2) = -3 := if_pos hz
    have a2 : unA (J 17) = -3 := if_pos j0
    rw [a1, show ptbS (I 2) = I 2 from if_pos hz, show ptbF (F 8) (F 4) (I 1) (I 2) = F 4 from if_pos hz] at eX
    rw [a2, show unS (J 17) = J 17 from if_pos j0, show un5 (G 7) (G 5) (J 17) = G 5 from if_pos j0] at eY
    exact ⟨_, _, _, _, _, _, eX, eY, a, b, s, QR_up h0, h1, MN_up h2, PS_up h3, SL_up h4, h5⟩
  · obtain ⟨q1, q2, q3, q4⟩ := PS_undo (p := G 5) (f := F 4) ha hb h3 hz
    rw [← q4] at eY
    exact ⟨_, _, _, _, _, _, eX, eY, a, b, s, QR_up (QR_undo h0 h3), h1, MN_up ⟨ha, hb, hs, e4, e5, e7, q2, q3⟩, PS_up q1, SL_up h4, h5⟩
end
