/-! quarters and told doings in both states -/
theorem hqL_a2 (g : Nat → Int32) : ∀ k, k ≤ 4 → ∀ j, hqL g k j = if (8 ≤ j ∧ j < 8 + k) ∨ (12 ≤ j ∧ j < 12 + k) then 0 else g j
  | 0, _, j => by
    rw [if_neg (by omega)]
    rfl
  | k + 1, hk, j => by
    have ih := hqL_a2 g k (by omega) j
    rw [hqL, show (8 : Int32) = nI 8 from rfl, show (12 : Int32) = nI 12 from rfl, hsN 8 (by omega), hsN 12 (by omega)]
    by_cases e1 : j = 12 + k
    · rw [e1, upd_at, if_pos (by omega)]
    · rw [upd_ne _ _ e1]
      by_cases e2 : j = 8 + k
      · rw [e2, upd_at, if_pos (by omega)]
      · rw [upd_ne _ _ e2, ih]
        by_cases e3 : (8 ≤ j ∧ j < 8 + k) ∨ (12 ≤ j ∧ j < 12 + k)
        · rw [if_pos e3, if_pos (by omega)]
        · rw [if_neg e3, if_neg (by omega)]
theorem hqF_at {f : Nat → Int32} {a : Nat} (ha : a ≤ 4) (h21 : f 21 = nI a) (j : Nat) : hqF f j = if j = 27 then f 27 + 1 else if j = 26 then 0 else if (8 ≤ j ∧ j < 8 + a) ∨ (12 ≤ j ∧ j < 12 + a) then 0 else if j = 25 then (if 0 < hshort f then f 25 + hshort f else 0) else if j = 24 then hgw f else f j := by
  have e1 : hq1 f = upd (upd f 24 (hgw f)) 25 (if 0 < hshort f then f 25 + hshort f else 0) := by
    unfold hq1
    rw [show (24 : Int32) = nI 24 from rfl, show (25 : Int32) = nI 25 from rfl, hset_at (by decide), hset_at (by decide), upd_ne _ _ (show (25 : Nat) ≠ 24 by decide)]
  have e2 : ∀ g : Nat → Int32, hq2 g = upd (upd g 26 0) 27 (g 27 + 1) := by
    intro g
    unfold hq2
    rw [show (26 : Int32) = nI 26 from rfl, show (27 : Int32) = nI 27 from rfl, hset_at (by decide), hset_at (by decide), hcell_at (by decide), upd_ne _ _ (show (27 : Nat) ≠ 26 by decide)]
  unfold hqF
  rw [h21, nI_clamp (by omega), e2, e1]
  by_cases c1 : j = 27
  · rw [c1, upd_at, if_pos rfl, hqL_a2 _ a ha, if_neg (by omega), upd_ne _ _ (by decide), upd_ne _ _ (by decide)]
  · rw [upd_ne _ _ c1, if_neg c1]
    by_cases c2 : j = 26
    · rw [c2, upd_at, if_pos rfl]
    · rw [upd_ne _ _ c2, if_neg c2, hqL_a2 _ a ha]
      by_cases c3 : (8 ≤ j ∧ j < 8 + a) ∨ (12 ≤ j ∧ j < 12 + a)
      · rw [if_pos c3, if_pos c3]
      · rw [if_neg c3, if_neg c3]
        by_cases c4 : j = 25
        · rw [c4, upd_at, if_pos rfl]
        · rw [upd_ne _ _ c4, if_neg c4]
          by_cases c5 : j = 24
          · rw [c5, upd_at, if_pos rfl]
          · rw [upd_ne _ _ c5, if_neg c5]
theorem clamp9 (g : Int32) : (if 0 < (if g < 9 then g else 9) then (if g < 9 then g else 9) else 0) = if g < 0 then 0 else if 9 < g then 9 else g := by
  have e0 : (0 : Int32).toInt = 0 := rfl
  have e9 : (9 : Int32).toInt = 9 := rfl
  by_cases h9 : g < 9
  · rw [if_pos h9]
    by_cases h0 : 0 < g
    · rw [if_pos h0, if_neg (fun h => by rw [Int32.lt_iff_toInt_lt] at h h0; omega), if_neg (fun h => by rw [Int32.lt_iff_toInt_lt] at h h9; omega)]
    · rw [if_neg h0]
      by_cases h1 : g < 0
      · rw [if_pos h1]
      · rw [if_neg h1, if_neg (fun h => by rw [Int32.lt_iff_toInt_lt] at h h9; omega)]
        rw [Int32.lt_iff_toInt_lt] at h0 h1
        rw [← Int32.toInt_inj]
        omega
  · rw [if_neg h9, if_pos (by decide), if_neg (fun h => by rw [Int32.lt_iff_toInt_lt] at h h9; omega)]
    by_cases h1 : 9 < g
    · rw [if_pos h1]
    · rw [if_neg h1]
      rw [Int32.lt_iff_toInt_lt] at h9 h1
      rw [← Int32.toInt_inj]
      omega
section
variable {a b s : Nat} {K p f : Nat → Int32}
theorem HR_gw {c : Nat} (ha : a ≤ 4) (hr : HR a b s K p f) (hp : PG c a b p) : hgw f = pgw K p (nI a) := by
  obtain ⟨w, hw, ew⟩ := hp.2.2.2.2.2.1
  have e0 : hgw0 f = pgw0 K p (nI a) := by
    unfold hgw0 pgw0
    rw [HR_short ha hr hp, hr.2.2.2.2.1, hr.2.2.2.2.2.2.1, ew, bc_all hw]
  unfold hgw pgw
  rw [e0, clamp9]
theorem HR_q {c : Nat} (ha : a ≤ 4) (hb : b ≤ 5) (hr : HR a b s K p f) (hp : PG c a b p) : HR a b s K (pqF K p (nI a)) (hqF f) ∧ PG c a b (pqF K p (nI a)) := by
  have q := hqF_at ha hr.1
  have y := pqF_at K p (nI a)
  obtain ⟨h1, h2, h3, h4, h5, h6, h7, h8, h9⟩ := id hr
  constructor
  · refine ⟨?_, ?_, ?_, ?_, ?_, ?_, ?_, ?_, ?_⟩
    · rw [q, if_neg (by decide), if_neg (by decide), if_neg (by omega), if_neg (by decide), if_neg (by decide)]; exact h1
    · rw [q, if_neg (by decide), if_neg (by decide), if_neg (by omega), if_neg (by decide), if_neg (by decide)]; exact h2
    · rw [q, if_neg (by decide), if_neg (by decide), if_neg (by omega), if_neg (by decide), if_neg (by decide)]; exact h3
    · intro j hj
      rw [q, y, if_neg (show ¬ 4 + j = 27 by omega), if_neg (show ¬ 4 + j = 26 by omega), if_neg (show ¬ 4 + j = 25 by omega), if_neg (show ¬ 4 + j = 24 by omega), if_neg (show ¬ j = 20 by omega), if_neg (show ¬ j = 17 by omega), if_neg (show ¬ j = 19 by omega), if_neg (show ¬ j = 18 by omega), h4 j hj]
      by_cases c3 : (8 ≤ 4 + j ∧ 4 + j < 8 + a) ∨ (12 ≤ 4 + j ∧ 4 + j < 12 + a)
      · rw [if_pos c3, if_pos (by omega)]
      · rw [if_neg c3]
        by_cases c4 : 4 ≤ j ∧ j < 12
        · rw [if_pos c4]
          rcases Nat.lt_or_ge j 8 with e | e
          · have := (hp.2.2.2.1 (j - 4) (by omega) (by omega)).1
            rw [show 4 + (j - 4) = j by omega] at this
            exact this
          · have := (hp.2.2.2.1 (j - 8) (by omega) (by omega)).2
            rw [show 8 + (j - 8) = j by omega] at this
            exact this
        · rw [if_neg c4]
    · rw [q, y, if_neg (by decide), if_pos rfl, if_neg (by decide), if_pos rfl]
    · rw [q, y, if_neg (show ¬ (25 : Nat) = 27 by decide), if_neg (show ¬ (25 : Nat) = 26 by decide), if_neg (show ¬ ((8 ≤ 25 ∧ 25 < 8 + a) ∨ (12 ≤ 25 ∧ 25 < 12 + a)) by omega), if_pos rfl, if_neg (show ¬ (18 : Nat) = 20 by decide), if_neg (show ¬ (18 : Nat) = 17 by decide), if_neg (show ¬ (4 ≤ 18 ∧ 18 < 12) by decide), if_neg (show ¬ (18 : Nat) = 19 by decide), if_pos rfl, HR_short ha hr hp, h6]
    · rw [q, y, if_neg (by decide), if_neg (by decide), if_neg (by omega), if_neg (by decide), if_pos rfl, if_neg (by decide), if_neg (by decide), if_neg (by decide), if_pos rfl, HR_gw ha hr hp]
    · rw [q, y, if_pos rfl, if_pos rfl, h8]
    · intro j hj
      rw [q, if_neg (by omega), if_neg (by omega), if_neg (by omega), if_neg (by omega), if_neg (by omega)]
      exact h9 j hj
  · obtain ⟨p1, p2, p3, p4, p5, p6, p7⟩ := id hp
    refine ⟨fun j hj => ?_, fun j hj => ⟨0, by omega, ?_⟩, fun j hj => ⟨0, by omega, ?_⟩, fun j hj hj2 => ⟨?_, ?_⟩, fun t ht => ?_, ⟨0, by decide, ?_⟩, pqF_19 K p (nI a)⟩
    · rw [y, if_neg (by omega), if_neg (by omega), if_neg (by omega), if_neg (by omega), if_neg (by omega)]; exact p1 j hj
    · rw [y, if_neg (by omega), if_neg (by omega), if_pos (by omega)]; rfl
    · rw [y, if_neg (by omega), if_neg (by omega), if_pos (by omega)]; rfl
    · rw [y, if_neg (by omega), if_neg (by omega), if_pos (by omega)]
    · rw [y, if_neg (by omega), if_neg (by omega), if_pos (by omega)]
    · rw [y, if_neg (by omega), if_neg (by omega), if_neg (by omega), if_neg (by omega), if_neg (by omega)]; exact p5 t ht
    · rw [y, if_neg (by omega), if_pos rfl]; rfl
theorem dgs {n : Nat} (hn : n < 1000) : nI n / 100 = nI (n / 100) ∧ dg2 (nI n) = nI (n / 10 % 10) ∧ dg3 (nI n) = nI (n % 10) := by
  unfold dg2 dg3
  rw [show (100 : Int32) = nI 100 from rfl, show (10 : Int32) = nI 10 from rfl, pk_div (by omega) (by decide) (by decide), pk_rem (by omega) (by decide) (by decide), pk_div (by omega) (by decide) (by decide), pk_rem (by omega) (by decide) (by decide)]
  exact ⟨rfl, rfl, rfl⟩
theorem spF_same {y : Nat} (hp : ∃ w, w < 1024 ∧ p 17 = nI w) (hy : y < 10) (h : yhas (p 17) (nI y) = true) : spF p (nI y) = p := by
  obtain ⟨w, hw, ew⟩ := hp
  have key : (List.range 1024).all (fun w => (List.range 10).all (fun q => !yhas (nI w) (nI q) || decide (nI w ||| ((1 : Int32) <<< (nI q &&& 31)) = nI w))) = true := by decide +kernel
  have h1 := List.all_eq_true.mp (List.all_eq_true.mp key w (List.mem_range.mpr hw)) y (List.mem_range.mpr hy)
  rw [ew] at h
  rw [h] at h1
  have h2 := of_decide_eq_true ((Bool.false_or _).symm.trans h1)
  unfold spF
  rw [ew, h2, ← ew, upd_self]
theorem inr_dg {j n : Nat} (hj : j < 2 ^ 31) (hn : n < 2 ^ 31) : inr (nI j) (nI n) = decide (j < n) := by
  by_cases h : j < n
  · rw [inr_mk hn h, decide_eq_true h]
  · unfold inr
    rw [decide_eq_false (p := nI j < nI n) (nI_nlt (by omega) hj), Bool.and_false, decide_eq_false h]
theorem refu_no {j m : Nat} (hr : HR a b s K p f) (ha : a ≤ 4) (hj : j < 2 ^ 31) (hm : m ≤ 9) (h : ¬ (j < a ∧ 1 ≤ m)) : hrefu f (nI j) (nI m) < 0 := by
  unfold hrefu
  rw [hr.1, inr_dg hj (by omega)]
  by_cases h1 : j < a
  · rw [decide_eq_true h1, if_neg (by decide), if_pos (by rw [show (1 : Int32) = nI 1 from rfl, nI_ltI (by omega) (by decide)]; omega)]
    decide
  · rw [decide_eq_false h1, if_pos rfl]
    decide
theorem ne_nI {x y : Nat} (hx : x < 2 ^ 31) (hy : y < 2 ^ 31) (h : x ≠ y) : ¬ nI x = nI y := fun e => h ((nI_eq hx hy).mp e)
set_option maxHeartbeats 4000000 in
theorem HR_ds {c n : Nat} (ha : a ≤ 4) (hb : b ≤ 5) (hc : c < 2 ^ 20) (hr : HR a b s K p f) (hp : PG c a b p) (hn : n < 1000) :
    cbA f (nI n) = dsA K p (nI a) (nI b) (nI s) (nI n) ∧ HR a b s K (dsF K p (nI a) (nI b) (nI n)) (cbF f (nI n)) ∧ PG (c + 1) a b (dsF K p (nI a) (nI b) (nI n)) := by
  obtain ⟨d1, d2, d3⟩ := dgs hn
  have hp1 := PG_mono (Nat.le_succ c) hp
  unfold cbA cbF dsA dsF
  rw [d1, d2, d3]
  generalize hh : n / 100 = h
  generalize ht : n / 10 % 10 = t
  generalize hu : n % 10 = u
  have hh9 : h < 10 := by omega
  have ht9 : t < 10 := by omega
  have hu9 : u < 10 := by omega
  have z0 : nI n = 0 ↔ (h = 0 ∧ t = 0 ∧ u = 0) := by
    rw [show (0 : Int32) = nI 0 from rfl, nI_eq (by omega) (by decide)]
    omega
  have t0 : nI t = 0 ↔ t = 0 := by rw [show (0 : Int32) = nI 0 from rfl, nI_eq (by omega) (by decide)]
  have u0 : nI u = 0 ↔ u = 0 := by rw [show (0 : Int32) = nI 0 from rfl, nI_eq (by omega) (by decide)]
  have up : 0 < nI u ↔ 1 ≤ u := by rw [show (0 : Int32) = nI 0 from rfl, nI_ltI (by decide) (by omega)]; omega
  have ct : (nI t).toNatClampNeg = t := nI_clamp (by omega)
  rcases (show h = 0 ∨ h = 1 ∨ h = 2 ∨ h = 3 ∨ h = 4 ∨ h = 5 ∨ h = 6 ∨ 7 ≤ h by omega) with e | e | e | e | e | e | e | e
  · subst e
    have eh : (nI 0 = 0) = True := eq_true rfl
    simp only [eh, if_true]
    by_cases c1 : t = 0
    · by_cases c2 : u = 0
      · have hz : nI n = 0 := z0.mpr ⟨rfl, c1, c2⟩
        obtain ⟨q1, q2⟩ := HR_q ha hb hr hp
        rw [if_pos hz, if_pos hz, if_pos (t0.mpr c1), if_pos (u0.mpr c2)]
        refine ⟨?_, q1, PG_mono (Nat.le_succ c) q2⟩
        have h24 : ¬ hqF f 24 < 0 := by
          rw [q1.2.2.2.2.2.2.1]
          exact (inr_of (pqF_19 K p (nI a))).1
        simp [t0.mpr c1, u0.mpr c2, h24]
      · have hz : ¬ nI n = 0 := fun q => c2 (z0.mp q).2.2
        have h1 : ¬ nI 0 = 1 := by decide
        have h2 : ¬ nI 0 = 2 := by decide
        have h3 : ¬ nI 0 = 3 := by decide
        have h4 : ¬ nI 0 = 4 := by decide
        have h5 : ¬ nI 0 = 5 := by decide
        have h6 : ¬ nI 0 = 6 := by decide
        simp only [hz, h1, h2, h3, h4, h5, h6, if_false, t0, c1, if_true, u0, c2, decide_true, decide_false, Bool.false_and, Bool.and_false]
        exact ⟨trivial, hr, hp1⟩
    · have hz : ¬ nI n = 0 := fun q => c1 (z0.mp q).2.1
      have h1 : ¬ nI 0 = 1 := by decide
      have h2 : ¬ nI 0 = 2 := by decide
      have h3 : ¬ nI 0 = 3 := by decide
      have h4 : ¬ nI 0 = 4 := by decide
      have h5 : ¬ nI 0 = 5 := by decide
      have h6 : ¬ nI 0 = 6 := by decide
      simp only [hz, h1, h2, h3, h4, h5, h6, if_false, t0, c1, decide_false, Bool.false_and]
      exact ⟨trivial, hr, hp1⟩
  · subst e
    have hz : ¬ nI n = 0 := fun q => absurd (z0.mp q).1 (by decide)
    have h0 : ¬ nI 1 = 0 := by decide
    have h1 : nI 1 = 1 := rfl
    rw [if_neg h0, if_pos h1, if_neg hz, if_pos h1, if_neg hz, if_pos h1, if_neg h0, if_pos h1]
    simp only [ct, inr_dg (show t < 2 ^ 31 by omega) (show a < 2 ^ 31 by omega), up]
    by_cases g : t < a ∧ 1 ≤ u
    · obtain ⟨P1, P2⟩ := HR_put ha hc hr hp g.1 g.2 (show u ≤ 9 by omega)
      simp only [g.1, g.2, decide_true, Bool.true_and, and_true, if_true]
      by_cases c9 : 999 < p t + nI u
      · obtain ⟨q1, q2, q3⟩ := P1 c9
        rw [q1, q2, q3]
        refine ⟨?_, hr, hp1⟩
        rw [decide_eq_true c9]; decide
      · obtain ⟨q1, q2, q3, q4, q5⟩ := P2 c9
        rw [q1, decide_eq_false c9, decide_eq_false q5]
        exact ⟨rfl, q3, q4⟩
    · have rf := refu_no hr ha (show t < 2 ^ 31 by omega) (show u ≤ 9 by omega) g
      have eA : hputA f (nI t) (nI u) = hrefu f (nI t) (nI u) := if_pos rf
      have eF : hputF f (nI t) (nI u) = f := if_pos rf
      rw [eA, eF]
      refine ⟨?_, ?_, ?_⟩
      · rw [decide_eq_true rf]
        by_cases g1 : t < a
        · have g2 : ¬ 1 ≤ u := fun q => g ⟨g1, q⟩
          simp [g2]
        · simp [g1]
      · rw [if_neg (by rw [decide_eq_true_eq]; exact g)]; exact hr
      · rw [if_neg (by rw [decide_eq_true_eq]; exact g)]; exact hp1
  · subst e
    have hz : ¬ nI n = 0 := fun q => absurd (z0.mp q).1 (by decide)
    have h0 : ¬ nI 2 = 0 := by decide
    have h1 : ¬ nI 2 = 1 := by decide
    have h2 : nI 2 = 2 := rfl
    rw [if_neg h0, if_neg h1, if_pos h2, if_neg hz, if_neg h1, if_pos h2, if_neg hz, if_neg h1, if_pos h2, if_neg h0, if_neg h1, if_pos h2]
    simp only [ct, inr_dg (show t < 2 ^ 31 by omega) (show a < 2 ^ 31 by omega), up]
    by_cases g : t < a ∧ 1 ≤ u
    · obtain ⟨P1, P2⟩ := HR_lv ha hc hr hp g.1 g.2 (show u ≤ 9 by omega)
      simp only [g.1, g.2, decide_true, Bool.true_and, and_true, if_true]
      by_cases c9 : p t < pgr K (nI t) (nI u)
      · obtain ⟨q1, q2, q3⟩ := P1 c9
        rw [q1, q2, q3]
        refine ⟨?_, hr, hp1⟩
        rw [decide_eq_true c9]; decide
      · obtain ⟨q1, q2, q3, q4, q5⟩ := P2 c9
        rw [q1, decide_eq_false c9, decide_eq_false q5]
        exact ⟨rfl, q3, q4⟩
    · have rf := refu_no hr ha (show t < 2 ^ 31 by omega) (show u ≤ 9 by omega) g
      have eA : hlvA f (nI t) (nI u) = hrefu f (nI t) (nI u) := if_pos rf
      have eF : hlvF f (nI t) (nI u) = f := if_pos rf
      rw [eA, eF]
      refine ⟨?_, ?_, ?_⟩
      · rw [decide_eq_true rf]
        by_cases g1 : t < a
        · have g2 : ¬ 1 ≤ u := fun q => g ⟨g1, q⟩
          simp [g2]
        · simp [g1]
      · rw [if_neg (by rw [decide_eq_true_eq]; exact g)]; exact hr
      · rw [if_neg (by rw [decide_eq_true_eq]; exact g)]; exact hp1
  · subst e
    have hz : ¬ nI n = 0 := fun q => absurd (z0.mp q).1 (by decide)
    have h0 : ¬ nI 3 = 0 := by decide
    have h1 : ¬ nI 3 = 1 := by decide
    have h2 : ¬ nI 3 = 2 := by decide
    have h3 : nI 3 = 3 := rfl
    rw [if_neg h0, if_neg h1, if_neg h2, if_pos h3, if_neg hz, if_neg h1, if_neg h2, if_pos h3, if_neg hz, if_neg h1, if_neg h2, if_pos h3, if_neg h0, if_neg h1, if_neg h2, if_pos h3]
    unfold mvA mvF
    rw [inr_dg (show t < 2 ^ 31 by omega) (show b < 2 ^ 31 by omega)]
    by_cases g : t < b
    · obtain ⟨P1, P2⟩ := HR_ca ha hb hr hp g hu9
      rw [show (12 + nI t).toNatClampNeg = 12 + t from cl_add 12 t (by omega), decide_eq_true g, Bool.true_and]
      by_cases c9 : p (12 + t) = nI u
      · obtain ⟨q1, q2⟩ := P1 c9
        rw [q1, q2, decide_eq_true c9, if_neg (fun q => q.2 c9)]
        exact ⟨by decide, hr, hp1⟩
      · obtain ⟨q1, q2, q3, q4⟩ := P2 c9
        rw [q1, decide_eq_false q4, decide_eq_false c9, if_pos ⟨rfl, c9⟩]
        exact ⟨rfl, q2, PG_mono (Nat.le_succ c) q3⟩
    · have i0 : inr (nI t) (f 22) = false := by rw [hr.2.1, inr_dg (by omega) (by omega), decide_eq_false g]
      have eA : hcaA f (nI t) (nI u) = -1 := if_pos i0
      have eF : hcaF f (nI t) (nI u) = f := if_pos i0
      rw [eA, eF, decide_eq_false g, if_neg (fun q => absurd q.1 (by decide)), Bool.false_and]
      exact ⟨by decide, hr, hp1⟩
  · subst e
    have hz : ¬ nI n = 0 := fun q => absurd (z0.mp q).1 (by decide)
    have h0 : ¬ nI 4 = 0 := by decide
    have h1 : ¬ nI 4 = 1 := by decide
    have h2 : ¬ nI 4 = 2 := by decide
    have h3 : ¬ nI 4 = 3 := by decide
    have h4 : nI 4 = 4 := rfl
    rw [if_neg h0, if_neg h1, if_neg h2, if_neg h3, if_pos h4, if_neg hz, if_neg h1, if_neg h2, if_neg h3, if_pos h4, if_neg hz, if_neg h1, if_neg h2, if_neg h3, if_pos h4, if_neg h0, if_neg h1, if_neg h2, if_neg h3, if_pos h4]
    by_cases g : t = 0
    · rw [if_pos (t0.mpr g), if_pos (t0.mpr g), decide_eq_true (t0.mpr g), Bool.true_and, Bool.true_and]
      obtain ⟨P1, P2⟩ := HR_st ha hb hr hp hu9
      cases c9 : yhas (p 17) (nI u)
      · obtain ⟨q1, q2, q3, q4⟩ := P2 c9
        rw [q1, decide_eq_false q4]
        exact ⟨rfl, q2, PG_mono (Nat.le_succ c) q3⟩
      · obtain ⟨q1, q2⟩ := P1 c9
        rw [q1, q2, spF_same hp.2.2.2.2.2.1 hu9 c9]
        exact ⟨by decide, hr, hp1⟩
    · have g0 : ¬ nI t = 0 := fun q => g (t0.mp q)
      rw [if_neg g0, if_neg g0, decide_eq_false g0]
      exact ⟨rfl, hr, hp1⟩
  · subst e
    have hz : ¬ nI n = 0 := fun q => absurd (z0.mp q).1 (by decide)
    have h0 : ¬ nI 5 = 0 := by decide
    have h1 : ¬ nI 5 = 1 := by decide
    have h2 : ¬ nI 5 = 2 := by decide
    have h3 : ¬ nI 5 = 3 := by decide
    have h4 : ¬ nI 5 = 4 := by decide
    have h5 : nI 5 = 5 := rfl
    rw [if_neg h0, if_neg h1, if_neg h2, if_neg h3, if_neg h4, if_pos h5, if_neg hz, if_neg h1, if_neg h2, if_neg h3, if_neg h4, if_pos h5, if_neg hz, if_neg h1, if_neg h2, if_neg h3, if_neg h4, if_neg h0, if_neg h1, if_neg h2, if_neg h3, if_neg h4]
    refine ⟨?_, hr, hp1⟩
    rw [hr.2.1, HR_known hb hr hp, xy_has (inr_mk (n := 10) (by decide) hu9)]
  · subst e
    have hz : ¬ nI n = 0 := fun q => absurd (z0.mp q).1 (by decide)
    have h0 : ¬ nI 6 = 0 := by decide
    have h1 : ¬ nI 6 = 1 := by decide
    have h2 : ¬ nI 6 = 2 := by decide
    have h3 : ¬ nI 6 = 3 := by decide
    have h4 : ¬ nI 6 = 4 := by decide
    have h5 : ¬ nI 6 = 5 := by decide
    have h6 : nI 6 = 6 := rfl
    rw [if_neg h0, if_neg h1, if_neg h2, if_neg h3, if_neg h4, if_neg h5, if_pos h6, if_neg hz, if_neg h1, if_neg h2, if_neg h3, if_neg h4, if_neg h5, if_pos h6, if_neg hz, if_neg h1, if_neg h2, if_neg h3, if_neg h4, if_neg h0, if_neg h1, if_neg h2, if_neg h3, if_neg h4]
    refine ⟨?_, hr, hp1⟩
    rw [hr.2.2.2.2.2.2.1]
  · have hz : ¬ nI n = 0 := fun q => absurd (z0.mp q).1 (by omega)
    have h0 : ¬ nI h = 0 := ne_nI (y := 0) (by omega) (by decide) (by omega)
    have h1 : ¬ nI h = 1 := ne_nI (y := 1) (by omega) (by decide) (by omega)
    have h2 : ¬ nI h = 2 := ne_nI (y := 2) (by omega) (by decide) (by omega)
    have h3 : ¬ nI h = 3 := ne_nI (y := 3) (by omega) (by decide) (by omega)
    have h4 : ¬ nI h = 4 := ne_nI (y := 4) (by omega) (by decide) (by omega)
    have h5 : ¬ nI h = 5 := ne_nI (y := 5) (by omega) (by decide) (by omega)
    have h6 : ¬ nI h = 6 := ne_nI (y := 6) (by omega) (by decide) (by omega)
    rw [if_neg h0, if_neg h1, if_neg h2, if_neg h3, if_neg h4, if_neg h5, if_neg h6, if_neg hz, if_neg h1, if_neg h2, if_neg h3, if_neg h4, if_neg h5, if_neg h6, if_neg hz, if_neg h1, if_neg h2, if_neg h3, if_neg h4, if_neg h0, if_neg h1, if_neg h2, if_neg h3, if_neg h4]
    exact ⟨rfl, hr, hp1⟩
end
