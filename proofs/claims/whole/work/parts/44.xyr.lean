/-! years and rests: the other side's answers -/
theorem dbc_cb {x : Nat} (hx : x < 32) (f : Nat → Int32) : ∃ n, n < 1000 ∧ yrG (nI x) = nI n ∧ dbcF f (nI x) = cbF f (nI n) := by
  have l8 : nI x < 8 ↔ x < 8 := nI_ltI (b := 8) (by omega) (by decide)
  have l16 : nI x < 16 ↔ x < 16 := nI_ltI (b := 16) (by omega) (by decide)
  have l26 : nI x < 26 ↔ x < 26 := nI_ltI (b := 26) (by omega) (by decide)
  have h2 : nI x / 2 = nI (x / 2) := pk_div (d := 2) (by omega) (by decide) (by decide)
  unfold yrG dbcF
  by_cases c1 : x < 8
  · refine ⟨109 + 10 * (x / 2), by omega, ?_, ?_⟩
    · rw [if_pos (l8.mpr c1), h2, show (10 : Int32) = nI 10 from rfl, pk_mul, show (109 : Int32) = nI 109 from rfl, nI_add]
    · obtain ⟨d1, d2, d3⟩ := dgs (n := 109 + 10 * (x / 2)) (by omega)
      rw [if_pos (l8.mpr c1), h2]
      unfold cbF
      rw [d1, d2, d3, show (109 + 10 * (x / 2)) / 100 = 1 by omega, show (109 + 10 * (x / 2)) / 10 % 10 = x / 2 by omega, show (109 + 10 * (x / 2)) % 10 = 9 by omega, if_neg (by decide), if_pos (by decide)]
      rfl
  · rw [if_neg (fun h => c1 (l8.mp h)), if_neg (fun h => c1 (l8.mp h))]
    have h8 : nI x - 8 = nI (x - 8) := pk_sub (b := 8) (by omega)
    have h82 : nI (x - 8) / 2 = nI ((x - 8) / 2) := pk_div (d := 2) (by omega) (by decide) (by decide)
    by_cases c2 : x < 16
    · refine ⟨201 + 10 * ((x - 8) / 2), by omega, ?_, ?_⟩
      · rw [if_pos (l16.mpr c2), h8, h82, show (10 : Int32) = nI 10 from rfl, pk_mul, show (201 : Int32) = nI 201 from rfl, nI_add]
      · obtain ⟨d1, d2, d3⟩ := dgs (n := 201 + 10 * ((x - 8) / 2)) (by omega)
        rw [if_pos (l16.mpr c2), h8, h82]
        unfold cbF
        rw [d1, d2, d3, show (201 + 10 * ((x - 8) / 2)) / 100 = 2 by omega, show (201 + 10 * ((x - 8) / 2)) / 10 % 10 = (x - 8) / 2 by omega, show (201 + 10 * ((x - 8) / 2)) % 10 = 1 by omega, if_neg (by decide), if_neg (by decide), if_pos (by decide)]
        rfl
    · rw [if_neg (fun h => c2 (l16.mp h)), if_neg (fun h => c2 (l16.mp h))]
      by_cases c3 : x < 26
      · refine ⟨384 + x, by omega, ?_, ?_⟩
        · rw [if_pos (l26.mpr c3), show (384 : Int32) = nI 384 from rfl, nI_add]
        · obtain ⟨d1, d2, d3⟩ := dgs (n := 384 + x) (by omega)
          rw [if_pos (l26.mpr c3)]
          unfold cbF
          rw [d1, d2, d3, show (384 + x) / 100 = 4 by omega, show (384 + x) / 10 % 10 = 0 by omega, show (384 + x) % 10 = x - 16 by omega, if_neg (by decide), if_neg (by decide), if_neg (by decide), if_neg (by decide), if_pos (by decide), if_pos (by decide), show nI x - 16 = nI (x - 16) from pk_sub (b := 16) (by omega)]
      · refine ⟨0, by decide, ?_, ?_⟩
        · rw [if_neg (fun h => c3 (l26.mp h))]; rfl
        · rw [if_neg (fun h => c3 (l26.mp h))]
          unfold cbF
          rw [if_pos (by decide), if_pos (by decide), if_pos (by decide)]
section
variable {c a b s : Nat} {K p q : Nat → Int32}
set_option maxHeartbeats 4000000 in
theorem yr_X (d : Nat) (I : Nat → Int32) (F : Nat → Nat → Int32) (sd : Int64) (ha : a ≤ 4) (hb : b ≤ 5) (hs : s ≤ 9) (hc : c < 2 ^ 19) (hr : HR a b s K p (F 4)) (hp : PG c a b p) (m : Int32) : ∃ G, pm_run mt (d + 7) 94 [.ref 0, .int m] (hX I F sd) = some (some (.int (yrA K p q (nI a) (nI b) m sd)), hX I G (yrD m sd)) ∧ SX F G := by
  rw [en_X7_years_0, tr_X7_years_0_0]
  have ln : yrb m = (!decide (m < 1) && !decide (30 < m)) := lin_lit m 1 30
  unfold yrA yrD
  by_cases c1 : m < 1
  · rw [if_pos c1, if_pos (by rw [ln]; simp [c1]), if_pos (by rw [ln]; simp [c1])]; exact ⟨F, rfl, SX_r F⟩
  rw [if_neg c1]
  by_cases c2 : 30 < m
  · rw [if_pos c2, if_pos (by rw [ln]; simp [c2]), if_pos (by rw [ln]; simp [c2])]; exact ⟨F, rfl, SX_r F⟩
  rw [if_neg c2, if_neg (by rw [ln]; simp [c1, c2]), if_neg (by rw [ln]; simp [c1, c2])]
  obtain ⟨M, hM, rfl⟩ := nI_of (x := m) (fun h => c1 (by
    rw [Int32.lt_iff_toInt_lt] at h ⊢
    have e0 : (0 : Int32).toInt = 0 := rfl
    have e1 : (1 : Int32).toInt = 1 := rfl
    omega))
  have hM30 : M ≤ 30 := by
    rw [show (30 : Int32) = nI 30 from rfl, nI_ltI (by decide) hM] at c2
    omega
  rw [nI_clamp hM]
  have key : ∀ (m k : Nat) (G : Nat → Nat → Int32), k + m = M → HR a b s K (yrP K (va_cpy p q 0 0 21) (nI a) (nI b) sd k) (G 6) → PG (c + k) a b (yrP K (va_cpy p q 0 0 21) (nI a) (nI b) sd k) → SX F G → ∃ G', pm_EV (pm_run mt (d + 6)) (some .int) oX7_years (17, [some (.ref 0), some (.int (nI M)), some (.int (yrT K (va_cpy p q 0 0 21) (nI a) (nI b) sd k)), some (.int (nI k))], [], hX I G (yrS sd k)) = some (some (.int (yrT K (va_cpy p q 0 0 21) (nI a) (nI b) sd M)), hX I G' (yrS sd M)) ∧ SX F G' := by
    intro m
    induction m with
    | zero =>
      intro k G hk hR hP hS
      obtain rfl : k = M := by omega
      exact ⟨G, by rw [tr_X7_years_0_17, if_neg (nI_nlt (Nat.le_refl _) hM)], hS⟩
    | succ m ih =>
      intro k G hk hR hP hS
      obtain ⟨x, hx, e1, e2⟩ := yr_x (yrS sd (k + 1))
      obtain ⟨n, hn, e3, e4⟩ := dbc_cb hx (G 6)
      obtain ⟨-, q1, q2⟩ := HR_ds ha hb (by omega) hR hP hn
      have eP : dsF K (yrP K (va_cpy p q 0 0 21) (nI a) (nI b) sd k) (nI a) (nI b) (nI n) = yrP K (va_cpy p q 0 0 21) (nI a) (nI b) sd (k + 1) := by rw [yrP, e1, e3]
      rw [eP] at q1 q2
      obtain ⟨G', h1, h2⟩ := ih (k + 1) (uF G 6 (dbcF (G 6) (nI x))) (by omega) (by rw [uF_at, e4]; exact q1) (by rw [show c + (k + 1) = c + k + 1 by omega]; exact q2) (SX_6 hS _)
      refine ⟨G', ?_, h2⟩
      rw [tr_X7_years_0_17, if_pos (nI_lt (by omega) hM)]
      refine Eq.trans (tr_X7_years_0_28 d I G (yrS sd (k + 1)) (nI M) _ (nI k)) ?_
      rw [e2, tr_X7_years_0_37 _ _ _ _ _ _ _ _ (HR_21 ha hR), tr_X7_years_0_38, nI_p1, uF_at, e4, q1.2.2.2.2.2.2.1, ← e4]
      exact h1
  exact key M 0 (uF F 6 (va_cpy (F 4) (F 6) 0 0 28)) (by omega) (by rw [uF_at]; exact HR_trial ha hr) (PG_trial hb hp) (SX_6 (SX_r F) _)
theorem plF_0 {j : Nat} (hp : PG c a b p) (hj : j < 4) : plF K p (nI j) (nI 0) = p := by
  rw [plF_at hj]
  obtain ⟨g, -, e1, e2⟩ := pgr_at (K := K) (j := j) (m := 0) hj (by omega)
  obtain rfl := e2 rfl
  rw [e1]
  by_cases h : p j < nI 0
  · rw [if_pos h]
  · rw [if_neg h, show p j - nI 0 = p j by rw [nI_0]; grind, show p (4 + j) + nI 0 = p (4 + j) by rw [nI_0]; grind, upd_self, upd_self]
theorem HR_lv0 {f : Nat → Int32} (ha : a ≤ 4) (hc : c < 2 ^ 20) (hr : HR a b s K p f) (hp : PG c a b p) {j m : Nat} (hj : j < a) (h9 : m ≤ 9) : HR a b s K (plF K p (nI j) (nI m)) (hlvF f (nI j) (nI m)) ∧ PG (c + 1) a b (plF K p (nI j) (nI m)) := by
  rcases Nat.eq_zero_or_pos m with h0 | h0
  · subst h0
    have rf := refu_no (j := j) (m := 0) hr ha (by omega) (by omega) (by omega)
    rw [plF_0 hp (by omega), show hlvF f (nI j) (nI 0) = f from if_pos rf]
    exact ⟨hr, PG_mono (Nat.le_succ c) hp⟩
  · obtain ⟨P1, P2⟩ := HR_lv ha hc hr hp hj h0 h9
    by_cases h : p j < pgr K (nI j) (nI m)
    · obtain ⟨q1, q2, q3⟩ := P1 h
      rw [q2, q3]
      exact ⟨hr, PG_mono (Nat.le_succ c) hp⟩
    · obtain ⟨q1, q2, q3, q4, q5⟩ := P2 h
      exact ⟨q3, q4⟩
end
/-- the pairs that keep, as bits -/
def rmk (B : Nat → Bool) : Nat → Int32
  | 0 => 0
  | k + 1 => if B k = true then rmk B k ||| xbit (nI (k / 3)) (nI (k % 3)) else rmk B k
def rgB (B : Nat → Bool) (j : Nat) : Int32 := if j % 2 = 0 then rsV B (j / 2) - nI (j / 2 / 3) else rsV B (j / 2) - nI (j / 2 % 3)
def rsel (b0 b1 b2 b3 b4 b5 b6 b7 b8 : Bool) (k : Nat) : Bool := match k with
  | 0 => b0
  | 1 => b1
  | 2 => b2
  | 3 => b3
  | 4 => b4
  | 5 => b5
  | 6 => b6
  | 7 => b7
  | _ => b8
theorem rs_all : ∀ b0 b1 b2 b3 b4 b5 b6 b7 b8 : Bool, xrmA (rmk (rsel b0 b1 b2 b3 b4 b5 b6 b7 b8) 9) 3 0 0 = (rsL (rgB (rsel b0 b1 b2 b3 b4 b5 b6 b7 b8)) 9).1 ∧ xrfA (rmk (rsel b0 b1 b2 b3 b4 b5 b6 b7 b8) 9) 3 0 = (rsL (rgB (rsel b0 b1 b2 b3 b4 b5 b6 b7 b8)) 9).2 := by decide +kernel
theorem rs12_at (B : Nat → Bool) (g : Nat → Int32) : ∀ k j, rs12 B g k j = if j < 2 * k then rgB B j else g j
  | 0, j => by rw [if_neg (by omega)]; rfl
  | k + 1, j => by
    have ih := rs12_at B g k j
    rw [rs12]
    by_cases e1 : j = 2 * k + 1
    · rw [e1, upd_at, if_pos (by omega)]
      unfold rgB
      rw [if_neg (by omega), show (2 * k + 1) / 2 = k by omega]
    · rw [upd_ne _ _ e1]
      by_cases e2 : j = 2 * k
      · rw [e2, upd_at, if_pos (by omega)]
        unfold rgB
        rw [if_pos (by omega), show (2 * k) / 2 = k by omega]
      · rw [upd_ne _ _ e2, ih]
        by_cases e3 : j < 2 * k
        · rw [if_pos e3, if_pos (by omega)]
        · rw [if_neg e3, if_neg (by omega)]
theorem rsI_ag {g h : Nat → Int32} (e : ∀ j, j < 18 → g j = h j) {k : Nat} (hk : k < 9) : ∀ o, o ≤ 3 → rsI g k o = rsI h k o
  | 0, _ => rfl
  | o + 1, ho => by
    rw [rsI, rsI, rsI_ag e hk o (by omega)]
    unfold rsJ
    rw [e _ (by omega), e _ (by omega), e _ (by omega), e _ (by omega)]
theorem rsL_ag {g h : Nat → Int32} (e : ∀ j, j < 18 → g j = h j) : ∀ k, k ≤ 9 → rsL g k = rsL h k
  | 0, _ => rfl
  | k + 1, hk => by rw [rsL, rsL, rsL_ag e k (by omega), rsI_ag e (by omega) 3 (by omega)]
theorem rmk_ag {B C : Nat → Bool} (e : ∀ j, j < 9 → B j = C j) : ∀ k, k ≤ 9 → rmk B k = rmk C k
  | 0, _ => rfl
  | k + 1, hk => by rw [rmk, rmk, rmk_ag e k (by omega), e k (by omega)]
theorem rs_eq (B : Nat → Bool) (g : Nat → Int32) : xrmA (rmk B 9) 3 0 0 = (rsL (rs12 B g 9) 9).1 ∧ xrfA (rmk B 9) 3 0 = (rsL (rs12 B g 9) 9).2 := by
  have eB : ∀ j, j < 9 → B j = rsel (B 0) (B 1) (B 2) (B 3) (B 4) (B 5) (B 6) (B 7) (B 8) j := by
    intro j hj
    rcases (show j = 0 ∨ j = 1 ∨ j = 2 ∨ j = 3 ∨ j = 4 ∨ j = 5 ∨ j = 6 ∨ j = 7 ∨ j = 8 by omega) with e | e | e | e | e | e | e | e | e <;> subst e <;> rfl
  have e1 := rmk_ag eB 9 (Nat.le_refl 9)
  have e2 : rsL (rs12 B g 9) 9 = rsL (rgB (rsel (B 0) (B 1) (B 2) (B 3) (B 4) (B 5) (B 6) (B 7) (B 8))) 9 := rsL_ag (fun j hj => by
    rw [rs12_at, if_pos hj]
    unfold rgB rsV
    rw [eB (j / 2) (by omega)]) 9 (Nat.le_refl 9)
  rw [e1, e2]
  exact rs_all _ _ _ _ _ _ _ _ _
section
variable {c a b s : Nat} {K p : Nat → Int32}
set_option maxHeartbeats 4000000 in
theorem ptk_X (d : Nat) (I : Nat → Int32) (F : Nat → Nat → Int32) (sd : Int64) (ha : a ≤ 4) (hb : b ≤ 5) (hc : c < 2 ^ 19) (hr : HR a b s K p (F 4)) (hp : PG c a b p) {i j : Nat} (hi : i < a) (hj : j < a) : ∃ G, pm_run mt (d + 5) 100 [.ref 0, .int (nI i), .int (nI j)] (hX I F sd) = some (some (.int (rmk (rsB K p (nI a) (nI i) (nI j)) 9)), hX I G sd) ∧ SX F G := by
  rw [en_X7_pairsThatKeep_0, tr_X7_pairsThatKeep_0_0]
  generalize hB : rsB K p (nI a) (nI i) (nI j) = B
  have inner : ∀ (x : Nat), x < 3 → ∀ (m y : Nat) (G : Nat → Nat → Int32), y + m = 3 → SX F G → ∃ G', pm_EV (pm_run mt (d + 4)) (some .int) oX7_pairsThatKeep (9, [some (.ref 0), some (.int (nI i)), some (.int (nI j)), some (.int (rmk B (3 * x + y))), some (.int (nI x)), some (.int (nI y))], [], hX I G sd) = pm_EV (pm_run mt (d + 4)) (some .int) oX7_pairsThatKeep (4, [some (.ref 0), some (.int (nI i)), some (.int (nI j)), some (.int (rmk B (3 * (x + 1)))), some (.int (nI (x + 1))), some (.int (nI 3))], [], hX I G' sd) ∧ SX F G' := by
    intro x hx m
    induction m with
    | zero =>
      intro y G hy hS
      obtain rfl : y = 3 := by omega
      exact ⟨G, by rw [tr_X7_pairsThatKeep_0_9, if_neg (by decide), nI_p1, show 3 * (x + 1) = 3 * x + 3 by omega], hS⟩
    | succ m ih =>
      intro y G hy hS
      have hR1 := HR_trial (q := p) (g := G 6) ha (by rw [← hS 4 (by decide) (by decide) (by decide)] at hr; exact hr)
      have hP1 := PG_trial (q := p) hb hp
      have ecp : va_cpy p p 0 0 21 = p := by
        funext z
        unfold va_cpy
        by_cases hz : 0 ≤ z ∧ z < 0 + 21
        · rw [if_pos hz, Nat.zero_add, Nat.sub_zero]
        · rw [if_neg hz]
      rw [ecp] at hR1 hP1
      obtain ⟨hR2, hP2⟩ := HR_lv0 (m := x) ha (by omega) hR1 hP1 hi (by omega)
      obtain ⟨hR3, hP3⟩ := HR_lv0 (m := y) ha (by omega) hR2 hP2 hj (by omega)
      have eS := HR_short ha hR3 hP3
      have eB : B (3 * x + y) = decide (pshort K (plF K (plF K p (nI i) (nI x)) (nI j) (nI y)) (nI a) = 0) := by
        rw [← hB]
        unfold rsB rsP
        rw [show (3 * x + y) / 3 = x by omega, show (3 * x + y) % 3 = y by omega]
      obtain ⟨G', h1, h2⟩ := ih (y + 1) (uF G 6 (hlvF (hlvF (va_cpy (G 4) (G 6) 0 0 28) (nI i) (nI x)) (nI j) (nI y))) (by omega) (SX_6 hS _)
      refine ⟨G', ?_, h2⟩
      rw [tr_X7_pairsThatKeep_0_9, if_pos (show nI y < 3 from nI_lt (b := 3) (by omega) (by decide)), tr_X7_pairsThatKeep_0_17, tr_X7_pairsThatKeep_0_23, tr_X7_pairsThatKeep_0_29]
      simp only [uF_uF, uF_at, nI_p1]
      rw [eS, ← h1, show 3 * x + (y + 1) = 3 * x + y + 1 by omega, rmk, eB]
      by_cases z : pshort K (plF K (plF K p (nI i) (nI x)) (nI j) (nI y)) (nI a) = 0
      · rw [if_pos z, if_pos (decide_eq_true z), show (3 * x + y) / 3 = x by omega, show (3 * x + y) % 3 = y by omega]
      · rw [if_neg z, if_neg (by rw [decide_eq_false z]; decide)]
  have outer : ∀ (m x : Nat) (G : Nat → Nat → Int32) (o5 : Option Value), x + m = 3 → SX F G → ∃ G', pm_EV (pm_run mt (d + 4)) (some .int) oX7_pairsThatKeep (4, [some (.ref 0), some (.int (nI i)), some (.int (nI j)), some (.int (rmk B (3 * x))), some (.int (nI x)), o5], [], hX I G sd) = some (some (.int (rmk B 9)), hX I G' sd) ∧ SX F G' := by
    intro m
    induction m with
    | zero =>
      intro x G o5 hx hS
      obtain rfl : x = 3 := by omega
      exact ⟨G, by rw [tr_X7_pairsThatKeep_0_4, if_neg (by decide)], hS⟩
    | succ m ih =>
      intro x G o5 hx hS
      obtain ⟨G1, h1, h2⟩ := inner x (by omega) 3 0 G rfl hS
      obtain ⟨G2, h3, h4⟩ := ih (x + 1) G1 (some (.int (nI 3))) (by omega) h2
      exact ⟨G2, by rw [tr_X7_pairsThatKeep_0_4, if_pos (show nI x < 3 from nI_lt (b := 3) (by omega) (by decide)), ← h3, ← h1]; rfl, h4⟩
  exact outer 3 0 F none rfl (SX_r F)
set_option maxHeartbeats 4000000 in
theorem rs_X (d : Nat) (I : Nat → Int32) (F : Nat → Nat → Int32) (sd : Int64) (g : Nat → Int32) (ha : a ≤ 4) (hb : b ≤ 5) (hc : c < 2 ^ 19) (hr : HR a b s K p (F 4)) (hp : PG c a b p) (x y w : Int32) : ∃ G, pm_run mt (d + 6) 91 [.ref 0, .int x, .int y, .int w] (hX I F sd) = some (some (.int (rsA K p g (nI a) x y w)), hX I G sd) ∧ SX F G := by
  have eB : ∀ z : Bool, (bI z = 0) = (z = false) := bI_0
  cases c1 : inr x (nI a)
  · have eW : rsW (nI a) x y w = -1 := if_pos c1
    have hA : rsA K p g (nI a) x y w = -1 := by unfold rsA; rw [eW, if_pos (by decide)]
    refine ⟨F, ?_, SX_r F⟩
    rw [en_X7_rests_0 d I F sd 0 F, tr_X7_rests_0_0 d I F sd 0 F x y w (fun h => absurd (by rw [hr.1, c1]; rfl) h), if_pos (by rw [hr.1, c1]; rfl), hA]
  · have n1 : ¬ bI (inr x (F 4 21)) = 0 := by rw [hr.1, c1]; decide
    cases c2 : inr y (nI a)
    · have eW : rsW (nI a) x y w = -1 := by unfold rsW; rw [if_neg (by rw [c1]; decide), if_pos c2]
      have hA : rsA K p g (nI a) x y w = -1 := by unfold rsA; rw [eW, if_pos (by decide)]
      refine ⟨F, ?_, SX_r F⟩
      rw [en_X7_rests_0 d I F sd 0 F, tr_X7_rests_0_0 d I F sd 0 F x y w (fun _ h => absurd (by rw [hr.1, c2]; rfl) h), if_neg n1, if_pos (by rw [hr.1, c2]; rfl), hA]
    · have n2 : ¬ bI (inr y (F 4 21)) = 0 := by rw [hr.1, c2]; decide
      by_cases c3 : x = y
      · have eW : rsW (nI a) x y w = -2 := by unfold rsW; rw [if_neg (by rw [c1]; decide), if_neg (by rw [c2]; decide), if_pos c3]
        have hA : rsA K p g (nI a) x y w = -2 := by unfold rsA; rw [eW, if_pos (by decide)]
        refine ⟨F, ?_, SX_r F⟩
        rw [en_X7_rests_0 d I F sd 0 F, tr_X7_rests_0_0 d I F sd 0 F x y w (fun _ _ h => absurd c3 h), if_neg n1, if_neg n2, if_pos c3, hA]
      · have i2 : inr w 2 = (!decide (w < 0) && !decide (1 < w)) := inr_sub (n := 2) (m := 2) (by omega) rfl
        by_cases c4 : w < 0
        · have eW : rsW (nI a) x y w = -2 := by unfold rsW; rw [if_neg (by rw [c1]; decide), if_neg (by rw [c2]; decide), if_neg c3, if_pos (by rw [i2]; simp [c4])]
          have hA : rsA K p g (nI a) x y w = -2 := by unfold rsA; rw [eW, if_pos (by decide)]
          refine ⟨F, ?_, SX_r F⟩
          rw [en_X7_rests_0 d I F sd 0 F, tr_X7_rests_0_0 d I F sd 0 F x y w (fun _ _ _ h => absurd c4 h), if_neg n1, if_neg n2, if_neg c3, if_pos c4, hA]
        · by_cases c5 : 1 < w
          · have eW : rsW (nI a) x y w = -2 := by unfold rsW; rw [if_neg (by rw [c1]; decide), if_neg (by rw [c2]; decide), if_neg c3, if_pos (by rw [i2]; simp [c5])]
            have hA : rsA K p g (nI a) x y w = -2 := by unfold rsA; rw [eW, if_pos (by decide)]
            refine ⟨F, ?_, SX_r F⟩
            rw [en_X7_rests_0 d I F sd 0 F, tr_X7_rests_0_0 d I F sd 0 F x y w (fun _ _ _ _ h => absurd c5 h), if_neg n1, if_neg n2, if_neg c3, if_neg c4, if_pos c5, hA]
          · have eW : rsW (nI a) x y w = 0 := by unfold rsW; rw [if_neg (by rw [c1]; decide), if_neg (by rw [c2]; decide), if_neg c3, if_neg (by rw [i2]; simp [c4, c5])]
            obtain ⟨i, hi, rfl⟩ := inr_nI (by omega) c1
            obtain ⟨j, hj, rfl⟩ := inr_nI (by omega) c2
            obtain ⟨G, h1, h2⟩ := ptk_X d I F sd ha hb hc hr hp hi hj
            refine ⟨G, ?_, h2⟩
            rw [en_X7_rests_0 d I F sd 0 G, tr_X7_rests_0_0 d I F sd _ G _ _ w (fun _ _ _ _ _ => h1), if_neg n1, if_neg n2, if_neg c3, if_neg c4, if_neg c5]
            obtain ⟨r1, r2⟩ := rs_eq (rsB K p (nI a) (nI i) (nI j)) g
            unfold rsA rsG
            rw [eW, if_neg z00, r1, r2]
            simp only [pm_pi]
end
