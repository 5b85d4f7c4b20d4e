/-! stray: the class's chances -/
def sch (x : Nat) (u v : Nat → Nat) (t k : Nat) : Int32 := nI (sU x u v t k) - nI (sU x u v t (k + 1))
def sT (x : Nat) (u v : Nat → Nat) (t : Nat) : Nat := (10 - x) * u t + x * v t
section
variable {x : Nat} {u v : Nat → Nat}
theorem sch_S (hx : x ≤ 10) (hu : ∀ k, u k ≤ 1) (hv : ∀ k, v k ≤ 1) (t k : Nat) : sch x u v (t + 1) (k + 1) = sch x u v t (k + 1) * (10 - nI (sT x u v t)) + sch x u v t k * nI (sT x u v t) := by
  unfold sch sT
  have e10 : (10 : Int32) = nI (10 - x) + nI x := by rw [nI_add, Nat.sub_add_cancel hx]; rfl
  rw [sU, sU]
  have h1 := hu t
  have h2 := hv t
  rcases (show u t = 0 ∨ u t = 1 by omega) with e1 | e1 <;> rcases (show v t = 0 ∨ v t = 1 by omega) with e2 | e2 <;> simp only [e1, e2, Nat.mul_zero, Nat.mul_one, Nat.add_zero, Nat.zero_add, Nat.sub_zero, Nat.zero_sub, Nat.add_sub_cancel, Nat.sub_self, ← nI_add, ← pk_mul, nI_0] <;> grind
theorem sch_Z (hx : x ≤ 10) (hu : ∀ k, u k ≤ 1) (hv : ∀ k, v k ≤ 1) (t : Nat) : sch x u v (t + 1) 0 = sch x u v t 0 * (10 - nI (sT x u v t)) := by
  unfold sch sT
  have e10 : (10 : Int32) = nI (10 - x) + nI x := by rw [nI_add, Nat.sub_add_cancel hx]; rfl
  rw [sU, sU]
  have h1 := hu t
  have h2 := hv t
  rcases (show u t = 0 ∨ u t = 1 by omega) with e1 | e1 <;> rcases (show v t = 0 ∨ v t = 1 by omega) with e2 | e2 <;> simp only [e1, e2, Nat.mul_zero, Nat.mul_one, Nat.add_zero, Nat.zero_add, Nat.sub_zero, Nat.zero_sub, Nat.add_sub_cancel, Nat.sub_self, ← nI_add, ← pk_mul, nI_0] <;> grind
theorem sch_0 (k : Nat) : sch x u v 0 k = if k = 0 then 1 else 0 := by
  unfold sch
  rw [sU, sU, if_neg (show ¬ k + 1 = 0 by omega)]
  by_cases h : k = 0
  · rw [if_pos h, if_pos h]; rfl
  · rw [if_neg h, if_neg h]; rfl
end
section
variable {c a b s : Nat} {K p : Nat → Int32}
set_option maxHeartbeats 4000000 in
/-- one thing more, cell by cell from above -/
theorem wk_in (d : Nat) (I : Nat → Int32) (sd : Int64) (F : Nat → Nat → Int32) (A : Nat → Int32) (x x2 x3 x4 x5 T : Int32) : ∀ (k : Nat) (G : Nat → Nat → Int32), k ≤ 5 → (∀ i, i ≤ k → G 14 i = A i) → (∀ i, k < i → i ≤ 5 → G 14 i = A i * (10 - T) + A (i - 1) * T) → SX F G → ∃ G', pm_EV (pm_run mt (d + 4)) none oX7_weighKnown (58, [some (.ref 0), some (.int x), some (.int x2), some (.int x3), some (.int x4), some (.int x5), some (.int T), some (.int (nI k))], [], hX I G sd) = pm_EV (pm_run mt (d + 4)) none oX7_weighKnown (22, [some (.ref 0), some (.int x), some (.int x2), some (.int (x3 + 1)), some (.int x4), some (.int x5), some (.int T), some (.int (nI 0))], [], hX I G' sd) ∧ SX F G' ∧ G' 14 0 = A 0 * (10 - T) ∧ ∀ i, 0 < i → i ≤ 5 → G' 14 i = A i * (10 - T) + A (i - 1) * T := by
  intro k
  induction k with
  | zero =>
    intro G hk h1 h2 hS
    refine ⟨uF G 14 (upd (G 14) 0 (G 14 0 * (10 - T))), ?_, SX_14 hS _, ?_, ?_⟩
    · rw [tr_X7_weighKnown_0_58 d I G sd _ _ _ _ _ _ _ (fun h => absurd h (by decide)) (fun h => absurd h (by decide)), if_neg (by decide)]
    · rw [uF_at, upd_at, h1 0 (by omega)]
    · intro i hi hi5
      rw [uF_at, upd_ne _ _ (by omega)]
      exact h2 i hi hi5
  | succ k ih =>
    intro G hk h1 h2 hS
    have ys : 0 < nI (k + 1) := nI_lt (a := 0) (by omega) (by omega)
    have e1 : nI (k + 1) - 1 = nI k := nI_pred k
    have e2 : nI (k + 1) + (-1) = nI k := pk_m1 k
    obtain ⟨G', q1, q2, q3, q4⟩ := ih (uF G 14 (upd (G 14) (k + 1) (G 14 (k + 1) * (10 - T) + G 14 k * T))) (by omega) (fun i hi => by rw [uF_at, upd_ne _ _ (by omega)]; exact h1 i (by omega)) (fun i hi hi5 => by
      rw [uF_at]
      by_cases e : i = k + 1
      · rw [e, upd_at, h1 (k + 1) (by omega), h1 k (by omega), Nat.add_sub_cancel]
      · rw [upd_ne _ _ e]; exact h2 i (by omega) hi5) (SX_14 hS _)
    refine ⟨G', ?_, q2, q3, q4⟩
    rw [tr_X7_weighKnown_0_58 d I G sd _ _ _ _ _ _ _ (fun _ => pm_in_nI (by omega) (by decide)) (fun _ => by rw [e1]; exact pm_in_nI (by omega) (by decide)), if_pos ys, e1, e2, nI_clamp (by omega), nI_clamp (by omega)]
    exact q1
theorem rt_allB : (List.range 10).all (fun y => decide ((if 9 < nI y + 1 then 9 else nI y + 1) = (if nI y < 9 then nI y + 1 else nI y)) && inr (if nI y < 9 then nI y + 1 else nI y) 10) = true := by decide +kernel
theorem rt_all {y : Nat} (hy : y < 10) : (if 9 < nI y + 1 then 9 else nI y + 1) = (if nI y < 9 then nI y + 1 else nI y) ∧ inr (if nI y < 9 then nI y + 1 else nI y) 10 = true := by
  have h := List.all_eq_true.mp rt_allB y (List.mem_range.mpr hy)
  rw [Bool.and_eq_true, decide_eq_true_eq] at h
  exact h
set_option maxHeartbeats 4000000 in
theorem wk_X (d : Nat) (I : Nat → Int32) (F : Nat → Nat → Int32) (sd : Int64) (hb : b ≤ 5) (hs : s ≤ 9) (hr : HR a b s K p (F 4)) (hp : PG c a b p) {X : Nat} (hx9 : X ≤ 10) : ∃ G, pm_run mt (d + 5) 101 [.ref 0, .int (nI X)] (hX I F sd) = some (none, hX I G sd) ∧ SX F G ∧ ∀ k, k ≤ 5 → G 14 k = sch X (sru (pant p (nI s)) p) (srv (pant p (nI s)) p) b k := by
  generalize hu : sru (pant p (nI s)) p = u
  generalize hv : srv (pant p (nI s)) p = v
  have hu1 : ∀ k, u k ≤ 1 := fun k => by rw [← hu]; exact sru_1 _ _ k
  have hv1 : ∀ k, v k ≤ 1 := fun k => by rw [← hv]; exact srv_1 _ _ k
  rw [en_X7_weighKnown_0, tr_X7_weighKnown_0_0]
  have main : ∀ (m t : Nat) (G : Nat → Nat → Int32) (o4 o5 o6 o7 : Option Value), t + m = b → (∀ k, k ≤ 5 → G 14 k = sch X u v t k) → SX F G → ∃ G', pm_EV (pm_run mt (d + 4)) none oX7_weighKnown (22, [some (.ref 0), some (.int (nI X)), some (.int (pant p (nI s))), some (.int (nI t)), o4, o5, o6, o7], [], hX I G sd) = some (none, hX I G' sd) ∧ SX F G' ∧ ∀ k, k ≤ 5 → G' 14 k = sch X u v b k := by
    intro m
    induction m with
    | zero =>
      intro t G o4 o5 o6 o7 ht hG hS
      obtain rfl : t = b := by omega
      have e22 : G 4 22 = nI t := by rw [hS 4 (by decide) (by decide) (by decide)]; exact hr.2.1
      exact ⟨G, by rw [tr_X7_weighKnown_0_22, e22, if_neg (nI_nlt (Nat.le_refl _) (by omega))], hS, hG⟩
    | succ m ih =>
      intro t G o4 o5 o6 o7 ht hG hS
      have e4 : G 4 = F 4 := hS 4 (by decide) (by decide) (by decide)
      have e22 : G 4 22 = nI b := by rw [e4]; exact hr.2.1
      obtain ⟨y, hy, ey⟩ := inr_nI (n := 10) (by decide) (hp.2.2.2.2.1 t (by omega))
      obtain ⟨r1, r2⟩ := rt_all hy
      have ec : hcell (G 4) (16 + nI t) = p (12 + t) := by rw [e4]; exact HR_16 hr (by omega)
      have i1 : inr (p (12 + t)) 10 = true := hp.2.2.2.2.1 t (by omega)
      have ed : (if 9 < p (12 + t) + 1 then 9 else p (12 + t) + 1) = (if p (12 + t) < 9 then p (12 + t) + 1 else p (12 + t)) := by rw [ey]; exact r1
      have i2 : inr (if p (12 + t) < 9 then p (12 + t) + 1 else p (12 + t)) 10 = true := by rw [ey]; exact r2
      have step : ∀ T : Int32, T = nI (sT X u v t) → ∃ G', pm_EV (pm_run mt (d + 4)) none oX7_weighKnown (58, [some (.ref 0), some (.int (nI X)), some (.int (pant p (nI s))), some (.int (nI t)), some (.int (p (12 + t))), some (.int (if p (12 + t) < 9 then p (12 + t) + 1 else p (12 + t))), some (.int T), some (.int 5)], [], hX I G sd) = some (none, hX I G' sd) ∧ SX F G' ∧ ∀ k, k ≤ 5 → G' 14 k = sch X u v b k := by
        intro T hT
        obtain ⟨G1, q1, q2, q3, q4⟩ := wk_in d I sd F (sch X u v t) (nI X) (pant p (nI s)) (nI t) (p (12 + t)) (if p (12 + t) < 9 then p (12 + t) + 1 else p (12 + t)) T 5 G (Nat.le_refl 5) (fun i hi => hG i hi) (fun i h1 h2 => absurd h2 (by omega)) hS
        obtain ⟨G2, z1, z2, z3⟩ := ih (t + 1) G1 (some (.int (p (12 + t)))) (some (.int (if p (12 + t) < 9 then p (12 + t) + 1 else p (12 + t)))) (some (.int T)) (some (.int (nI 0))) (by omega) (fun k hk => by
          rcases Nat.eq_zero_or_pos k with h0 | h0
          · subst h0
            rw [q3, hT, sch_Z hx9 hu1 hv1]
          · obtain ⟨k', rfl⟩ : ∃ z, k = z + 1 := ⟨k - 1, by omega⟩
            rw [q4 _ (by omega) hk, hT, sch_S hx9 hu1 hv1, Nat.add_sub_cancel]) q2
        refine ⟨G2, ?_, z2, z3⟩
        rw [← z1, ← nI_p1]
        exact q1
      rw [tr_X7_weighKnown_0_22, e22, if_pos (nI_lt (by omega) (by omega)), ec, ed, xy_has i1, xy_has i2]
      simp only [bI_0]
      have uu : u t = if yhas (pant p (nI s)) (p (12 + t)) = true then 1 else 0 := by rw [← hu]; rfl
      have vv : v t = if yhas (pant p (nI s)) (if p (12 + t) < 9 then p (12 + t) + 1 else p (12 + t)) = true then 1 else 0 := by rw [← hv]; rfl
      cases cu : yhas (pant p (nI s)) (p (12 + t))
      · rw [cu] at uu
        rw [if_pos rfl]
        cases cv : yhas (pant p (nI s)) (if p (12 + t) < 9 then p (12 + t) + 1 else p (12 + t))
        · rw [cv] at vv
          rw [if_pos rfl]
          exact step _ (by unfold sT; rw [uu, vv]; simp; rfl)
        · rw [cv] at vv
          rw [if_neg (by decide)]
          exact step _ (by unfold sT; rw [uu, vv]; simp)
      · rw [cu] at uu
        rw [if_neg (by decide)]
        have e10 : (10 : Int32) - nI X = nI (10 - X) := pk_sub (a := 10) hx9
        cases cv : yhas (pant p (nI s)) (if p (12 + t) < 9 then p (12 + t) + 1 else p (12 + t))
        · rw [cv] at vv
          rw [if_pos rfl]
          exact step _ (by unfold sT; rw [uu, vv, e10]; simp)
        · rw [cv] at vv
          rw [if_neg (by decide)]
          exact step _ (by unfold sT; rw [uu, vv, e10, nI_add]; simp)
  have init : ∀ (m k : Nat) (G : Nat → Nat → Int32), k + m = 6 → (∀ i, i < k → G 14 i = sch X u v 0 i) → SX F G → ∃ G', pm_EV (pm_run mt (d + 4)) none oX7_weighKnown (2, [some (.ref 0), some (.int (nI X)), some (.int (nI k)), none, none, none, none, none], [], hX I G sd) = some (none, hX I G' sd) ∧ SX F G' ∧ ∀ k, k ≤ 5 → G' 14 k = sch X u v b k := by
    intro m
    induction m with
    | zero =>
      intro k G hk hG hS
      obtain rfl : k = 6 := by omega
      have e4 : G 4 = F 4 := hS 4 (by decide) (by decide) (by decide)
      rw [tr_X7_weighKnown_0_2 d I G sd _ _ (fun _ => by rw [e4]; exact HR_23 hs hr) (fun h => absurd (show (5 : Int32) < nI 6 by decide) h) (fun h => absurd (show (5 : Int32) < nI 6 by decide) h), if_pos (show (5 : Int32) < nI 6 by decide), e4, HR_ant hr]
      exact main b 0 G none none none none (by omega) (fun k hk => hG k (by omega)) hS
    | succ m ih =>
      intro k G hk hG hS
      have no : ¬ (5 : Int32) < nI k := nI_nlt (b := k) (a := 5) (by omega) (by decide)
      rw [tr_X7_weighKnown_0_2 d I G sd _ _ (fun h => absurd h no) (fun _ _ => pm_in_nI (by omega) (by decide)) (fun _ _ => pm_in_nI (by omega) (by decide)), if_neg no, nI_p1, nI_clamp (by omega)]
      have fin : ∀ w : Int32, w = sch X u v 0 k → ∀ i, i < k + 1 → uF G 14 (upd (G 14) k w) 14 i = sch X u v 0 i := by
        intro w hw i hi
        rw [uF_at]
        by_cases e : i = k
        · rw [e, upd_at]; exact hw
        · rw [upd_ne _ _ e]; exact hG i (by omega)
      by_cases z : k = 0
      · rw [if_pos (show nI k = 0 by rw [z]; rfl)]
        exact ih (k + 1) _ (by omega) (fin 1 (by rw [sch_0, if_pos z])) (SX_14 hS _)
      · rw [if_neg (show ¬ nI k = 0 from nI_ne0 (by omega) (by omega))]
        exact ih (k + 1) _ (by omega) (fin 0 (by rw [sch_0, if_neg z])) (SX_14 hS _)
  exact init 6 0 F rfl (fun i hi => absurd hi (by omega)) (SX_r F)
set_option maxHeartbeats 4000000 in
theorem st_X (d : Nat) (I : Nat → Int32) (F : Nat → Nat → Int32) (sd : Int64) (hb : b ≤ 5) (hs : s ≤ 9) (hr : HR a b s K p (F 4)) (hp : PG c a b p) (m x w : Int32) : ∃ G, pm_run mt (d + 6) 92 [.ref 0, .int m, .int x, .int w] (hX I F sd) = some (some (.int (stA p (nI s) (nI b) m x w)), hX I G sd) ∧ SX F G := by
  have lm : lin m.toInt64 0 5 = (!decide (m < 0) && !decide (5 < m)) := lin_lit m 0 5
  have lx : lin x.toInt64 0 10 = (!decide (x < 0) && !decide (10 < x)) := lin_lit x 0 10
  unfold stA
  by_cases c1 : m < 0
  · exact ⟨F, by rw [en_X7_stray_0 d I F sd F, tr_X7_stray_0_0 d I F sd F m x w (fun h => absurd c1 h), if_pos c1, if_pos (by unfold stb; rw [lm]; simp [c1])], SX_r F⟩
  by_cases c2 : 5 < m
  · exact ⟨F, by rw [en_X7_stray_0 d I F sd F, tr_X7_stray_0_0 d I F sd F m x w (fun _ h => absurd c2 h), if_neg c1, if_pos c2, if_pos (by unfold stb; rw [lm]; simp [c2])], SX_r F⟩
  by_cases c3 : x < 0
  · exact ⟨F, by rw [en_X7_stray_0 d I F sd F, tr_X7_stray_0_0 d I F sd F m x w (fun _ _ h => absurd c3 h), if_neg c1, if_neg c2, if_pos c3, if_pos (by unfold stb; rw [lx]; simp [c3])], SX_r F⟩
  by_cases c4 : 10 < x
  · exact ⟨F, by rw [en_X7_stray_0 d I F sd F, tr_X7_stray_0_0 d I F sd F m x w (fun _ _ _ h => absurd c4 h), if_neg c1, if_neg c2, if_neg c3, if_pos c4, if_pos (by unfold stb; rw [lx]; simp [c4])], SX_r F⟩
  have hst : stb m x = true := by unfold stb; rw [lm, lx]; simp [c1, c2, c3, c4]
  have hfr := st_fr (p := p) (s := s) hb hst
  obtain ⟨M, X, hM, hX9, rfl, rfl⟩ := stb_of hst
  obtain ⟨G, h1, h2, h3⟩ := wk_X d I F sd hb hs hr hp hX9
  rw [en_X7_stray_0 d I F sd G, tr_X7_stray_0_0 d I F sd G (nI M) (nI X) w (fun _ _ _ _ => h1), if_neg c1, if_neg c2, if_neg c3, if_neg c4, if_neg (by rw [hst]; decide)]
  rw [nI_clamp (by omega)] at hfr ⊢
  rw [st_S hb hX9 hM _ rfl, yp10 hb] at hfr ⊢
  have hu1 : ∀ k, sru (pant p (nI s)) p k ≤ 1 := sru_1 _ _
  have hv1 : ∀ k, srv (pant p (nI s)) p k ≤ 1 := srv_1 _ _
  generalize sru (pant p (nI s)) p = u at h3 hfr hu1 ⊢
  generalize srv (pant p (nI s)) p = v at h3 hfr hv1 ⊢
  have h6 : nI (sU X u v b 6) = 0 := by rw [sU_hi hu1 hv1 b 6 (by omega)]; rfl
  have h0 : nI (sU X u v b 0) = nI (10 ^ b) := by rw [sU_0 hX9]
  refine ⟨G, ?_, h2⟩
  have two : ∀ (n k : Nat), k + n = 6 → pm_EV (pm_run mt (d + 5)) (some .int) oX7_stray (35, [some (.ref 0), some (.int (nI M)), some (.int (nI X)), some (.int w), some (.int (nI (sU X u v b M))), some (.int (nI (sU X u v b 0) - nI (sU X u v b k))), some (.int (nI k))], [], hX I G sd) = some (some (.int (xtold (nI (sU X u v b M)) (nI (10 ^ b)) w)), hX I G sd) := by
    intro n
    induction n with
    | zero =>
      intro k hk
      obtain rfl : k = 6 := by omega
      have e6 : nI (sU X u v b 0) - nI (sU X u v b 6) = nI (10 ^ b) := by rw [h6, h0]; grind
      rw [tr_X7_stray_0_35 d I G sd G _ _ _ _ _ _ (fun _ => by rw [e6]; exact hfr) (fun h => absurd (show (5 : Int32) < nI 6 by decide) h), if_pos (show (5 : Int32) < nI 6 by decide), e6]
    | succ n ih =>
      intro k hk
      have no : ¬ (5 : Int32) < nI k := nI_nlt (b := k) (a := 5) (by omega) (by decide)
      rw [tr_X7_stray_0_35 d I G sd G _ _ _ _ _ _ (fun h => absurd h no) (fun _ => pm_in_nI (by omega) (by decide)), if_neg no, nI_p1, nI_clamp (by omega), h3 k (by omega), ← ih (k + 1) (by omega), show nI (sU X u v b 0) - nI (sU X u v b k) + sch X u v b k = nI (sU X u v b 0) - nI (sU X u v b (k + 1)) by unfold sch; grind]
  have one : ∀ (n k : Nat), k + n = 6 → pm_EV (pm_run mt (d + 5)) (some .int) oX7_stray (19, [some (.ref 0), some (.int (nI M)), some (.int (nI X)), some (.int w), some (.int (nI (sU X u v b M) - nI (sU X u v b k))), some (.int (nI k)), none], [], hX I G sd) = some (some (.int (xtold (nI (sU X u v b M)) (nI (10 ^ b)) w)), hX I G sd) := by
    intro n
    induction n with
    | zero =>
      intro k hk
      obtain rfl : k = 6 := by omega
      have e6 : nI (sU X u v b M) - nI (sU X u v b 6) = nI (sU X u v b M) := by rw [h6]; grind
      have hz := two 6 0 rfl
      rw [show nI (sU X u v b 0) - nI (sU X u v b 0) = 0 by grind] at hz
      rw [tr_X7_stray_0_19 d I G sd G _ _ _ _ _ (fun h => absurd (show (5 : Int32) < nI 6 by decide) h), if_pos (show (5 : Int32) < nI 6 by decide), e6]
      exact hz
    | succ n ih =>
      intro k hk
      have no : ¬ (5 : Int32) < nI k := nI_nlt (b := k) (a := 5) (by omega) (by decide)
      rw [tr_X7_stray_0_19 d I G sd G _ _ _ _ _ (fun _ => pm_in_nI (by omega) (by decide)), if_neg no, nI_p1, nI_clamp (by omega), h3 k (by omega), ← ih (k + 1) (by omega), show nI (sU X u v b M) - nI (sU X u v b k) + sch X u v b k = nI (sU X u v b M) - nI (sU X u v b (k + 1)) by unfold sch; grind]
  have hz := one (6 - M) M (by omega)
  rw [show nI (sU X u v b M) - nI (sU X u v b M) = 0 by grind] at hz
  exact hz
end
