/-! later, judge and years: the other side's answers (the rows wb_ are the kit's BITS.to-paste) -/
theorem wb_tb (n : Nat) : (lN n).toBitVec = BitVec.ofNat 64 n := rfl
theorem wb_inj {a b : Int64} (h : a.toBitVec = b.toBitVec) : a = b := Int64.toBitVec_inj.mp h
theorem wb_tn {n : Nat} (h : n < 2 ^ 64) : (lN n).toBitVec.toNat = n := by rw [wb_tb, BitVec.toNat_ofNat, Nat.mod_eq_of_lt h]
theorem wb_of (x : Int64) : ∃ n, n < 2 ^ 64 ∧ x = lN n := ⟨x.toBitVec.toNat, x.toBitVec.isLt, wb_inj (by rw [wb_tb]; simp)⟩
theorem wb_cu : ∀ k, k < 64 → ((nI k).toInt64.toUInt64 &&& Int64.toUInt64 63) = UInt64.ofNat k := by decide +kernel
theorem wb_shr {n k : Nat} (hn : n < 2 ^ 64) (hk : k < 64) : ((lN n).toUInt64 >>> ((nI k).toInt64.toUInt64 &&& Int64.toUInt64 63)).toInt64 = lN (n / 2 ^ k) := by
  rw [wb_cu k hk]
  apply wb_inj
  apply BitVec.eq_of_toNat_eq
  show ((lN n).toUInt64 >>> UInt64.ofNat k).toNat = (BitVec.ofNat 64 _).toNat
  have h1 : (UInt64.ofNat k).toNat = k := by
    show (BitVec.ofNat 64 k).toNat = k
    rw [BitVec.toNat_ofNat, Nat.mod_eq_of_lt (by omega)]
  have h2 : (lN n).toUInt64.toNat = n := wb_tn hn
  rw [UInt64.toNat_shiftRight, h1, h2, Nat.mod_eq_of_lt hk, Nat.shiftRight_eq_div_pow, BitVec.toNat_ofNat, Nat.mod_eq_of_lt (Nat.lt_of_le_of_lt (Nat.div_le_self _ _) hn)]
def SX (F G : Nat → Nat → Int32) : Prop := ∀ j, j ≠ 6 → j ≠ 13 → j ≠ 14 → G j = F j
theorem SX_r (F : Nat → Nat → Int32) : SX F F := fun _ _ _ _ => rfl
theorem SX_6 {F G : Nat → Nat → Int32} (h : SX F G) (g : Nat → Int32) : SX F (uF G 6 g) := fun j h1 h2 h3 => by rw [uF_ne _ _ h1]; exact h j h1 h2 h3
theorem SX_13 {F G : Nat → Nat → Int32} (h : SX F G) (g : Nat → Int32) : SX F (uF G 13 g) := fun j h1 h2 h3 => by rw [uF_ne _ _ h2]; exact h j h1 h2 h3
theorem SX_14 {F G : Nat → Nat → Int32} (h : SX F G) (g : Nat → Int32) : SX F (uF G 14 g) := fun j h1 h2 h3 => by rw [uF_ne _ _ h3]; exact h j h1 h2 h3
theorem ag_sym {p q : Nat → Int32} (h : ag21 p q) : ag21 q p := fun j hj => (h j hj).symm
theorem HR_trial {a b s : Nat} {K p q f g : Nat → Int32} (ha : a ≤ 4) (hr : HR a b s K p f) : HR a b s K (va_cpy p q 0 0 21) (va_cpy f g 0 0 28) := HR_ag (ag_sym (ag_cpy p q)) (HR_c28 ha (fun j hj => cpy_in hj) hr)
theorem PG_trial {c a b : Nat} {p q : Nat → Int32} (hb : b ≤ 5) (hp : PG c a b p) : PG c a b (va_cpy p q 0 0 21) := PG_ag (ag_sym (ag_cpy p q)) hb hp
theorem HR_21 {a b s : Nat} {K p f : Nat → Int32} (ha : a ≤ 4) (hr : HR a b s K p f) : inr (f 21) 5 = true := by rw [hr.1]; exact inr_mk (n := 5) (by decide) (by omega)
theorem HR_23 {a b s : Nat} {K p f : Nat → Int32} (hs : s ≤ 9) (hr : HR a b s K p f) : inr (f 23) 10 = true := by rw [hr.2.2.1]; exact inr_mk (n := 10) (by decide) (by omega)
theorem lin_n {x : Int32} (N : Nat) (hN : N < 2 ^ 31) : lin x.toInt64 0 (nI N).toInt64 = true ↔ ∃ k : Nat, k ≤ N ∧ x = nI k := by
  rw [show (0 : Int64) = (0 : Int32).toInt64 from rfl, lin_lit]
  simp only [Bool.and_eq_true, Bool.not_eq_true', decide_eq_false_iff_not]
  constructor
  · intro h
    obtain ⟨k, hk, rfl⟩ := nI_of h.1
    have h2 := h.2
    rw [nI_ltI hN hk] at h2
    exact ⟨k, by omega, rfl⟩
  · rintro ⟨k, hk, rfl⟩
    exact ⟨nI_pos (by omega), nI_nlt hk (by omega)⟩
section
variable {c a b s : Nat} {K p q : Nat → Int32}
set_option maxHeartbeats 4000000 in
theorem la_X (d : Nat) (I : Nat → Int32) (F : Nat → Nat → Int32) (sd : Int64) (ha : a ≤ 4) (hb : b ≤ 5) (hs : s ≤ 9) (hr : HR a b s K p (F 4)) (hp : PG c a b p) (n w : Int32) : ∃ G, pm_run mt (d + 6) 84 [.ref 0, .int n, .int w] (hX I F sd) = some (some (.int (laYA K p q (nI a) (nI b) (nI s) n w)), hX I G sd) ∧ SX F G := by
  rw [en_X7_later_0, tr_X7_later_0_0]
  have bad : laYb n w = false → laYA K p q (nI a) (nI b) (nI s) n w = -2 := fun h => if_pos h
  have ln : lin n.toInt64 0 20 = (!decide (n < 0) && !decide (20 < n)) := lin_lit n 0 20
  have lw : lin w.toInt64 0 2 = (!decide (w < 0) && !decide (2 < w)) := lin_lit w 0 2
  by_cases c1 : n < 0
  · rw [if_pos c1, bad (by unfold laYb; rw [ln]; simp [c1])]; exact ⟨F, rfl, SX_r F⟩
  rw [if_neg c1]
  by_cases c2 : 20 < n
  · rw [if_pos c2, bad (by unfold laYb; rw [ln]; simp [c2])]; exact ⟨F, rfl, SX_r F⟩
  rw [if_neg c2]
  by_cases c3 : w < 0
  · rw [if_pos c3, bad (by unfold laYb; rw [lw]; simp [c3])]; exact ⟨F, rfl, SX_r F⟩
  rw [if_neg c3]
  by_cases c4 : 2 < w
  · rw [if_pos c4, bad (by unfold laYb; rw [lw]; simp [c4])]; exact ⟨F, rfl, SX_r F⟩
  rw [if_neg c4]
  have good : ¬ laYb n w = false := by unfold laYb; rw [ln, lw]; simp [c1, c2, c3, c4]
  unfold laYA
  rw [if_neg good]
  obtain ⟨N, hN, rfl⟩ := nI_of c1
  have hN20 : N ≤ 20 := by
    rw [show (20 : Int32) = nI 20 from rfl, nI_ltI (by decide) hN] at c2
    omega
  rw [nI_clamp (by omega)]
  have key : ∀ (m k : Nat) (G : Nat → Nat → Int32), k + m = N → HR a b s K (pqIt K (va_cpy p q 0 0 21) (nI a) k) (G 6) → PG c a b (pqIt K (va_cpy p q 0 0 21) (nI a) k) → SX F G → ∃ G', pm_EV (pm_run mt (d + 5)) (some .int) oX7_later (19, [some (.ref 0), some (.int (nI N)), some (.int w), some (.int (nI k))], [], hX I G sd) = some (some (.int (if w = 0 then pqIt K (va_cpy p q 0 0 21) (nI a) N 19 else if w = 1 then pqIt K (va_cpy p q 0 0 21) (nI a) N 18 else pknown (pqIt K (va_cpy p q 0 0 21) (nI a) N) (nI s) (nI b))), hX I G' sd) ∧ SX F G' := by
    intro m
    induction m with
    | zero =>
      intro k G hk hR hP hS
      obtain rfl : k = N := by omega
      have no : ¬ nI k < nI k := nI_nlt (Nat.le_refl _) hN
      refine ⟨G, ?_, hS⟩
      rw [tr_X7_later_0_19 d I G sd _ _ _ (fun h => absurd h no) (fun _ _ _ => HR_23 hs hR), if_neg no, HR_known hb hR hP, hR.2.2.2.2.2.2.1, hR.2.2.2.2.2.1]
      simp only [pm_pi]
    | succ m ih =>
      intro k G hk hR hP hS
      have ys : nI k < nI N := nI_lt (by omega) hN
      obtain ⟨q1, q2⟩ := HR_q ha hb hR hP
      obtain ⟨G', h1, h2⟩ := ih (k + 1) (uF G 6 (hqF (G 6))) (by omega) (by rw [uF_at]; exact q1) q2 (SX_6 hS _)
      refine ⟨G', ?_, h2⟩
      rw [tr_X7_later_0_19 d I G sd _ _ _ (fun _ => HR_21 ha hR) (fun h => absurd ys h), if_pos ys, nI_p1, h1]
  exact key N 0 (uF F 6 (va_cpy (F 4) (F 6) 0 0 28)) (by omega) (by rw [uF_at]; exact HR_trial ha hr) (PG_trial hb hp) (SX_6 (SX_r F) _)
set_option maxHeartbeats 4000000 in
theorem jd_X (d : Nat) (I : Nat → Int32) (F : Nat → Nat → Int32) (sd : Int64) (ha : a ≤ 4) (hb : b ≤ 5) (hs : s ≤ 9) (hc : c < 2 ^ 19) (hr : HR a b s K p (F 4)) (hp : PG c a b p) (n : Int32) (row : Int64) : ∃ G, pm_run mt (d + 7) 86 [.ref 0, .int n, .long row] (hX I F sd) = some (some (.int (jdYA K p q (nI a) (nI b) (nI s) n row).1), hX I G sd) ∧ SX F G := by
  rw [en_X7_judge_0, tr_X7_judge_0_0]
  simp only [lc_lt]
  have bad : jdYb n row = false → (jdYA K p q (nI a) (nI b) (nI s) n row).1 = -2 := fun h => by unfold jdYA; rw [if_pos h]
  by_cases c1 : n < 1
  · rw [if_pos c1, bad (by unfold jdYb; rw [lin14]; simp [c1])]; exact ⟨F, rfl, SX_r F⟩
  rw [if_neg c1]
  by_cases c2 : 4 < n
  · rw [if_pos c2, bad (by unfold jdYb; rw [lin14]; simp [c2])]; exact ⟨F, rfl, SX_r F⟩
  rw [if_neg c2]
  obtain ⟨N, hN1, hN4, rfl⟩ := n14 (n := n) (by rw [lin14]; simp [c1, c2])
  have eP : ylp 1000 (nI N) = lN (1000 ^ N) := by unfold ylp; rw [nI_clamp (by omega)]; exact ylS_N 1000 N
  have l14 : lin (nI N).toInt64 1 4 = true := by rw [lin14]; simp [c1, c2]
  by_cases c3 : row < 0
  · rw [if_pos c3, bad (by
      unfold jdYb
      rw [l14, Bool.true_and]
      unfold lin
      simp [c3])]
    exact ⟨F, rfl, SX_r F⟩
  rw [if_neg c3]
  obtain ⟨R, hR, rfl⟩ := pk_lOf c3
  have hz : ∀ k, 0 < 1000 ^ k := fun k => Nat.pow_pos (by decide)
  have two : ∀ (m k : Nat) (G : Nat → Nat → Int32) (P : Nat → Int32) (x4 : Int64), k + m = N → HR a b s K P (G 6) → PG (c + k) a b P → (∀ i, i < N → G 13 i = nI (R / 1000 ^ (N - 1 - i) % 1000)) → SX F G → ∃ G', pm_EV (pm_run mt (d + 6)) (some .int) oX7_judge (47, [some (.ref 0), some (.int (nI N)), some (.long (lN R)), none, some (.long x4), none, some (.int (nI k))], [], hX I G sd) = some (some (.int (jdYL K (nI a) (nI b) (nI s) R N m k P).1), hX I G' sd) ∧ SX F G' := by
    intro m
    induction m with
    | zero =>
      intro k G P x4 hk hR hP h13 hS
      obtain rfl : k = N := by omega
      have no : ¬ nI k < nI k := nI_nlt (Nat.le_refl _) (by omega)
      refine ⟨G, ?_, hS⟩
      rw [tr_X7_judge_0_47 d I G sd _ _ _ _ (fun h => absurd h no) (fun h => absurd h no) (fun h => absurd h no), if_neg no]
      rfl
    | succ m ih =>
      intro k G P x4 hk hR hP h13 hS
      have ys : nI k < nI N := nI_lt (by omega) (by omega)
      rw [tr_X7_judge_0_47 d I G sd _ _ _ _ (fun _ => pm_in_nI (by omega) (by decide)) (fun _ => HR_21 ha hR) (fun _ => HR_23 hs hR), if_pos ys, nI_clamp (by omega), h13 k (by omega), jdYL]
      obtain ⟨e1, e2, e3⟩ := HR_ds (n := R / 1000 ^ (N - 1 - k) % 1000) ha hb (by omega) hR hP (Nat.mod_lt _ (by decide))
      simp only [bI_0]
      rw [e1]
      cases cA : dsA K P (nI a) (nI b) (nI s) (nI (R / 1000 ^ (N - 1 - k) % 1000))
      · rw [if_pos rfl, if_pos rfl]
        exact ⟨_, rfl, SX_6 hS _⟩
      · rw [if_neg (by decide), if_neg (by decide), nI_p1]
        exact ih (k + 1) _ _ x4 (by omega) (by rw [uF_at]; exact e2) (by rw [show c + (k + 1) = c + k + 1 by omega]; exact e3) (fun i hi => by rw [uF_ne _ _ (by decide)]; exact h13 i hi) (SX_6 hS _)
  have one : ∀ (m : Nat) (G : Nat → Nat → Int32), m ≤ N → (∀ i, m ≤ i → i < N → G 13 i = nI (R / 1000 ^ (N - 1 - i) % 1000)) → SX F G → ∃ G', pm_EV (pm_run mt (d + 6)) (some .int) oX7_judge (18, [some (.ref 0), some (.int (nI N)), some (.long (lN R)), none, some (.long (lN (R / 1000 ^ (N - m)))), none, some (.int (nI m - 1))], [], hX I G sd) = some (some (.int (jdYA K p q (nI a) (nI b) (nI s) (nI N) (lN R)).1), hX I G' sd) ∧ SX F G' := by
    intro m
    induction m with
    | zero =>
      intro G hm h13 hS
      have hlt : R / 1000 ^ N < 2 ^ 63 := Nat.lt_of_le_of_lt (Nat.div_le_self _ _) hR
      rw [tr_X7_judge_0_18 d I G sd _ _ _ _ (fun h => absurd (show nI 0 - 1 < 0 by decide) h), if_pos (show nI 0 - 1 < 0 by decide), Nat.sub_zero]
      simp only [lc_eq]
      have hiff : lN (R / 1000 ^ N) = 0 ↔ R < 1000 ^ N := by
        rw [show (0 : Int64) = lN 0 from rfl, pk_lEQ hlt (by decide)]
        constructor
        · intro h
          exact (Nat.div_eq_zero_iff_lt (hz N)).mp h
        · intro h
          exact Nat.div_eq_of_lt h
      by_cases cR : R < 1000 ^ N
      · rw [if_pos (hiff.mpr cR)]
        have hb1 : jdYb (nI N) (lN R) = true := by
          unfold jdYb
          rw [l14, Bool.true_and, eP]
          exact (lin_row hN4).mpr ⟨R, cR, rfl⟩
        unfold jdYA
        rw [if_neg (by rw [hb1]; decide), nI_clamp (by omega), show (lN R).toInt.toNat = R by rw [pk_lT hR]; rfl]
        exact two N 0 _ _ _ (by omega) (by rw [uF_at, hS 4 (by decide) (by decide) (by decide)]; exact HR_trial ha hr) (PG_trial hb hp) (fun i hi => by rw [uF_ne _ _ (by decide)]; exact h13 i (by omega) hi) (SX_6 hS _)
      · rw [if_neg (fun h => cR (hiff.mp h)), bad (by
          unfold jdYb
          rw [l14, Bool.true_and, eP]
          cases hh : lin (lN R) 0 (lN (1000 ^ N) - 1)
          · rfl
          · obtain ⟨R2, h1, h2⟩ := (lin_row hN4).mp hh
            have h3 := p1000 (k := N) hN4
            rw [pk_lEQ hR (by omega)] at h2
            exact absurd (h2 ▸ h1) cR)]
        exact ⟨G, rfl, hS⟩
    | succ m ih =>
      intro G hm h13 hS
      have hlt : R / 1000 ^ (N - (m + 1)) < 2 ^ 63 := Nat.lt_of_le_of_lt (Nat.div_le_self _ _) hR
      have hx : nI (m + 1) - 1 = nI m := nI_pred m
      have ng : ¬ nI m < 0 := nI_pos (by omega)
      rw [hx, tr_X7_judge_0_18 d I G sd _ _ _ _ (fun _ => pm_in_nI (by omega) (by decide)), if_neg ng, nI_clamp (by omega), show nI m + (-1) = nI m - 1 by grind, show (1000 : Int64) = lN 1000 from rfl, pk_lDiv hlt (by decide) (by decide)]
      rw [show lN (R / 1000 ^ (N - (m + 1))) - lN (R / 1000 ^ (N - (m + 1)) / 1000) * lN 1000 = lN (R / 1000 ^ (N - (m + 1)) % 1000) by rw [← pk_lDiv hlt (by decide) (by decide)]; exact pk_lRem hlt (by decide) (by decide), lN_i, Nat.div_div_eq_div_mul, ← Nat.pow_succ, show (N - (m + 1)).succ = N - m by omega]
      refine ih _ (by omega) (fun i h1 h2 => ?_) (SX_13 hS _)
      rw [uF_at]
      by_cases e : i = m
      · rw [e, upd_at, show N - 1 - m = N - (m + 1) by omega]
      · rw [upd_ne _ _ e]
        exact h13 i (by omega) h2
  have h := one N F (Nat.le_refl N) (fun i h1 h2 => absurd h2 (by omega)) (SX_r F)
  rw [Nat.sub_self, Nat.pow_zero, Nat.div_one] at h
  exact h
theorem yr_x (sd : Int64) : ∃ x, x < 32 ∧ yrX sd = nI x ∧ (((sd.toUInt64 >>> ((33 : Int32).toInt64.toUInt64 &&& Int64.toUInt64 63)).toInt64 : Int64).toInt32) - (((sd.toUInt64 >>> ((33 : Int32).toInt64.toUInt64 &&& Int64.toUInt64 63)).toInt64 : Int64).toInt32) / 32 * 32 = nI x := by
  obtain ⟨z, hz, rfl⟩ := wb_of sd
  unfold yrX
  rw [show (33 : Int32) = nI 33 from rfl, wb_shr hz (by decide)]
  have h31 : z / 2 ^ 33 < 2 ^ 31 := by omega
  refine ⟨z / 2 ^ 33 % 32, Nat.mod_lt _ (by decide), ?_, ?_⟩
  · rw [show (32 : Int64) = lN 32 from rfl, pk_lRem (by omega) (by decide) (by decide), lN_i]
  · rw [lN_i, show (32 : Int32) = nI 32 from rfl, pk_rem h31 (by decide) (by decide)]
end
