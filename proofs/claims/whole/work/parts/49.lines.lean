/-! lines and astray in both states (the rows bt, b_ are the kit's BITS.to-paste) -/
def bt (x : Int32) (i : Nat) : Bool := x.toBitVec.getLsbD i
theorem b_ext {x y : Int32} (h : ∀ i, i < 32 → bt x i = bt y i) : x = y := Int32.toBitVec_inj.mp (BitVec.eq_of_getLsbD_eq (fun i hi => h i hi))
theorem b_or (x y : Int32) (i : Nat) : bt (x ||| y) i = (bt x i || bt y i) := by unfold bt; rw [Int32.toBitVec_or, BitVec.getLsbD_or]
theorem b_and (x y : Int32) (i : Nat) : bt (x &&& y) i = (bt x i && bt y i) := by unfold bt; rw [Int32.toBitVec_and, BitVec.getLsbD_and]
theorem b_0 (i : Nat) : bt 0 i = false := BitVec.getLsbD_zero
theorem b_1 : ∀ i, i < 32 → bt 1 i = decide (i = 0) := by decide +kernel
theorem s_l : ∀ n, n < 32 → ((nI n &&& 31).toBitVec.smod 32).toNat = n := by decide +kernel
theorem b_shl (n : Nat) (hn : n < 32) (x : Int32) {i : Nat} (hi : i < 32) : bt (x <<< (nI n &&& 31)) i = (decide (n ≤ i) && bt x (i - n)) := by
  unfold bt
  rw [Int32.toBitVec_shiftLeft]
  show (x.toBitVec <<< ((nI n &&& 31).toBitVec.smod 32).toNat).getLsbD i = _
  rw [s_l n hn, BitVec.getLsbD_shiftLeft]
  rcases Nat.lt_or_ge i n with h | h
  · simp [h, Nat.not_le.mpr h]
  · simp [hi, h, Nat.not_lt.mpr h]
theorem b_sshr (n : Nat) (hn : n < 32) (x : Int32) {i : Nat} (hi : i < 32) : bt (x >>> (nI n &&& 31)) i = if n + i < 32 then bt x (n + i) else bt x 31 := by
  unfold bt
  rw [Int32.toBitVec_shiftRight]
  show (x.toBitVec.sshiftRight ((nI n &&& 31).toBitVec.smod 32).toNat).getLsbD i = _
  rw [s_l n hn, BitVec.getLsbD_sshiftRight, BitVec.msb_eq_getLsbD_last]
  simp [hi]
theorem bit_at {q i : Nat} (hq : q < 32) (hi : i < 32) : bt ((1 : Int32) <<< (nI q &&& 31)) i = decide (i = q) := by
  rw [b_shl q hq 1 hi]
  by_cases h : q ≤ i
  · rw [decide_eq_true h, Bool.true_and, b_1 (i - q) (by omega)]
    by_cases e : i = q
    · rw [decide_eq_true e, decide_eq_true (by omega)]
    · rw [decide_eq_false e, decide_eq_false (by omega)]
  · rw [decide_eq_false h, Bool.false_and, decide_eq_false (by omega)]
theorem yh_bt (r : Int32) {q : Nat} (hq : q < 32) : yhas r (nI q) = bt r q := by
  have h0 : bt ((r >>> (nI q &&& 31)) &&& 1) 0 = bt r q := by
    rw [b_and, b_sshr q hq r (by decide), if_pos (by omega), Nat.add_zero, b_1 0 (by decide), decide_eq_true rfl, Bool.and_true]
  unfold yhas
  rw [← h0]
  rcases and1 (r >>> (nI q &&& 31)) with e | e <;> rw [e] <;> decide
theorem sub_bt (r z : Int32) : r &&& z = z ↔ ∀ i, i < 32 → bt z i = true → bt r i = true := by
  constructor
  · intro h i hi hz
    rw [← h, b_and, Bool.and_eq_true] at hz
    exact hz.1
  · intro h
    refine b_ext (fun i hi => ?_)
    rw [b_and]
    cases hz : bt z i
    · rw [Bool.and_false]
    · rw [h i hi hz]; rfl
theorem dis_bt (r z : Int32) : r &&& z = 0 ↔ ∀ i, i < 32 → bt z i = true → bt r i = false := by
  constructor
  · intro h i hi hz
    have h2 : bt (r &&& z) i = false := by rw [h, b_0]
    rw [b_and, hz, Bool.and_true] at h2
    exact h2
  · intro h
    refine b_ext (fun i hi => ?_)
    rw [b_and, b_0]
    cases hz : bt z i
    · rw [Bool.and_false]
    · rw [h i hi hz]; rfl
theorem sub_or (r y : Int32) {q : Nat} (hq : q < 32) : r &&& (y ||| ((1 : Int32) <<< (nI q &&& 31))) = y ||| ((1 : Int32) <<< (nI q &&& 31)) ↔ r &&& y = y ∧ yhas r (nI q) = true := by
  rw [sub_bt, sub_bt, yh_bt r hq]
  constructor
  · intro h
    exact ⟨fun i hi hz => h i hi (by rw [b_or, hz]; rfl), h q hq (by rw [b_or, bit_at hq hq, decide_eq_true rfl, Bool.or_true])⟩
  · rintro ⟨h1, h2⟩ i hi hz
    rw [b_or, Bool.or_eq_true] at hz
    rcases hz with hz | hz
    · exact h1 i hi hz
    · rw [bit_at hq hi, decide_eq_true_eq] at hz
      rw [hz]; exact h2
theorem dis_or (r y : Int32) {q : Nat} (hq : q < 32) : r &&& (y ||| ((1 : Int32) <<< (nI q &&& 31))) = 0 ↔ r &&& y = 0 ∧ yhas r (nI q) = false := by
  rw [dis_bt, dis_bt, yh_bt r hq]
  constructor
  · intro h
    exact ⟨fun i hi hz => h i hi (by rw [b_or, hz]; rfl), h q hq (by rw [b_or, bit_at hq hq, decide_eq_true rfl, Bool.or_true])⟩
  · rintro ⟨h1, h2⟩ i hi hz
    rw [b_or, Bool.or_eq_true] at hz
    rcases hz with hz | hz
    · exact h1 i hi hz
    · rw [bit_at hq hi, decide_eq_true_eq] at hz
      rw [hz]; exact h2
/-- what was said, as two masks -/
def sdyM (A B : Nat → Int32) : Nat → Int32
  | 0 => 0
  | k + 1 => if B k = 1 then sdyM A B k ||| ((1 : Int32) <<< (A k &&& 31)) else sdyM A B k
def sdnM (A B : Nat → Int32) : Nat → Int32
  | 0 => 0
  | k + 1 => if B k = 1 then sdnM A B k else sdnM A B k ||| ((1 : Int32) <<< (A k &&& 31))
section
variable {A B : Nat → Int32}
theorem sdy_ag {A2 B2 : Nat → Int32} : ∀ n, (∀ i, i < n → A2 i = A i ∧ B2 i = B i) → sdyM A2 B2 n = sdyM A B n ∧ sdnM A2 B2 n = sdnM A B n
  | 0, _ => ⟨rfl, rfl⟩
  | n + 1, h => by
    obtain ⟨i1, i2⟩ := sdy_ag n (fun i hi => h i (by omega))
    obtain ⟨e1, e2⟩ := h n (by omega)
    rw [sdyM, sdyM, sdnM, sdnM, i1, i2, e1, e2]
    exact ⟨rfl, rfl⟩
theorem li_so (r : Int32) : ∀ n, (∀ i, i < n → inr (A i) 10 = true) → (decide (r &&& sdyM A B n = sdyM A B n) && decide (r &&& sdnM A B n = 0)) = liB r A B n
  | 0, _ => by
    have h : r &&& 0 = 0 := b_ext (fun i _ => by rw [b_and, b_0, Bool.and_false])
    show (decide (r &&& 0 = 0) && decide (r &&& 0 = 0)) = true
    rw [decide_eq_true h]; rfl
  | n + 1, hA => by
    obtain ⟨q, hq, eq⟩ := inr_nI (n := 10) (by decide) (hA n (by omega))
    rw [sdyM, sdnM, liB, ← li_so r n (fun i hi => hA i (by omega)), eq]
    by_cases h : B n = 1
    · rw [if_pos h, if_pos h, decide_eq_true h, Bool.eq_iff_iff]
      simp only [Bool.and_eq_true, decide_eq_true_eq]
      rw [sub_or r _ (show q < 32 by omega)]
      constructor
      · rintro ⟨⟨h1, h2⟩, h3⟩; exact ⟨⟨h1, h3⟩, h2⟩
      · rintro ⟨⟨h1, h3⟩, h2⟩; exact ⟨⟨h1, h2⟩, h3⟩
    · rw [if_neg h, if_neg h, decide_eq_false h, Bool.eq_iff_iff]
      simp only [Bool.and_eq_true, decide_eq_true_eq]
      rw [dis_or r _ (show q < 32 by omega)]
      constructor
      · rintro ⟨h1, h2, h3⟩; exact ⟨⟨h1, h2⟩, h3⟩
      · rintro ⟨⟨h1, h2⟩, h3⟩; exact ⟨h1, h2, h3⟩
theorem so_li {n : Nat} (hA : ∀ i, i < n → inr (A i) 10 = true) (w : Int32) (k : Nat) : xso (sdyM A B n) (sdnM A B n) (nI k) w = liI w A B n k := li_so _ n hA
theorem lnC_li {n : Nat} (hA : ∀ i, i < n → inr (A i) 10 = true) (w : Int32) : ∀ k, xlnC (sdyM A B n) (sdnM A B n) w k = (liL w A B n k).1
  | 0 => rfl
  | k + 1 => by
    rw [xlnC, liL, so_li hA, lnC_li hA w k]
    by_cases h : liI w A B n k = true
    · rw [if_pos h, if_pos h]
    · rw [if_neg h, if_neg h]
theorem lnF_li {n : Nat} (hA : ∀ i, i < n → inr (A i) 10 = true) (w : Int32) : xlnF (sdyM A B n) (sdnM A B n) w 100 0 = (liL w A B n 100).2 := by
  have key : ∀ k m, k + m = 100 → ((liL w A B n k).1 = 0 ∧ (liL w A B n k).2 = -9 ∧ xlnF (sdyM A B n) (sdnM A B n) w 100 0 = xlnF (sdyM A B n) (sdnM A B n) w m k) ∨ ∃ c, 0 < c ∧ c ≤ k ∧ (liL w A B n k).1 = nI c ∧ (liL w A B n k).2 = xlnF (sdyM A B n) (sdnM A B n) w 100 0 := by
    intro k
    induction k with
    | zero =>
      intro m hm
      obtain rfl : m = 100 := by omega
      exact Or.inl ⟨rfl, rfl, rfl⟩
    | succ k ih =>
      intro m hm
      have hs : xlnF (sdyM A B n) (sdnM A B n) w (m + 1) k = if liI w A B n k = true then nI k else xlnF (sdyM A B n) (sdnM A B n) w m (k + 1) := by rw [xlnF, so_li hA]
      rw [liL]
      rcases ih (m + 1) (by omega) with ⟨h1, h2, h3⟩ | ⟨c, c1, c2, h1, h2⟩
      · by_cases h : liI w A B n k = true
        · rw [if_pos h] at hs
          rw [if_pos h]
          refine Or.inr ⟨1, by omega, by omega, ?_, ?_⟩
          · show (liL w A B n k).1 + 1 = nI 1
            rw [h1]; rfl
          · show (if (liL w A B n k).1 = 0 then nI k else (liL w A B n k).2) = _
            rw [if_pos h1, h3, hs]
        · rw [if_neg h] at hs
          rw [if_neg h]
          exact Or.inl ⟨h1, h2, by rw [h3, hs]⟩
      · by_cases h : liI w A B n k = true
        · rw [if_pos h]
          refine Or.inr ⟨c + 1, by omega, by omega, ?_, ?_⟩
          · show (liL w A B n k).1 + 1 = nI (c + 1)
            rw [h1, nI_p1]
          · show (if (liL w A B n k).1 = 0 then nI k else (liL w A B n k).2) = _
            rw [if_neg (by rw [h1]; exact nI_ne0 c1 (by omega)), h2]
        · rw [if_neg h]
          exact Or.inr ⟨c, c1, by omega, h1, h2⟩
  rcases key 100 0 rfl with ⟨_, h2, h3⟩ | ⟨c, _, _, _, h2⟩
  · rw [h3, h2]; rfl
  · exact h2.symm
end
/-! astray -/
def astO (B : Nat → Bool) (x n : Nat) (l : Int32) : Prop := (l = -9 ∧ ∀ i, i < n → B i = false) ∨ ∃ d i, l = nI d ∧ i < n ∧ B i = true ∧ (x - i) + (i - x) = d ∧ ∀ i', i' < n → B i' = true → d ≤ (x - i') + (i' - x)
theorem astO_1 {B : Nat → Bool} {x n : Nat} {l m : Int32} (h : astO B x n l) (h2 : astO B x n m) : l = m := by
  rcases h with ⟨h1, hn⟩ | ⟨d, i, h1, hi, hB, hd, hm⟩
  · rcases h2 with ⟨h2, _⟩ | ⟨d2, i2, h2, hi2, hB2, hd2, hm2⟩
    · rw [h1, h2]
    · rw [hn i2 hi2] at hB2
      exact absurd hB2 (by decide)
  · rcases h2 with ⟨h2, hn2⟩ | ⟨d2, i2, h2, hi2, hB2, hd2, hm2⟩
    · rw [hn2 i hi] at hB
      exact absurd hB (by decide)
    · have e1 := hm i2 hi2 hB2
      have e2 := hm2 i hi hB
      rw [h1, h2, show d = d2 by omega]
theorem xh_lo (r : Int32) {x k : Nat} (hx : x < 10) (hk : k < 10) : xhas r (nI x - nI k) = (decide (k ≤ x) && yhas r (nI (x - k))) := by
  by_cases h : k ≤ x
  · rw [pk_sub h, decide_eq_true h, Bool.true_and, xy_has (inr_mk (n := 10) (by decide) (by omega))]
  · rw [decide_eq_false h, Bool.false_and]
    unfold xhas inr
    rw [decide_eq_true (pk_sneg (by omega) (by omega))]
    rfl
theorem xh_hi (r : Int32) {x k : Nat} (hx : x < 10) (hk : k < 10) : xhas r (nI x + nI k) = (decide (x + k < 10) && yhas r (nI (x + k))) := by
  rw [nI_add]
  by_cases h : x + k < 10
  · rw [decide_eq_true h, Bool.true_and, xy_has (inr_mk (n := 10) (by decide) h)]
  · rw [decide_eq_false h, Bool.false_and]
    unfold xhas
    rw [show (10 : Int32) = nI 10 from rfl, inr_dg (by omega) (by decide), decide_eq_false h]
    rfl
theorem ast_X (r : Int32) {x : Nat} (hx : x < 10) : ∀ m k, k + m = 10 → (∀ i, i < 10 → yhas r (nI i) = true → k ≤ (x - i) + (i - x)) → astO (fun i => yhas r (nI i)) x 10 (xastL r (nI x) m k) := by
  intro m
  induction m with
  | zero =>
    intro k hk h
    refine Or.inl ⟨rfl, fun i hi => ?_⟩
    cases hb : yhas r (nI i)
    · exact hb
    · have := h i hi hb
      omega
  | succ m ih =>
    intro k hk h
    rw [xastL, xh_lo r hx (by omega), xh_hi r hx (by omega)]
    by_cases c1 : k ≤ x ∧ yhas r (nI (x - k)) = true
    · rw [decide_eq_true c1.1, c1.2, if_pos (by rfl)]
      exact Or.inr ⟨k, x - k, rfl, by omega, c1.2, by omega, h⟩
    · rw [if_neg (fun q => c1 (by rw [Bool.and_eq_true, decide_eq_true_eq] at q; exact q))]
      by_cases c2 : x + k < 10 ∧ yhas r (nI (x + k)) = true
      · rw [decide_eq_true c2.1, c2.2, if_pos (by rfl)]
        exact Or.inr ⟨k, x + k, rfl, by omega, c2.2, by omega, h⟩
      · rw [if_neg (fun q => c2 (by rw [Bool.and_eq_true, decide_eq_true_eq] at q; exact q))]
        refine ih (k + 1) (by omega) (fun i hi hb => ?_)
        have h1 := h i hi hb
        rcases Nat.lt_or_ge k ((x - i) + (i - x)) with l | l
        · omega
        · exfalso
          rcases Nat.lt_or_ge x i with l2 | l2
          · exact c2 ⟨by omega, by rw [show x + k = i by omega]; exact hb⟩
          · exact c1 ⟨by omega, by rw [show x - k = i by omega]; exact hb⟩
theorem yap_N {x k : Nat} (hx : x < 10) (hk : k < 10) : yapart (nI x) (nI k) = nI ((x - k) + (k - x)) := by
  unfold yapart
  by_cases h : x < k
  · rw [if_pos (nI_lt h (by omega)), pk_sub (by omega), show (x - k) + (k - x) = k - x by omega]
  · rw [if_neg (nI_nlt (by omega) (by omega)), pk_sub (by omega), show (x - k) + (k - x) = x - k by omega]
theorem ast_Y (r : Int32) {x : Nat} (hx : x < 10) : ∀ m k l, k + m = 10 → astO (fun i => yhas r (nI i)) x k l → astO (fun i => yhas r (nI i)) x 10 (yaF r (nI x) m k l) := by
  intro m
  induction m with
  | zero =>
    intro k l hk h
    obtain rfl : k = 10 := by omega
    exact h
  | succ m ih =>
    intro k l hk h
    rw [yaF, yap_N hx (by omega)]
    refine ih (k + 1) _ (by omega) ?_
    cases hb : yhas r (nI k)
    · rw [if_pos rfl]
      rcases h with ⟨h1, hn⟩ | ⟨d, i, h1, hi, hB, hd, hm⟩
      · refine Or.inl ⟨h1, fun i hi => ?_⟩
        rcases (show i < k ∨ i = k by omega) with e | e
        · exact hn i e
        · rw [e]; exact hb
      · refine Or.inr ⟨d, i, h1, by omega, hB, hd, fun i' hi' hB' => ?_⟩
        rcases (show i' < k ∨ i' = k by omega) with e | e
        · exact hm i' e hB'
        · rw [e] at hB'
          exact absurd (hb.symm.trans hB') (by decide)
    · rw [if_neg (by decide)]
      rcases h with ⟨h1, hn⟩ | ⟨d, i, h1, hi, hB, hd, hm⟩
      · rw [if_pos h1]
        refine Or.inr ⟨_, k, rfl, by omega, hb, rfl, fun i' hi' hB' => ?_⟩
        rcases (show i' < k ∨ i' = k by omega) with e | e
        · exact absurd ((hn i' e).symm.trans hB') (by decide)
        · rw [e]; exact Nat.le_refl _
      · rw [h1, if_neg (nI_m9 (by omega))]
        by_cases l2 : (x - k) + (k - x) < d
        · rw [if_pos (nI_lt l2 (by omega))]
          refine Or.inr ⟨_, k, rfl, by omega, hb, rfl, fun i' hi' hB' => ?_⟩
          rcases (show i' < k ∨ i' = k by omega) with e | e
          · have := hm i' e hB'
            omega
          · rw [e]; exact Nat.le_refl _
        · rw [if_neg (nI_nlt (by omega) (by omega))]
          refine Or.inr ⟨d, i, rfl, by omega, hB, hd, fun i' hi' hB' => ?_⟩
          rcases (show i' < k ∨ i' = k by omega) with e | e
          · exact hm i' e hB'
          · rw [e]; omega
theorem ast_eq (r : Int32) {q : Int32} (h : inr q 10 = true) : xastL r q 10 0 = yaF r q 10 0 (-9) := by
  obtain ⟨x, hx, rfl⟩ := inr_nI (n := 10) (by decide) h
  exact astO_1 (ast_X r hx 10 0 rfl (fun _ _ _ => Nat.zero_le _)) (ast_Y r hx 10 0 (-9) rfl (Or.inl ⟨rfl, fun i hi => absurd hi (by omega)⟩))
