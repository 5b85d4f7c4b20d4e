/-! the two states held against each other: house and page -/
def HR (a b s : Nat) (K p f : Nat → Int32) : Prop := f 21 = nI a ∧ f 22 = nI b ∧ f 23 = nI s ∧ (∀ j, j < 17 → f (4 + j) = p j) ∧ f 26 = p 17 ∧ f 25 = p 18 ∧ f 24 = p 19 ∧ f 27 = p 20 ∧ (∀ j, j < a → f j = K j)
def PG (c a b : Nat) (p : Nat → Int32) : Prop := (∀ j, j < 4 → ∃ x, x ≤ 999 ∧ p j = nI x) ∧ (∀ j, j < 4 → ∃ x, x ≤ 90 * c ∧ p (4 + j) = nI x) ∧ (∀ j, j < 4 → ∃ x, x ≤ 9 * c ∧ p (8 + j) = nI x) ∧ (∀ j, a ≤ j → j < 4 → p (4 + j) = 0 ∧ p (8 + j) = 0) ∧ (∀ t, t < b → inr (p (12 + t)) 10 = true) ∧ (∃ w, w < 1024 ∧ p 17 = nI w) ∧ inr (p 19) 10 = true
theorem HR_ag {a b s : Nat} {K p q f : Nat → Int32} (h : ag21 p q) (hr : HR a b s K p f) : HR a b s K q f := by
  obtain ⟨h1, h2, h3, h4, h5, h6, h7, h8, h9⟩ := hr
  exact ⟨h1, h2, h3, fun j hj => (h4 j hj).trans (h j (by omega)), h5.trans (h 17 (by decide)), h6.trans (h 18 (by decide)), h7.trans (h 19 (by decide)), h8.trans (h 20 (by decide)), h9⟩
theorem PG_ag {c a b : Nat} {p q : Nat → Int32} (h : ag21 p q) (hb : b ≤ 5) (hr : PG c a b p) : PG c a b q := by
  obtain ⟨h1, h2, h3, h4, h5, h6, h7⟩ := hr
  refine ⟨fun j hj => ?_, fun j hj => ?_, fun j hj => ?_, fun j hj hj2 => ?_, fun t ht => ?_, ?_, ?_⟩
  · rw [← h j (by omega)]; exact h1 j hj
  · rw [← h (4 + j) (by omega)]; exact h2 j hj
  · rw [← h (8 + j) (by omega)]; exact h3 j hj
  · rw [← h (4 + j) (by omega), ← h (8 + j) (by omega)]; exact h4 j hj hj2
  · rw [← h (12 + t) (by omega)]; exact h5 t ht
  · rw [← h 17 (by decide)]; exact h6
  · rw [← h 19 (by decide)]; exact h7
theorem PG_mono {c c2 a b : Nat} {p : Nat → Int32} (h : c ≤ c2) (hr : PG c a b p) : PG c2 a b p := by
  obtain ⟨h1, h2, h3, h4⟩ := hr
  exact ⟨h1, fun j hj => by obtain ⟨x, hx, e⟩ := h2 j hj; exact ⟨x, by omega, e⟩, fun j hj => by obtain ⟨x, hx, e⟩ := h3 j hj; exact ⟨x, by omega, e⟩, h4⟩
theorem HR_c28 {a b s : Nat} {K p f g : Nat → Int32} (ha : a ≤ 4) (h : ∀ j, j < 28 → g j = f j) (hr : HR a b s K p f) : HR a b s K p g := by
  obtain ⟨h1, h2, h3, h4, h5, h6, h7, h8, h9⟩ := hr
  exact ⟨(h 21 (by decide)).trans h1, (h 22 (by decide)).trans h2, (h 23 (by decide)).trans h3, fun j hj => (h _ (by omega)).trans (h4 j hj), (h 26 (by decide)).trans h5, (h 25 (by decide)).trans h6, (h 24 (by decide)).trans h7, (h 27 (by decide)).trans h8, fun j hj => (h _ (by omega)).trans (h9 j hj)⟩
theorem hc0 {f : Nat → Int32} {j : Nat} (hj : j < 28) : hcell f (0 + nI j) = f j := by
  rw [show (0 : Int32) = nI 0 from rfl, nI_add, hcell_at (by omega), Nat.zero_add]
theorem hcN {f : Nat → Int32} (k : Nat) {j : Nat} (hj : k + j < 28) : hcell f (nI k + nI j) = f (k + j) := by
  rw [nI_add, hcell_at hj]
theorem hsN {f : Nat → Int32} (k : Nat) {j : Nat} {v : Int32} (hj : k + j < 28) : hset f (nI k + nI j) v = upd f (k + j) v := by
  rw [nI_add, hset_at hj]
section
variable {a b s : Nat} {K p f : Nat → Int32}
theorem HR_4 (hr : HR a b s K p f) {j : Nat} (hj : j < 4) : hcell f (4 + nI j) = p j := (hcN 4 (by omega)).trans (hr.2.2.2.1 j (by omega))
theorem HR_8 (hr : HR a b s K p f) {j : Nat} (hj : j < 4) : hcell f (8 + nI j) = p (4 + j) := (hcN 8 (by omega)).trans (by rw [show 8 + j = 4 + (4 + j) by omega]; exact hr.2.2.2.1 (4 + j) (by omega))
theorem HR_12 (hr : HR a b s K p f) {j : Nat} (hj : j < 4) : hcell f (12 + nI j) = p (8 + j) := (hcN 12 (by omega)).trans (by rw [show 12 + j = 4 + (8 + j) by omega]; exact hr.2.2.2.1 (8 + j) (by omega))
theorem HR_16 (hr : HR a b s K p f) {j : Nat} (hj : j < 5) : hcell f (16 + nI j) = p (12 + j) := (hcN 16 (by omega)).trans (by rw [show 16 + j = 4 + (12 + j) by omega]; exact hr.2.2.2.1 (12 + j) (by omega))
theorem HR_0 (ha : a ≤ 4) (hr : HR a b s K p f) {j : Nat} (hj : j < a) : hcell f (0 + nI j) = K j := (hc0 (by omega)).trans (hr.2.2.2.2.2.2.2.2 j hj)
theorem pworth_at {j : Nat} (hj : j < 4) : pworth K p (nI j) = if K j = 1 then 2 * p (4 + j) else if K j = 2 then p (4 + j) / 2 else p (4 + j) := by
  unfold pworth
  rw [nI_clamp (by omega), show (4 + nI j).toNatClampNeg = 4 + j from cl_add 4 j (by omega)]
theorem HR_worth (ha : a ≤ 4) (hr : HR a b s K p f) {j : Nat} (hj : j < a) : hworth f (nI j) 0 = pworth K p (nI j) := by
  rw [pworth_at (by omega)]
  unfold hworth
  rw [HR_0 ha hr hj, HR_8 hr (by omega), show p (4 + j) + 0 = p (4 + j) by grind]
theorem HR_dueS (hr : HR a b s K p f) : hdueS f 1 = 0 + p 8 ∧ hdueS f 2 = 0 + p 8 + p 9 ∧ hdueS f 3 = 0 + p 8 + p 9 + p 10 ∧ hdueS f 4 = 0 + p 8 + p 9 + p 10 + p 11 := by
  simp only [hdueS]
  rw [HR_12 hr (j := 0) (by decide), HR_12 hr (j := 1) (by decide), HR_12 hr (j := 2) (by decide), HR_12 hr (j := 3) (by decide)]
  exact ⟨rfl, rfl, rfl, rfl⟩
theorem HR_due {c : Nat} (ha : a ≤ 4) (hr : HR a b s K p f) (hp : PG c a b p) : hdue f = pdue p := by
  unfold hdue pdue
  rw [hr.1, nI_clamp (by omega)]
  obtain ⟨d1, d2, d3, d4⟩ := HR_dueS hr
  have z := hp.2.2.2.1
  congr 1
  rcases (show a = 0 ∨ a = 1 ∨ a = 2 ∨ a = 3 ∨ a = 4 by omega) with e | e | e | e | e <;> subst e
  · have z0 := (z 0 (by omega) (by omega)).2
    have z1 := (z 1 (by omega) (by omega)).2
    have z2 := (z 2 (by omega) (by omega)).2
    have z3 := (z 3 (by omega) (by omega)).2
    rw [z0, z1, z2, z3]; rfl
  · have z1 := (z 1 (by omega) (by omega)).2
    have z2 := (z 2 (by omega) (by omega)).2
    have z3 := (z 3 (by omega) (by omega)).2
    rw [d1, z1, z2, z3]; grind
  · have z2 := (z 2 (by omega) (by omega)).2
    have z3 := (z 3 (by omega) (by omega)).2
    rw [d2, z2, z3]; grind
  · have z3 := (z 3 (by omega) (by omega)).2
    rw [d3, z3]; grind
  · rw [d4]; grind
theorem has15 : ∀ k, k < 4 → yhas 15 (nI k) = true := by decide +kernel
theorem HR_lackS {c : Nat} (ha : a ≤ 4) (hr : HR a b s K p f) (hp : PG c a b p) : ∀ k, k ≤ a → hlackS f k = pdue p - pwS K p 15 k
  | 0, _ => by
    show hdue f = pdue p - 0
    rw [HR_due ha hr hp]; grind
  | k + 1, hk => by
    have ih := HR_lackS ha hr hp k (by omega)
    rw [hlackS, ih, HR_worth ha hr (by omega), pwS, if_neg (by rw [has15 k (by omega)]; decide)]
    grind
theorem HR_short {c : Nat} (ha : a ≤ 4) (hr : HR a b s K p f) (hp : PG c a b p) : hshort f = pshort K p (nI a) := by
  unfold hshort pshort pwo
  rw [hr.1, nI_clamp (by omega), HR_lackS ha hr hp a (Nat.le_refl a)]
theorem HR_ant (hr : HR a b s K p f) : xant f = pant p (nI s) := by
  unfold xant pant
  rw [hr.2.2.1, hr.2.2.2.2.1, hr.2.2.2.2.2.2.1]
theorem and1 (x : Int32) : x &&& 1 = 0 ∨ x &&& 1 = 1 := by
  obtain ⟨j, hj, e⟩ := pk_andE x (m := 1) 1 (by decide)
  rcases (show j = 0 ∨ j = 1 by omega) with rfl | rfl
  · exact Or.inl e
  · exact Or.inr e
theorem xy_has {r q : Int32} (h : inr q 10 = true) : xhas r q = yhas r q := by
  unfold xhas yhas
  rw [h]
  rcases and1 (r >>> (q &&& 31)) with e | e <;> rw [e] <;> decide
theorem HR_knS {c : Nat} (hb : b ≤ 5) (hr : HR a b s K p f) (hp : PG c a b p) (r : Int32) : ∀ k, k ≤ b → xknS r f k = pkS r p k
  | 0, _ => rfl
  | k + 1, hk => by
    have ih := HR_knS hb hr hp r k (by omega)
    rw [xknS, pkS, ih, HR_16 hr (by omega), xy_has (hp.2.2.2.2.1 k (by omega))]
    cases yhas r (p (12 + k)) <;> rfl
theorem HR_known {c : Nat} (hb : b ≤ 5) (hr : HR a b s K p f) (hp : PG c a b p) : xknown f = pknown p (nI s) (nI b) := by
  unfold xknown pknown
  rw [HR_ant hr, hr.2.1, nI_clamp (by omega), HR_knS hb hr hp _ b (Nat.le_refl b)]
theorem bc_allB : (List.range 1024).all (fun w => decide (jbc (nI w) = ymany (nI w))) = true := by decide +kernel
theorem bc_all {w : Nat} (h : w < 1024) : jbc (nI w) = ymany (nI w) := of_decide_eq_true (List.all_eq_true.mp bc_allB w (List.mem_range.mpr h))
theorem or_allB : (List.range 1024).all (fun w => (List.range 10).all (fun q => decide ((nI w ||| ((1 : Int32) <<< (nI q &&& 31))).toNatClampNeg < 1024) && decide (nI (nI w ||| ((1 : Int32) <<< (nI q &&& 31))).toNatClampNeg = nI w ||| ((1 : Int32) <<< (nI q &&& 31))))) = true := by decide +kernel
theorem or_all {w q : Nat} (h : w < 1024) (hq : q < 10) : ∃ v, v < 1024 ∧ nI w ||| ((1 : Int32) <<< (nI q &&& 31)) = nI v := by
  have h1 := List.all_eq_true.mp (List.all_eq_true.mp or_allB w (List.mem_range.mpr h)) q (List.mem_range.mpr hq)
  simp only [Bool.and_eq_true, decide_eq_true_eq] at h1
  exact ⟨_, h1.1, h1.2.symm⟩
theorem ap_allB : (List.range 10).all (fun x => (List.range 10).all (fun y => decide (xabs (nI y - nI x) = yapart (nI x) (nI y)) && (decide (xabs (nI y - nI x) = 0) == decide (x = y)) && !decide (yapart (nI x) (nI y) < 0))) = true := by decide +kernel
theorem ap_all {x y : Nat} (h : x < 10) (hq : y < 10) : xabs (nI y - nI x) = yapart (nI x) (nI y) ∧ (xabs (nI y - nI x) = 0 ↔ x = y) ∧ ¬ yapart (nI x) (nI y) < 0 := by
  have h1 := List.all_eq_true.mp (List.all_eq_true.mp ap_allB x (List.mem_range.mpr h)) y (List.mem_range.mpr hq)
  simp only [Bool.and_eq_true, decide_eq_true_eq, beq_iff_eq, Bool.not_eq_true', decide_eq_false_iff_not, decide_eq_decide] at h1
  exact ⟨h1.1.1, h1.1.2, h1.2⟩
theorem many_nn : ∀ w, w < 1024 → ¬ ymany (nI w) < 0 := by decide +kernel
end
