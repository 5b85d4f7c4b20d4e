/-! doings in both states -/
theorem z00 : ¬ (0 : Int32) < 0 := by decide
section
variable {a b s : Nat} {K p f : Nat → Int32}
theorem HR_upd (ha : a ≤ 4) (hr : HR a b s K p f) {j : Nat} (hj : j < 17) (v : Int32) : HR a b s K (upd p j v) (upd f (4 + j) v) := by
  obtain ⟨h1, h2, h3, h4, h5, h6, h7, h8, h9⟩ := hr
  refine ⟨?_, ?_, ?_, ?_, ?_, ?_, ?_, ?_, ?_⟩
  · rw [upd_ne _ _ (by omega)]; exact h1
  · rw [upd_ne _ _ (by omega)]; exact h2
  · rw [upd_ne _ _ (by omega)]; exact h3
  · intro i hi
    by_cases e : i = j
    · rw [e, upd_at, upd_at]
    · rw [upd_ne _ _ (by omega), upd_ne _ _ e]; exact h4 i hi
  · rw [upd_ne _ _ (by omega), upd_ne _ _ (by omega)]; exact h5
  · rw [upd_ne _ _ (by omega), upd_ne _ _ (by omega)]; exact h6
  · rw [upd_ne _ _ (by omega), upd_ne _ _ (by omega)]; exact h7
  · rw [upd_ne _ _ (by omega), upd_ne _ _ (by omega)]; exact h8
  · intro i hi
    rw [upd_ne _ _ (by omega)]; exact h9 i hi
theorem HR_upw (ha : a ≤ 4) (hr : HR a b s K p f) (v : Int32) : HR a b s K (upd p 17 v) (upd f 26 v) := by
  obtain ⟨h1, h2, h3, h4, h5, h6, h7, h8, h9⟩ := hr
  refine ⟨?_, ?_, ?_, ?_, ?_, ?_, ?_, ?_, ?_⟩
  · rw [upd_ne _ _ (by omega)]; exact h1
  · rw [upd_ne _ _ (by omega)]; exact h2
  · rw [upd_ne _ _ (by omega)]; exact h3
  · intro i hi
    rw [upd_ne _ _ (by omega), upd_ne _ _ (by omega)]; exact h4 i hi
  · rw [upd_at, upd_at]
  · rw [upd_ne _ _ (by omega), upd_ne _ _ (by omega)]; exact h6
  · rw [upd_ne _ _ (by omega), upd_ne _ _ (by omega)]; exact h7
  · rw [upd_ne _ _ (by omega), upd_ne _ _ (by omega)]; exact h8
  · intro i hi
    rw [upd_ne _ _ (by omega)]; exact h9 i hi
/-- one cell of each row changes -/
theorem PG_lar {c : Nat} (hp : PG c a b p) {j x : Nat} (hj : j < 4) (hx : x ≤ 999) : PG c a b (upd p j (nI x)) := by
  obtain ⟨h1, h2, h3, h4, h5, ⟨w, h6, h6'⟩, h7⟩ := hp
  refine ⟨fun i hi => ?_, fun i hi => ?_, fun i hi => ?_, fun i hi hi2 => ?_, fun t ht => ?_, ⟨w, h6, ?_⟩, ?_⟩
  · by_cases e : i = j
    · rw [e, upd_at]; exact ⟨x, hx, rfl⟩
    · rw [upd_ne _ _ e]; exact h1 i hi
  · rw [upd_ne _ _ (by omega)]; exact h2 i hi
  · rw [upd_ne _ _ (by omega)]; exact h3 i hi
  · rw [upd_ne _ _ (by omega), upd_ne _ _ (by omega)]; exact h4 i hi hi2
  · rw [upd_ne _ _ (by omega)]; exact h5 t ht
  · rw [upd_ne _ _ (by omega)]; exact h6'
  · rw [upd_ne _ _ (by omega)]; exact h7
theorem PG_flo {c : Nat} (hp : PG c a b p) (ha : a ≤ 4) {j x : Nat} (hj : j < a) (hx : x ≤ 90 * c) : PG c a b (upd p (4 + j) (nI x)) := by
  obtain ⟨h1, h2, h3, h4, h5, ⟨w, h6, h6'⟩, h7⟩ := hp
  refine ⟨fun i hi => ?_, fun i hi => ?_, fun i hi => ?_, fun i hi hi2 => ?_, fun t ht => ?_, ⟨w, h6, ?_⟩, ?_⟩
  · rw [upd_ne _ _ (by omega)]; exact h1 i hi
  · by_cases e : i = j
    · rw [e, upd_at]; exact ⟨x, hx, rfl⟩
    · rw [upd_ne _ _ (by omega)]; exact h2 i hi
  · rw [upd_ne _ _ (by omega)]; exact h3 i hi
  · rw [upd_ne _ _ (by omega), upd_ne _ _ (by omega)]; exact h4 i hi hi2
  · rw [upd_ne _ _ (by omega)]; exact h5 t ht
  · rw [upd_ne _ _ (by omega)]; exact h6'
  · rw [upd_ne _ _ (by omega)]; exact h7
theorem PG_put {c : Nat} (hp : PG c a b p) (ha : a ≤ 4) {j x : Nat} (hj : j < a) (hx : x ≤ 9 * c) : PG c a b (upd p (8 + j) (nI x)) := by
  obtain ⟨h1, h2, h3, h4, h5, ⟨w, h6, h6'⟩, h7⟩ := hp
  refine ⟨fun i hi => ?_, fun i hi => ?_, fun i hi => ?_, fun i hi hi2 => ?_, fun t ht => ?_, ⟨w, h6, ?_⟩, ?_⟩
  · rw [upd_ne _ _ (by omega)]; exact h1 i hi
  · rw [upd_ne _ _ (by omega)]; exact h2 i hi
  · by_cases e : i = j
    · rw [e, upd_at]; exact ⟨x, hx, rfl⟩
    · rw [upd_ne _ _ (by omega)]; exact h3 i hi
  · rw [upd_ne _ _ (by omega), upd_ne _ _ (by omega)]; exact h4 i hi hi2
  · rw [upd_ne _ _ (by omega)]; exact h5 t ht
  · rw [upd_ne _ _ (by omega)]; exact h6'
  · rw [upd_ne _ _ (by omega)]; exact h7
theorem PG_pla {c : Nat} (hp : PG c a b p) (hb : b ≤ 5) {j : Nat} {v : Int32} (hj : j < b) (hv : inr v 10 = true) : PG c a b (upd p (12 + j) v) := by
  obtain ⟨h1, h2, h3, h4, h5, ⟨w, h6, h6'⟩, h7⟩ := hp
  refine ⟨fun i hi => ?_, fun i hi => ?_, fun i hi => ?_, fun i hi hi2 => ?_, fun t ht => ?_, ⟨w, h6, ?_⟩, ?_⟩
  · rw [upd_ne _ _ (by omega)]; exact h1 i hi
  · rw [upd_ne _ _ (by omega)]; exact h2 i hi
  · rw [upd_ne _ _ (by omega)]; exact h3 i hi
  · rw [upd_ne _ _ (by omega), upd_ne _ _ (by omega)]; exact h4 i hi hi2
  · by_cases e : t = j
    · rw [e, upd_at]; exact hv
    · rw [upd_ne _ _ (by omega)]; exact h5 t ht
  · rw [upd_ne _ _ (by omega)]; exact h6'
  · rw [upd_ne _ _ (by omega)]; exact h7
theorem PG_pow {c : Nat} (hp : PG c a b p) (hb : b ≤ 5) {v : Int32} (hv : ∃ w, w < 1024 ∧ v = nI w) : PG c a b (upd p 17 v) := by
  obtain ⟨h1, h2, h3, h4, h5, -, h7⟩ := hp
  refine ⟨fun i hi => ?_, fun i hi => ?_, fun i hi => ?_, fun i hi hi2 => ?_, fun t ht => ?_, ?_, ?_⟩
  · rw [upd_ne _ _ (by omega)]; exact h1 i hi
  · rw [upd_ne _ _ (by omega)]; exact h2 i hi
  · rw [upd_ne _ _ (by omega)]; exact h3 i hi
  · rw [upd_ne _ _ (by omega), upd_ne _ _ (by omega)]; exact h4 i hi hi2
  · rw [upd_ne _ _ (by omega)]; exact h5 t ht
  · rw [upd_at]; exact hv
  · rw [upd_ne _ _ (by omega)]; exact h7
theorem refu_ok (ha : a ≤ 4) (hr : HR a b s K p f) {j m : Nat} (hj : j < a) (h1 : 1 ≤ m) (h9 : m ≤ 9) : hrefu f (nI j) (nI m) = 0 := by
  unfold hrefu
  rw [hr.1, if_neg (by rw [inr_mk (by omega) hj]; decide), if_neg (by rw [show (1 : Int32) = nI 1 from rfl, nI_ltI (by omega) (by decide)]; omega), if_neg (by rw [show (9 : Int32) = nI 9 from rfl, nI_ltI (by decide) (by omega)]; omega)]
theorem ppF_at {j : Nat} {n : Int32} (hj : j < 4) : ppF p (nI j) n = if 999 < p j + n then p else upd (upd p j (p j + n)) (8 + j) (p (8 + j) + n) := by
  unfold ppF
  rw [nI_clamp (by omega), show (8 + nI j).toNatClampNeg = 8 + j from cl_add 8 j (by omega)]
theorem plF_at {j : Nat} {n : Int32} (hj : j < 4) : plF K p (nI j) n = if p j < pgr K (nI j) n then p else upd (upd p j (p j - pgr K (nI j) n)) (4 + j) (p (4 + j) + pgr K (nI j) n) := by
  unfold plF
  rw [nI_clamp (by omega), show (4 + nI j).toNatClampNeg = 4 + j from cl_add 4 j (by omega)]
theorem HR_put {c : Nat} (ha : a ≤ 4) (hc : c < 2 ^ 20) (hr : HR a b s K p f) (hp : PG c a b p) {j m : Nat} (hj : j < a) (h1 : 1 ≤ m) (h9 : m ≤ 9) :
    (999 < p j + nI m → hputA f (nI j) (nI m) = -4 ∧ hputF f (nI j) (nI m) = f ∧ ppF p (nI j) (nI m) = p) ∧ (¬ 999 < p j + nI m → hputA f (nI j) (nI m) = p j + nI m ∧ ppF p (nI j) (nI m) j = p j + nI m ∧ HR a b s K (ppF p (nI j) (nI m)) (hputF f (nI j) (nI m)) ∧ PG (c + 1) a b (ppF p (nI j) (nI m)) ∧ ¬ p j + nI m < 0) := by
  have e0 := refu_ok ha hr hj h1 h9
  have e4 := HR_4 hr (j := j) (by omega)
  rw [ppF_at (by omega)]
  unfold hputA hputF
  rw [e0, if_neg z00, if_neg z00, e4]
  constructor
  · intro h
    rw [if_pos h, if_pos h, if_pos h]
    exact ⟨rfl, rfl, rfl⟩
  · intro h
    rw [if_neg h, if_neg h, if_neg h]
    have s1 : hset f (4 + nI j) (p j + nI m) = upd f (4 + j) (p j + nI m) := hsN 4 (by omega)
    have s2 : hcell (upd f (4 + j) (p j + nI m)) (12 + nI j) = p (8 + j) := by
      rw [show (12 : Int32) = nI 12 from rfl, hcN 12 (by omega), upd_ne _ _ (by omega), show 12 + j = 4 + (8 + j) by omega]
      exact hr.2.2.2.1 _ (by omega)
    have s3 : hset (upd f (4 + j) (p j + nI m)) (12 + nI j) (p (8 + j) + nI m) = upd (upd f (4 + j) (p j + nI m)) (4 + (8 + j)) (p (8 + j) + nI m) := by
      rw [show (12 : Int32) = nI 12 from rfl, hsN 12 (by omega), show 12 + j = 4 + (8 + j) by omega]
    rw [s1, s2, s3]
    obtain ⟨x, hx, ex⟩ := hp.1 j (by omega)
    obtain ⟨y, hy, ey⟩ := hp.2.2.1 j (by omega)
    have ee : p j + nI m = nI (x + m) := by rw [ex, nI_add]
    refine ⟨?_, ?_, ?_, ?_, ?_⟩
    · rw [show (4 : Int32) = nI 4 from rfl, hcN 4 (by omega), upd_ne _ _ (by omega), upd_at]
    · rw [upd_ne _ _ (by omega), upd_at]
    · exact HR_upd ha (HR_upd ha hr (by omega) _) (by omega) _
    · have hle : x + m ≤ 999 := by
        rw [ee, show (999 : Int32) = nI 999 from rfl, nI_ltI (by decide) (by omega)] at h
        omega
      rw [ee, show p (8 + j) + nI m = nI (y + m) by rw [ey, nI_add]]
      exact PG_put (PG_lar (PG_mono (Nat.le_succ c) hp) (by omega) hle) ha hj (by omega)
    · rw [ee]; exact nI_pos (by omega)
theorem HR_eat {c : Nat} (ha : a ≤ 4) (hr : HR a b s K p f) (hp : PG c a b p) {j m : Nat} (hj : j < a) (h1 : 1 ≤ m) (h9 : m ≤ 9) :
    (p j < nI m → heatA f (nI j) (nI m) = -3 ∧ heatF f (nI j) (nI m) = f) ∧ (¬ p j < nI m → heatA f (nI j) (nI m) = p j - nI m ∧ HR a b s K (upd p j (p j - nI m)) (heatF f (nI j) (nI m)) ∧ PG c a b (upd p j (p j - nI m)) ∧ ¬ p j - nI m < 0) := by
  have e0 := refu_ok ha hr hj h1 h9
  have e4 := HR_4 hr (j := j) (by omega)
  unfold heatA heatF
  rw [e0, if_neg z00, if_neg z00, e4]
  constructor
  · intro h
    rw [if_pos h, if_pos h]
    exact ⟨rfl, rfl⟩
  · intro h
    rw [if_neg h, if_neg h]
    have sb : p j + -nI m = p j - nI m := by grind
    have s1 : hset f (4 + nI j) (p j - nI m) = upd f (4 + j) (p j - nI m) := hsN 4 (by omega)
    rw [sb, s1]
    obtain ⟨x, hx, ex⟩ := hp.1 j (by omega)
    have hle : m ≤ x := by
      rw [ex, nI_ltI (by omega) (by omega)] at h
      omega
    have ee : p j - nI m = nI (x - m) := by rw [ex, pk_sub hle]
    refine ⟨?_, HR_upd ha hr (by omega) _, ?_, ?_⟩
    · rw [show (4 : Int32) = nI 4 from rfl, hcN 4 (by omega), upd_at]
    · rw [ee]; exact PG_lar hp (by omega) (by omega)
    · rw [ee]; exact nI_pos (by omega)
theorem pgr_at {j m : Nat} (hj : j < 4) (h9 : m ≤ 9) : ∃ g, g ≤ 90 ∧ pgr K (nI j) (nI m) = nI g ∧ (m = 0 → g = 0) := by
  unfold pgr
  rw [nI_clamp (by omega)]
  by_cases h : K j = 3
  · rw [if_pos h]
    exact ⟨10 * m, by omega, by rw [show (10 : Int32) = nI 10 from rfl, pk_mul], fun e => by omega⟩
  · rw [if_neg h]
    exact ⟨m, by omega, rfl, fun e => e⟩
theorem HR_gr (ha : a ≤ 4) (hr : HR a b s K p f) {j : Nat} (hj : j < a) (n : Int32) : n * hgr f (nI j) = pgr K (nI j) n := by
  unfold hgr pgr
  rw [HR_0 ha hr hj, nI_clamp (by omega)]
  by_cases h : K j = 3
  · rw [if_pos h, if_pos h]; grind
  · rw [if_neg h, if_neg h]; grind
theorem HR_lv {c : Nat} (ha : a ≤ 4) (hc : c < 2 ^ 20) (hr : HR a b s K p f) (hp : PG c a b p) {j m : Nat} (hj : j < a) (h1 : 1 ≤ m) (h9 : m ≤ 9) :
    (p j < pgr K (nI j) (nI m) → hlvA f (nI j) (nI m) = -3 ∧ hlvF f (nI j) (nI m) = f ∧ plF K p (nI j) (nI m) = p) ∧ (¬ p j < pgr K (nI j) (nI m) → hlvA f (nI j) (nI m) = p (4 + j) + pgr K (nI j) (nI m) ∧ plF K p (nI j) (nI m) (4 + j) = p (4 + j) + pgr K (nI j) (nI m) ∧ HR a b s K (plF K p (nI j) (nI m)) (hlvF f (nI j) (nI m)) ∧ PG (c + 1) a b (plF K p (nI j) (nI m)) ∧ ¬ p (4 + j) + pgr K (nI j) (nI m) < 0) := by
  have e0 := refu_ok ha hr hj h1 h9
  have e4 := HR_4 hr (j := j) (by omega)
  have eg := HR_gr ha hr hj (nI m)
  rw [plF_at (by omega)]
  unfold hlvA hlvF
  rw [e0, if_neg z00, if_neg z00, e4, eg]
  obtain ⟨g, hg, egr, -⟩ := pgr_at (K := K) (j := j) (m := m) (by omega) h9
  rw [egr]
  constructor
  · intro h
    rw [if_pos h, if_pos h, if_pos h]
    exact ⟨rfl, rfl, rfl⟩
  · intro h
    rw [if_neg h, if_neg h, if_neg h]
    have sb : p j + -nI g = p j - nI g := by grind
    have s1 : hset f (4 + nI j) (p j - nI g) = upd f (4 + j) (p j - nI g) := hsN 4 (by omega)
    have s2 : hcell (upd f (4 + j) (p j - nI g)) (8 + nI j) = p (4 + j) := by
      rw [show (8 : Int32) = nI 8 from rfl, hcN 8 (by omega), upd_ne _ _ (by omega), show 8 + j = 4 + (4 + j) by omega]
      exact hr.2.2.2.1 _ (by omega)
    have s3 : hset (upd f (4 + j) (p j - nI g)) (8 + nI j) (p (4 + j) + nI g) = upd (upd f (4 + j) (p j - nI g)) (4 + (4 + j)) (p (4 + j) + nI g) := by
      rw [show (8 : Int32) = nI 8 from rfl, hsN 8 (by omega), show 8 + j = 4 + (4 + j) by omega]
    rw [sb, s1, s2, s3]
    obtain ⟨x, hx, ex⟩ := hp.1 j (by omega)
    obtain ⟨y, hy, ey⟩ := hp.2.1 j (by omega)
    have hle : g ≤ x := by
      rw [ex, nI_ltI (by omega) (by omega)] at h
      omega
    have ee : p j - nI g = nI (x - g) := by rw [ex, pk_sub hle]
    have e5 : p (4 + j) + nI g = nI (y + g) := by rw [ey, nI_add]
    refine ⟨?_, ?_, ?_, ?_, ?_⟩
    · rw [show (8 : Int32) = nI 8 from rfl, hcN 8 (by omega), show 8 + j = 4 + (4 + j) by omega, upd_at]
    · rw [upd_at]
    · exact HR_upd ha (HR_upd ha hr (by omega) _) (by omega) _
    · rw [ee, e5]
      exact PG_flo (PG_lar (PG_mono (Nat.le_succ c) hp) (by omega) (by omega)) ha hj (by omega)
    · rw [e5]; exact nI_pos (by omega)
theorem HR_ca {c : Nat} (ha : a ≤ 4) (hb : b ≤ 5) (hr : HR a b s K p f) (hp : PG c a b p) {j y : Nat} (hj : j < b) (hy : y < 10) :
    (p (12 + j) = nI y → hcaA f (nI j) (nI y) = -3 ∧ hcaF f (nI j) (nI y) = f) ∧ (¬ p (12 + j) = nI y → hcaA f (nI j) (nI y) = yapart (p (12 + j)) (nI y) ∧ HR a b s K (upd p (12 + j) (nI y)) (hcaF f (nI j) (nI y)) ∧ PG c a b (upd p (12 + j) (nI y)) ∧ ¬ yapart (p (12 + j)) (nI y) < 0) := by
  obtain ⟨x, hx, ex⟩ := inr_nI (n := 10) (by decide) (hp.2.2.2.2.1 j hj)
  obtain ⟨a1, a2, a3⟩ := ap_all hx hy
  have c1 : ¬ inr (nI j) (f 22) = false := by rw [hr.2.1, inr_mk (by omega) hj]; decide
  have c2 : ¬ inr (nI y) 10 = false := by rw [show (10 : Int32) = nI 10 from rfl, inr_mk (by decide) hy]; decide
  unfold hcaA hcaF
  rw [if_neg c1, if_neg c1, if_neg c2, if_neg c2, HR_16 hr (by omega), ex]
  have eq : nI x = nI y ↔ x = y := nI_eq (by omega) (by omega)
  constructor
  · intro h
    have h0 : xabs (nI y - nI x) = 0 := a2.mpr (eq.mp h)
    rw [if_pos h0, if_pos h0]
    exact ⟨rfl, rfl⟩
  · intro h
    have h0 : ¬ xabs (nI y - nI x) = 0 := fun h2 => h (eq.mpr (a2.mp h2))
    rw [if_neg h0, if_neg h0]
    refine ⟨a1, ?_, PG_pla hp hb hj (inr_mk (n := 10) (by decide) hy), a3⟩
    rw [show (16 : Int32) = nI 16 from rfl, hsN 16 (by omega), show 16 + j = 4 + (12 + j) by omega]
    exact HR_upd ha hr (by omega) _
theorem HR_st {c : Nat} (ha : a ≤ 4) (hb : b ≤ 5) (hr : HR a b s K p f) (hp : PG c a b p) {y : Nat} (hy : y < 10) :
    (yhas (p 17) (nI y) = true → hstA f (nI y) = -3 ∧ hstF f (nI y) = f) ∧ (yhas (p 17) (nI y) = false → hstA f (nI y) = ymany (p 17 ||| ((1 : Int32) <<< (nI y &&& 31))) ∧ HR a b s K (spF p (nI y)) (hstF f (nI y)) ∧ PG c a b (spF p (nI y)) ∧ ¬ ymany (p 17 ||| ((1 : Int32) <<< (nI y &&& 31))) < 0) := by
  have i10 : inr (nI y) 10 = true := inr_mk (n := 10) (by decide) hy
  have c2 : ¬ inr (nI y) 10 = false := by rw [i10]; decide
  unfold hstA hstF spF
  rw [if_neg c2, if_neg c2, xy_has i10, hr.2.2.2.2.1]
  obtain ⟨w, hw, ew⟩ := hp.2.2.2.2.2.1
  constructor
  · intro h
    rw [if_neg (by rw [h]; decide), if_neg (by rw [h]; decide)]
    exact ⟨rfl, rfl⟩
  · intro h
    rw [if_pos h, if_pos h]
    obtain ⟨v, hv, ev⟩ := or_all hw hy
    rw [ew, ev, show (26 : Int32) = nI 26 from rfl, hset_at (by decide), upd_at, bc_all hv]
    exact ⟨rfl, HR_upw ha hr _, PG_pow hp hb ⟨v, hv, rfl⟩, many_nn v hv⟩
end
