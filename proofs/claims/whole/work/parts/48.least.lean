/-! least: the class's search against all ways in their order -/
def wN (z : Int32) (x : Nat) : Nat := if z = 1 then 2 * x else if z = 2 then x / 2 else x
def gN (z : Int32) : Nat := if z = 3 then 10 else 1
theorem wN_mono (z : Int32) {x y : Nat} (h : x ≤ y) : wN z x ≤ wN z y := by
  unfold wN
  split
  · omega
  · split <;> omega
theorem wN_up (z : Int32) (x y : Nat) : wN z (x + y) ≤ wN z x + 2 * y := by
  unfold wN
  split
  · omega
  · split <;> omega
theorem gN_le (z : Int32) : gN z ≤ 10 := by
  unfold gN
  split <;> omega
theorem kg_le {k : Nat} (z : Int32) (h : k ≤ 9) : k * gN z ≤ 90 := Nat.mul_le_mul h (gN_le z)
theorem nI_m9 {k : Nat} (hk : k < 2 ^ 31) : ¬ nI k = -9 := fun h => by
  have h2 := nI_pos hk
  rw [h] at h2
  exact h2 (by decide)
theorem lt0_sub {x y : Nat} (hx : x < 2 ^ 30) (hy : y < 2 ^ 30) : 0 < nI x - nI y ↔ y < x := by
  rw [Int32.lt_iff_toInt_lt, pk_sub_toInt hx hy, show (0 : Int32).toInt = 0 from rfl]
  omega
section
variable {K p P Q : Nat → Int32}
theorem pworth_N {j x : Nat} (hj : j < 4) (hx : x < 2 ^ 30) (e : P (4 + j) = nI x) : pworth K P (nI j) = nI (wN (K j) x) := by
  rw [pworth_at hj, e]
  unfold wN
  by_cases h1 : K j = 1
  · rw [if_pos h1, if_pos h1, show (2 : Int32) = nI 2 from rfl, pk_mul]
  · rw [if_neg h1, if_neg h1]
    by_cases h2 : K j = 2
    · rw [if_pos h2, if_pos h2, show (2 : Int32) = nI 2 from rfl, pk_div (by omega) (by decide) (by decide)]
    · rw [if_neg h2, if_neg h2]
theorem pgr_N {j k : Nat} (hj : j < 4) : pgr K (nI j) (nI k) = nI (k * gN (K j)) := by
  unfold pgr gN
  rw [nI_clamp (by omega)]
  by_cases h : K j = 3
  · rw [if_pos h, if_pos h, show (10 : Int32) = nI 10 from rfl, pk_mul, Nat.mul_comm]
  · rw [if_neg h, if_neg h, Nat.mul_one]
theorem pwS_pl {j : Nat} (hj : j < 4) (h : ∀ i, i < 4 → i ≠ j → Q (4 + i) = P (4 + i)) : ∀ k, k ≤ 4 → pwS K Q 15 k = if j < k then pwS K P 15 k + (pworth K Q (nI j) - pworth K P (nI j)) else pwS K P 15 k
  | 0, _ => by rw [if_neg (by omega)]; rfl
  | k + 1, hk => by
    have ih := pwS_pl hj h k (by omega)
    have sQ : ∀ R : Nat → Int32, pwS K R 15 (k + 1) = pwS K R 15 k + pworth K R (nI k) := fun R => by rw [pwS, if_neg (by rw [has15 k (by omega)]; decide)]
    rw [sQ, sQ, ih]
    by_cases e : k = j
    · subst e
      rw [if_neg (by omega), if_pos (by omega)]
      grind
    · have e2 : pworth K Q (nI k) = pworth K P (nI k) := by rw [pworth_at (by omega), pworth_at (by omega), h k (by omega) e]
      rw [e2]
      by_cases l : j < k
      · rw [if_pos l, if_pos (by omega)]; grind
      · rw [if_neg l, if_neg (by omega)]
theorem lvL_S (z n m j : Nat) (s : Int32) : lvL K z n (m + 1) j P s = if P j < pgr K (nI j) (lvD z n j) then (-9, plF K P (nI j) (lvD z n j)) else lvL K z n m (j + 1) (plF K P (nI j) (lvD z n j)) (s + pgr K (nI j) (lvD z n j)) := rfl
theorem lvL_G {z n : Nat} : ∀ (m j : Nat) (P : Nat → Int32) (G : Nat), j + m ≤ 4 → G ≤ 90 * j → (lvL K z n m j P (nI G)).1 = -9 ∨ ∃ G', G ≤ G' ∧ G' ≤ 90 * (j + m) ∧ (lvL K z n m j P (nI G)).1 = nI G'
  | 0, j, P, G, _, h => Or.inr ⟨G, Nat.le_refl G, by omega, rfl⟩
  | m + 1, j, P, G, hj, h => by
    rw [lvL_S]
    have hd : z / 10 ^ (n - 1 - j) % 10 ≤ 9 := by omega
    have e1 : lvD z n j = nI (z / 10 ^ (n - 1 - j) % 10) := rfl
    rw [e1]
    generalize z / 10 ^ (n - 1 - j) % 10 = d at hd
    rw [pgr_N (by omega), nI_add]
    by_cases c : P j < nI (d * gN (K j))
    · rw [if_pos c]; exact Or.inl rfl
    · rw [if_neg c]
      have h9 := kg_le (K j) hd
      rcases lvL_G m (j + 1) (plF K P (nI j) (nI d)) (G + d * gN (K j)) (by omega) (by omega) with e | ⟨G', g1, g2, g3⟩
      · exact Or.inl e
      · exact Or.inr ⟨G', by omega, by omega, g3⟩
theorem leV_G {z n : Nat} (hn : n ≤ 4) : (leV K p n z).1 = -9 ∨ ∃ G', G' ≤ 360 ∧ (leV K p n z).1 = nI G' := by
  have h := lvL_G (K := K) (z := z) (n := n) n 0 p 0 (by omega) (by omega)
  rw [nI_0] at h
  rcases h with e | ⟨G', g1, g2, g3⟩
  · exact Or.inl e
  · exact Or.inr ⟨G', by omega, g3⟩
def bok (b : Int32 × Int32) : Prop := b.1 = -9 ∨ ∃ B, B ≤ 360 ∧ b.1 = nI B
theorem leT_bok {z n : Nat} (hn : n ≤ 4) {b : Int32 × Int32} (hb : bok b) : bok (leT K p n z b) := by
  unfold leT
  rcases leV_G (K := K) (p := p) (z := z) hn with e | ⟨G', g2, g3⟩
  · rw [if_pos e]; exact hb
  · rw [if_neg (by rw [g3]; exact nI_m9 (by omega))]
    have hnew : bok ((leV K p n z).1, nI z) := Or.inr ⟨G', g2, g3⟩
    split
    · split
      · exact hnew
      · split
        · exact hnew
        · exact hb
    · exact hb
theorem leT_no {z n : Nat} {b : Int32 × Int32} (h : (leV K p n z).1 = -9) : leT K p n z b = b := if_pos h
theorem leT_hi {z n B : Nat} {b : Int32 × Int32} (hB : B ≤ 360) (hb : b.1 = nI B) (h : (leV K p n z).1 = -9 ∨ ∃ G', B ≤ G' ∧ G' ≤ 360 ∧ (leV K p n z).1 = nI G') : leT K p n z b = b := by
  rcases h with e | ⟨G', g1, g2, g3⟩
  · exact leT_no e
  · unfold leT
    rw [if_neg (by rw [g3]; exact nI_m9 (by omega))]
    split
    · rw [if_neg (by rw [hb]; exact nI_m9 (by omega)), if_neg (by rw [g3, hb]; exact nI_nlt g1 (by omega))]
    · rfl
def leR (K p : Nat → Int32) (n : Nat) : Nat → Nat → Int32 × Int32 → Int32 × Int32
  | 0, _, b => b
  | m + 1, z, b => leR K p n m (z + 1) (leT K p n z b)
theorem leR_add {n : Nat} : ∀ (m1 m2 z : Nat) (b : Int32 × Int32), leR K p n (m1 + m2) z b = leR K p n m2 (z + m1) (leR K p n m1 z b)
  | 0, m2, z, b => by rw [Nat.zero_add]; rfl
  | m1 + 1, m2, z, b => by
    rw [show m1 + 1 + m2 = (m1 + m2) + 1 by omega, leR, leR_add m1 m2 (z + 1), leR, show z + 1 + m1 = z + (m1 + 1) by omega]
theorem leR_L {n : Nat} : ∀ z, leR K p n z 0 (-9, -9) = leL K p n z
  | 0 => rfl
  | z + 1 => by
    rw [leR_add z 1, leR_L z, Nat.zero_add]
    rfl
theorem leR_id {n : Nat} : ∀ (m z : Nat) (b : Int32 × Int32), (∀ t, t < m → leT K p n (z + t) b = b) → leR K p n m z b = b
  | 0, _, _, _ => rfl
  | m + 1, z, b, h => by
    have h0 := h 0 (by omega)
    rw [Nat.add_zero] at h0
    rw [leR, h0]
    exact leR_id m (z + 1) b (fun t ht => by
      have := h (t + 1) (by omega)
      rw [show z + (t + 1) = z + 1 + t by omega] at this
      exact this)
theorem leR_bok {n : Nat} (hn : n ≤ 4) : ∀ (m z : Nat) (b : Int32 × Int32), bok b → bok (leR K p n m z b)
  | 0, _, _, h => h
  | m + 1, z, b, h => by rw [leR]; exact leR_bok hn m (z + 1) _ (leT_bok hn h)
/-- the ways with the first figures q: what was left by them -/
def lsI (K p : Nat → Int32) (n r q : Nat) (P : Nat → Int32) (G E W0 : Nat) : Prop := (∀ z, z / 10 ^ r = q → leV K p n z = lvL K z n r (n - r) P (nI G)) ∧ (∀ j, n - r ≤ j → j < 4 → P j = p j ∧ P (4 + j) = p (4 + j)) ∧ (∀ j, j < 4 → P (8 + j) = p (8 + j)) ∧ pwS K P 15 n = nI (W0 + E) ∧ G ≤ 90 * (n - r) ∧ E ≤ 180 * (n - r)
theorem lsI_S {n r q G E W0 j k x y : Nat} (hn : n ≤ 4) (hr : r + 1 ≤ n) (hj : n - (r + 1) = j) (h : lsI K p n (r + 1) q P G E W0) (hk : k ≤ 9) (hx : x ≤ 999) (ex : p j = nI x) (hy : y < 2 ^ 20) (ey : p (4 + j) = nI y) (hf : k * gN (K j) ≤ x) : lsI K p n r (10 * q + k) (plF K P (nI j) (nI k)) (G + k * gN (K j)) (E + (wN (K j) (y + k * gN (K j)) - wN (K j) y)) W0 := by
  obtain ⟨h1, h2, h3, h4, h5, h6⟩ := h
  rw [hj] at h1 h2 h5 h6
  have hj4 : j < 4 := by omega
  have h9 := kg_le (K j) hk
  have hu := wN_up (K j) y (k * gN (K j))
  have hm := wN_mono (K j) (show y ≤ y + k * gN (K j) by omega)
  obtain ⟨pj, p4⟩ := h2 j (Nat.le_refl j) hj4
  have no : ¬ P j < pgr K (nI j) (nI k) := by rw [pgr_N hj4, pj, ex]; exact nI_nlt hf (by omega)
  have hQ : plF K P (nI j) (nI k) = upd (upd P j (P j - nI (k * gN (K j)))) (4 + j) (P (4 + j) + nI (k * gN (K j))) := by
    rw [plF_at hj4, if_neg no, pgr_N hj4]
  have q4 : plF K P (nI j) (nI k) (4 + j) = nI (y + k * gN (K j)) := by rw [hQ, upd_at, p4, ey, nI_add]
  refine ⟨fun z hz => ?_, fun i hi hi4 => ?_, fun i hi => ?_, ?_, by omega, by omega⟩
  · have hq : z / 10 ^ (r + 1) = q := by
      rw [Nat.pow_succ, ← Nat.div_div_eq_div_mul, hz]
      omega
    have hD : lvD z n j = nI k := by
      unfold lvD
      rw [show n - 1 - j = r by omega, hz, show (10 * q + k) % 10 = k by omega]
    rw [h1 z hq, lvL_S, hD, if_neg no, pgr_N hj4, nI_add, show n - r = j + 1 by omega]
  · rw [hQ, upd_ne _ _ (by omega), upd_ne _ _ (by omega), upd_ne _ _ (by omega), upd_ne _ _ (by omega)]
    exact h2 i (by omega) hi4
  · rw [hQ, upd_ne _ _ (by omega), upd_ne _ _ (by omega)]
    exact h3 i hi
  · rw [pwS_pl (K := K) (P := P) (Q := plF K P (nI j) (nI k)) hj4 (fun i hi hne => by rw [hQ, upd_ne _ _ (by omega), upd_ne _ _ (by omega)]) n hn, if_pos (by omega), h4, pworth_N hj4 (by omega) q4, pworth_N (x := y) hj4 (by omega) (by rw [p4, ey]), pk_sub hm, nI_add, Nat.add_assoc]
end
section
variable {c a b s : Nat} {K p f : Nat → Int32}
theorem hgr_N (ha : a ≤ 4) (hr : HR a b s K p f) {j : Nat} (hj : j < a) : hgr f (nI j) = nI (gN (K j)) := by
  unfold hgr gN
  rw [HR_0 ha hr hj]
  by_cases h : K j = 3
  · rw [if_pos h, if_pos h]; rfl
  · rw [if_neg h, if_neg h]; rfl
theorem hworth_N (ha : a ≤ 4) (hr : HR a b s K p f) {j x M : Nat} (hj : j < a) (ex : p (4 + j) = nI x) (hx : x + M < 2 ^ 30) : hworth f (nI j) (nI M) = nI (wN (K j) (x + M)) := by
  unfold hworth wN
  rw [HR_0 ha hr hj, HR_8 hr (by omega), ex, nI_add]
  by_cases h1 : K j = 1
  · rw [if_pos h1, if_pos h1, show (2 : Int32) = nI 2 from rfl, pk_mul]
  · rw [if_neg h1, if_neg h1]
    by_cases h2 : K j = 2
    · rw [if_pos h2, if_pos h2, show (2 : Int32) = nI 2 from rfl, pk_div (by omega) (by decide) (by decide)]
    · rw [if_neg h2, if_neg h2]
set_option maxHeartbeats 4000000 in
theorem ls_main (ha : a ≤ 4) (hr : HR a b s K p f) (hp : PG c a b p) (hc : c ≤ 600) {D W0 : Nat} (hD : D ≤ 2160) (eD : pdue p = nI D) (hW : W0 ≤ 432000) : ∀ (r q : Nat) (P : Nat → Int32) (G E : Nat) (bb : Int32 × Int32), r ≤ a → lsI K p a r q P G E W0 → bok bb → (bb.1 = -9 ∨ ∃ B, B ≤ 360 ∧ G < B ∧ bb.1 = nI B) → lsF f a r (nI (D - W0) - nI E) (nI G) (nI q) bb = leR K p a (10 ^ r) (q * 10 ^ r) bb := by
  intro r
  induction r with
  | zero =>
    intro q P G E bb _ hI hb hB
    obtain ⟨h1, h2, h3, h4, h5, h6⟩ := hI
    have hz : leV K p a q = (nI G, P) := h1 q (by rw [Nat.pow_zero, Nat.div_one])
    rw [lsF, Nat.pow_zero, Nat.mul_one]
    show _ = leT K p a q bb
    have hd : pdue P = nI D := by
      rw [← eD]
      unfold pdue
      rw [show P 8 = p 8 from h3 0 (by decide), show P 9 = p 9 from h3 1 (by decide), show P 10 = p 10 from h3 2 (by decide), show P 11 = p 11 from h3 3 (by decide)]
    have hw : pwo K P (nI a) 15 = nI (W0 + E) := by
      unfold pwo
      rw [nI_clamp (by omega), h4]
    have hs : pshort K P (nI a) = 0 ↔ ¬ 0 < nI (D - W0) - nI E := by
      have l1 := lt0_sub (x := D) (y := W0 + E) (by omega) (by omega)
      unfold pshort
      rw [hd, hw, lt0_sub (x := D - W0) (y := E) (by omega) (by omega)]
      by_cases l : W0 + E < D
      · rw [if_pos (l1.mpr l), pk_sub (by omega)]
        constructor
        · intro h
          exact absurd h (nI_ne0 (by omega) (by omega))
        · intro h
          omega
      · rw [if_neg (fun h => l (l1.mp h))]
        constructor
        · intro _
          omega
        · intro _
          rfl
    unfold leT
    rw [hz]
    show _ = if nI G = -9 then bb else if pshort K P (nI a) = 0 then (if bb.1 = -9 then (nI G, nI q) else if nI G < bb.1 then (nI G, nI q) else bb) else bb
    rw [if_neg (nI_m9 (by omega))]
    by_cases l : 0 < nI (D - W0) - nI E
    · rw [if_pos l, if_neg (fun h => hs.mp h l)]
    · rw [if_neg l, if_pos (hs.mpr l)]
      rcases hB with e | ⟨B, b1, b2, b3⟩
      · rw [if_pos e]
      · rw [if_neg (by rw [b3]; exact nI_m9 (by omega)), if_pos (by rw [b3]; exact nI_lt b2 (by omega))]
  | succ r IH =>
    intro q P G E bb hra hI hb _
    generalize hj : a - (r + 1) = j
    have hja : j < a := by omega
    obtain ⟨x, hx, ex⟩ := hp.1 j (by omega)
    obtain ⟨y, hy, ey⟩ := hp.2.1 j (by omega)
    have hy2 : y < 2 ^ 20 := by omega
    have hG : G ≤ 90 * j := by rw [← hj]; exact hI.2.2.2.2.1
    have hg10 := gN_le (K j)
    have e4 : hcell f (4 + nI j) = nI x := (HR_4 hr (by omega)).trans ex
    have w0 : hworth f (nI j) 0 = nI (wN (K j) y) := hworth_N (M := 0) ha hr hja ey (by omega)
    have pos : 0 < 10 ^ r := Nat.pow_pos (by decide)
    have inner : ∀ (m k : Nat) (bb : Int32 × Int32), k + m = 10 → bok bb → lsL f (nI j) (lsF f a r) (nI (D - W0) - nI E) (nI G) (nI q) m k bb = leR K p a (m * 10 ^ r) ((10 * q + k) * 10 ^ r) bb := by
      intro m
      induction m with
      | zero =>
        intro k bb _ _
        rw [lsL, Nat.zero_mul]
        rfl
      | succ m ih =>
        intro k bb hk hb
        have h9 := kg_le (K j) (show k ≤ 9 by omega)
        rw [lsL, hgr_N ha hr hja, pk_mul, nI_add, e4, w0, hworth_N (M := k * gN (K j)) ha hr hja ey (by omega)]
        by_cases C : (¬ bb.1 = -9 ∧ ¬ nI (G + k * gN (K j)) < bb.1) ∨ nI x < nI (k * gN (K j))
        · rw [if_pos C]
          refine (leR_id _ _ _ (fun t ht => ?_)).symm
          have hdv : ((10 * q + k) * 10 ^ r + t) / 10 ^ r = 10 * q + k + t / 10 ^ r := by
            rw [Nat.mul_comm (10 * q + k), Nat.mul_add_div pos]
          have htm : t / 10 ^ r < m + 1 := (Nat.div_lt_iff_lt_mul pos).mpr ht
          generalize (10 * q + k) * 10 ^ r + t = z at hdv
          generalize t / 10 ^ r = u at hdv htm
          have hq : z / 10 ^ (r + 1) = q := by
            rw [Nat.pow_succ, ← Nat.div_div_eq_div_mul, hdv]
            omega
          have hDg : lvD z a j = nI (k + u) := by
            unfold lvD
            rw [show a - 1 - j = r by omega, hdv, show (10 * q + k + u) % 10 = k + u by omega]
          have pj : P j = nI x := by rw [(hI.2.1 j (by omega) (by omega)).1, ex]
          have hV : leV K p a z = if nI x < nI ((k + u) * gN (K j)) then (-9, plF K P (nI j) (nI (k + u))) else lvL K z a r (j + 1) (plF K P (nI j) (nI (k + u))) (nI (G + (k + u) * gN (K j))) := by
            rw [hI.1 z hq, hj, lvL_S, hDg, pgr_N (by omega), pj, nI_add]
          have h9u := kg_le (K j) (show k + u ≤ 9 by omega)
          have hle : k * gN (K j) ≤ (k + u) * gN (K j) := Nat.mul_le_mul_right _ (by omega)
          rcases C with ⟨c1, c2⟩ | c3
          · rcases hb with e | ⟨B, b1, b2⟩
            · exact absurd e c1
            · have hB : B ≤ G + k * gN (K j) := by
                rw [b2, nI_ltI (by omega) (by omega)] at c2
                omega
              refine leT_hi b1 b2 ?_
              rw [hV]
              by_cases c4 : nI x < nI ((k + u) * gN (K j))
              · rw [if_pos c4]; exact Or.inl rfl
              · rw [if_neg c4]
                rcases lvL_G (K := K) (z := z) (n := a) r (j + 1) (plF K P (nI j) (nI (k + u))) (G + (k + u) * gN (K j)) (by omega) (by omega) with e | ⟨G', g1, g2, g3⟩
                · exact Or.inl e
                · exact Or.inr ⟨G', by omega, by omega, g3⟩
          · refine leT_no ?_
            rw [hV]
            have c4 : nI x < nI ((k + u) * gN (K j)) := by
              rw [nI_ltI (by omega) (by omega)] at c3 ⊢
              omega
            rw [if_pos c4]
        · rw [if_neg C]
          have hf : k * gN (K j) ≤ x := by
            have this : ¬ nI x < nI (k * gN (K j)) := fun h => C (Or.inr h)
            rw [nI_ltI (by omega) (by omega)] at this
            omega
          have hm := wN_mono (K j) (show y ≤ y + k * gN (K j) by omega)
          have hI2 := lsI_S ha hra hj hI (show k ≤ 9 by omega) hx ex hy2 ey hf
          have hB : bb.1 = -9 ∨ ∃ B, B ≤ 360 ∧ G + k * gN (K j) < B ∧ bb.1 = nI B := by
            rcases hb with e | ⟨B, b1, b2⟩
            · exact Or.inl e
            · refine Or.inr ⟨B, b1, ?_, b2⟩
              have this : nI (G + k * gN (K j)) < bb.1 := Classical.byContradiction (fun h => C (Or.inl ⟨by rw [b2]; exact nI_m9 (by omega), h⟩))
              rw [b2, nI_ltI (by omega) (by omega)] at this
              exact this
          have e1 : nI (D - W0) - nI E - (nI (wN (K j) (y + k * gN (K j))) - nI (wN (K j) y)) = nI (D - W0) - nI (E + (wN (K j) (y + k * gN (K j)) - wN (K j) y)) := by
            rw [pk_sub hm, ← nI_add]
            grind
          have e2 : 10 * nI q + nI k = nI (10 * q + k) := by rw [show (10 : Int32) = nI 10 from rfl, pk_mul, nI_add]
          rw [e1, e2, IH (10 * q + k) _ _ _ bb (by omega) hI2 hb hB, ih (k + 1) _ (by omega) (leR_bok ha _ _ _ hb), show (m + 1) * 10 ^ r = 10 ^ r + m * 10 ^ r by rw [Nat.add_mul, Nat.one_mul, Nat.add_comm], leR_add, show (10 * q + k) * 10 ^ r + 10 ^ r = (10 * q + (k + 1)) * 10 ^ r by rw [← Nat.add_assoc, Nat.add_mul (10 * q + k) 1, Nat.one_mul]]
    rw [lsF, hj, inner 10 0 bb rfl hb, Nat.add_zero, Nat.pow_succ, Nat.mul_comm 10 (10 ^ r), show 10 * q * 10 ^ r = q * (10 ^ r * 10) by rw [Nat.mul_comm 10 q, Nat.mul_assoc, Nat.mul_comm 10 (10 ^ r)]]
theorem ls_eq (ha : a ≤ 4) (hr : HR a b s K p f) (hp : PG c a b p) (hc : c ≤ 600) : lsB f = leB K p (nI a) := by
  obtain ⟨D, hD, eD⟩ := pd_N hp hc
  obtain ⟨W0, hW, eW⟩ := pwS_N (K := K) hp hc 15 a ha
  have hS : hshort f = nI (D - W0) - nI 0 := by
    rw [HR_short ha hr hp]
    unfold pshort pwo
    have l1 := lt0_sub (x := D) (y := W0) (by omega) (by omega)
    rw [nI_clamp (by omega), eW, eD]
    by_cases l : W0 < D
    · rw [if_pos (l1.mpr l), pk_sub (by omega), pk_sub (by omega), Nat.sub_zero]
    · rw [if_neg (fun h => l (l1.mp h)), show D - W0 = 0 by omega, pk_sub (by omega)]; rfl
  unfold lsB leB
  rw [hr.1, nI_clamp (by omega), hS]
  have hI : lsI K p a a 0 p 0 0 W0 := by
    refine ⟨fun z _ => ?_, fun _ _ _ => ⟨rfl, rfl⟩, fun _ _ => rfl, ?_, by omega, by omega⟩
    · rw [Nat.sub_self]; rfl
    · rw [eW, Nat.add_zero]
  have h := ls_main ha hr hp hc hD eD (by omega) a 0 p 0 0 (-9, -9) (Nat.le_refl a) hI (Or.inl rfl) (Or.inl rfl)
  rw [Nat.zero_mul, leR_L] at h
  exact h
end
