/-! share: the other side's answer, and that it stays small -/
theorem yh_f (r q : Int32) : yhas r q = false ↔ (r >>> (q &&& 31)) &&& 1 = 0 := by
  unfold yhas
  rcases and1 (r >>> (q &&& 31)) with e | e <;> rw [e] <;> decide
section
variable {c a b s : Nat} {K p f : Nat → Int32}
theorem HR_woS (ha : a ≤ 4) (hr : HR a b s K p f) (x : Int32) : ∀ k, k ≤ a → xwoS f x k = pwS K p x k
  | 0, _ => rfl
  | k + 1, hk => by
    rw [xwoS, pwS, HR_woS ha hr x k (by omega), HR_worth ha hr (by omega)]
    by_cases h : yhas x (nI k) = false
    · rw [if_pos h, if_pos ((yh_f _ _).mp h)]; grind
    · rw [if_neg h, if_neg (fun q => h ((yh_f _ _).mpr q))]
theorem HR_wos (ha : a ≤ 4) (hr : HR a b s K p f) (x : Int32) : xwos f x = pwo K p (nI a) x := by
  unfold xwos pwo
  rw [hr.1, nI_clamp (by omega), HR_woS ha hr x a (Nat.le_refl a)]
theorem or_hasB : (List.range 16).all (fun s => (List.range 4).all (fun q => (List.range 4).all (fun k => yhas (nI s ||| ((1 : Int32) <<< (nI q &&& 31))) (nI k) == (yhas (nI s) (nI k) || decide (k = q))))) = true := by decide +kernel
theorem or_has {s q k : Nat} (hs : s < 16) (hq : q < 4) (hk : k < 4) : yhas (nI s ||| ((1 : Int32) <<< (nI q &&& 31))) (nI k) = (yhas (nI s) (nI k) || decide (k = q)) := by
  have h := List.all_eq_true.mp (List.all_eq_true.mp (List.all_eq_true.mp or_hasB s (List.mem_range.mpr hs)) q (List.mem_range.mpr hq)) k (List.mem_range.mpr hk)
  exact beq_iff_eq.mp h
theorem pwS_or {x q : Nat} (hx : x < 16) (hq : q < 4) (hf : yhas (nI x) (nI q) = false) : ∀ k, k ≤ 4 → pwS K p (nI x ||| ((1 : Int32) <<< (nI q &&& 31))) k = if q < k then pwS K p (nI x) k + pworth K p (nI q) else pwS K p (nI x) k
  | 0, _ => by rw [if_neg (by omega)]; rfl
  | k + 1, hk => by
    have ih := pwS_or hx hq hf k (by omega)
    rw [pwS, pwS, or_has hx hq (by omega), ih]
    by_cases e : k = q
    · subst e
      rw [hf, decide_eq_true rfl, if_neg (by decide), if_pos rfl, if_neg (by omega), if_pos (by omega)]
      grind
    · rw [decide_eq_false e, Bool.or_false]
      by_cases h : yhas (nI x) (nI k) = false
      · rw [if_pos h, if_pos h]
        by_cases l : q < k
        · rw [if_pos l, if_pos (by omega)]; grind
        · rw [if_neg l, if_neg (by omega)]
      · rw [if_neg h, if_neg h]
        by_cases l : q < k
        · rw [if_pos l, if_pos (by omega)]; grind
        · rw [if_neg l, if_neg (by omega)]
theorem pwo_or (ha : a ≤ 4) {x q : Nat} (hx : x < 16) (hq : q < a) (hf : yhas (nI x) (nI q) = false) : pwo K p (nI a) (nI x ||| ((1 : Int32) <<< (nI q &&& 31))) = pwo K p (nI a) (nI x) + pworth K p (nI q) := by
  unfold pwo
  rw [nI_clamp (by omega), pwS_or hx (by omega) hf a ha, if_pos hq]
theorem pw_N (hp : PG c a b p) (hc : c ≤ 600) {j : Nat} (hj : j < 4) : ∃ v, v ≤ 108000 ∧ pworth K p (nI j) = nI v := by
  obtain ⟨x, hx, ex⟩ := hp.2.1 j hj
  rw [pworth_at hj, ex]
  by_cases h1 : K j = 1
  · rw [if_pos h1, show (2 : Int32) = nI 2 from rfl, pk_mul]; exact ⟨2 * x, by omega, rfl⟩
  · rw [if_neg h1]
    by_cases h2 : K j = 2
    · rw [if_pos h2, show (2 : Int32) = nI 2 from rfl, pk_div (by omega) (by decide) (by decide)]; exact ⟨x / 2, by omega, rfl⟩
    · rw [if_neg h2]; exact ⟨x, by omega, rfl⟩
theorem pwS_N (hp : PG c a b p) (hc : c ≤ 600) (x : Int32) : ∀ k, k ≤ 4 → ∃ v, v ≤ 108000 * k ∧ pwS K p x k = nI v
  | 0, _ => ⟨0, by omega, rfl⟩
  | k + 1, hk => by
    obtain ⟨v, hv, ev⟩ := pwS_N hp hc x k (by omega)
    obtain ⟨u, hu, eu⟩ := pw_N (K := K) hp hc (j := k) (by omega)
    rw [pwS]
    by_cases h : yhas x (nI k) = false
    · rw [if_pos h, ev]; exact ⟨v, by omega, by grind⟩
    · rw [if_neg h, ev, eu, nI_add]; exact ⟨v + u, by omega, rfl⟩
theorem pd_N (hp : PG c a b p) (hc : c ≤ 600) : ∃ v, v ≤ 2160 ∧ pdue p = nI v := by
  obtain ⟨x0, h0, e0⟩ := hp.2.2.1 0 (by decide)
  obtain ⟨x1, h1, e1⟩ := hp.2.2.1 1 (by decide)
  obtain ⟨x2, h2, e2⟩ := hp.2.2.1 2 (by decide)
  obtain ⟨x3, h3, e3⟩ := hp.2.2.1 3 (by decide)
  unfold pdue
  rw [show p 8 = nI x0 from e0, show p 9 = nI x1 from e1, show p 10 = nI x2 from e2, show p 11 = nI x3 from e3, nI_add, nI_add, nI_add, show (10 : Int32) = nI 10 from rfl, pk_div (by omega) (by decide) (by decide)]
  exact ⟨(x0 + x1 + x2 + x3) / 10, by omega, rfl⟩
theorem fac_N : ∀ k, k < 5 → ∃ v, v ≤ 24 ∧ 0 < v ∧ xfac (nI k) = nI v := by
  intro k hk
  rcases (show k = 0 ∨ k = 1 ∨ k = 2 ∨ k = 3 ∨ k = 4 by omega) with e | e | e | e | e <;> subst e
  · exact ⟨1, by decide, by decide, by decide⟩
  · exact ⟨1, by decide, by decide, by decide⟩
  · exact ⟨2, by decide, by decide, by decide⟩
  · exact ⟨6, by decide, by decide, by decide⟩
  · exact ⟨24, by decide, by decide, by decide⟩
theorem shV_N (ha : a ≤ 4) (hp : PG c a b p) (hc : c ≤ 600) {D : Nat} (hD : D ≤ 2160) (eD : pdue p = nI D) (x : Int32) : ∃ v, v ≤ 432000 ∧ pwo K p (nI a) x = nI v ∧ shV K p (nI a) x = nI (min v D) := by
  obtain ⟨v, hv, ev⟩ := pwS_N (K := K) hp hc x a ha
  have e1 : pwo K p (nI a) x = nI v := by unfold pwo; rw [nI_clamp (by omega)]; exact ev
  refine ⟨v, by omega, e1, ?_⟩
  unfold shV
  rw [e1, eD]
  by_cases h : v < D
  · rw [if_pos (nI_lt h (by omega)), Nat.min_eq_left (by omega)]
  · rw [if_neg (nI_nlt (by omega) (by omega)), Nat.min_eq_right (by omega)]
theorem shS_N (ha : a ≤ 4) (hp : PG c a b p) (hc : c ≤ 600) {q : Nat} (hq : q < a) : ∀ x, x ≤ 2 ^ a → ∃ v, v ≤ 1244160 * x ∧ shS K p (nI a) (nI q) x = nI v
  | 0, _ => ⟨0, by omega, rfl⟩
  | x + 1, hx => by
    obtain ⟨v, hv, ev⟩ := shS_N ha hp hc hq x (by omega)
    have h16 : x < 16 := by
      have := Nat.pow_le_pow_right (show 0 < 2 by decide) ha
      omega
    rw [shS]
    by_cases h : yhas (nI x) (nI q) = false
    · rw [if_pos h, ev]
      obtain ⟨i1, i2, -, -, -⟩ := sh_fin a (by omega) x h16 q (by omega) (by omega) hq h
      obtain ⟨k1, hk1, e1⟩ := inr_nI (n := 5) (by decide) i1
      obtain ⟨k2, hk2, e2⟩ := inr_nI (n := 5) (by decide) i2
      obtain ⟨D, hD, eD⟩ := pd_N hp hc
      obtain ⟨w, hw, ew, es⟩ := shV_N (K := K) ha hp hc hD eD (nI x)
      obtain ⟨u, hu, eu⟩ := pw_N (K := K) hp hc (j := q) (by omega)
      obtain ⟨w2, hw2, ew2, es2⟩ := shV_N (K := K) ha hp hc hD eD (nI x ||| ((1 : Int32) <<< (nI q &&& 31)))
      rw [pwo_or ha h16 hq h, ew, eu, nI_add, nI_eq (by omega) (by omega)] at ew2
      obtain ⟨f1, hf1, -, ef1⟩ := fac_N k1 hk1
      obtain ⟨f2, hf2, -, ef2⟩ := fac_N k2 hk2
      rw [es, es2, e1]
      rw [e1] at e2
      rw [e2, ef1, ef2, pk_mul, pk_sub (by omega), pk_mul, nI_add]
      refine ⟨_, ?_, rfl⟩
      have m1 : f1 * f2 ≤ 24 * 24 := Nat.mul_le_mul hf1 hf2
      have m2 : f1 * f2 * (min w2 D - min w D) ≤ 24 * 24 * 2160 := Nat.mul_le_mul m1 (by omega)
      omega
    · rw [if_neg h]; exact ⟨v, by omega, ev⟩
theorem sh_fr (ha : a ≤ 4) (hp : PG c a b p) (hc : c ≤ 600) (q : Int32) (h : inr q (nI a) = true) : frOk (shS K p (nI a) q (2 ^ (nI a).toNatClampNeg)) (xfac (nI a)) := by
  obtain ⟨j, hj, rfl⟩ := inr_nI (by omega) h
  rw [nI_clamp (by omega)]
  obtain ⟨v, hv, ev⟩ := shS_N (K := K) ha hp hc hj (2 ^ a) (Nat.le_refl _)
  obtain ⟨f, hf, hf0, ef⟩ := fac_N a (by omega)
  have := Nat.pow_le_pow_right (show 0 < 2 by decide) ha
  exact ⟨v, f, by omega, hf0, by omega, ev, ef⟩
set_option maxHeartbeats 4000000 in
theorem sh_X (d : Nat) (I : Nat → Int32) (F : Nat → Nat → Int32) (sd : Int64) (ha : a ≤ 4) (hr : HR a b s K p (F 4)) (hp : PG c a b p) (hc : c ≤ 600) (q u : Int32) : pm_run mt (d + 5) 87 [.ref 0, .int q, .int u] (hX I F sd) = some (some (.int (shA K p (nI a) q u)), hX I F sd) := by
  rw [en_X7_share_0, tr_X7_share_0_0, hr.1]
  simp only [bI_0]
  unfold shA
  cases hq : inr q (nI a)
  · rw [if_pos rfl, if_pos rfl]
  rw [if_neg (by decide), if_neg (by decide)]
  have hfr := sh_fr (K := K) ha hp hc q hq
  obtain ⟨j, hj, rfl⟩ := inr_nI (by omega) hq
  rw [nI_clamp (by omega)] at hfr ⊢
  have e2 : ((1 : Int32) <<< (nI a &&& 31)) = nI (2 ^ a) := pw2 a (by omega)
  have h16 : 2 ^ a ≤ 16 := Nat.pow_le_pow_right (show 0 < 2 by decide) ha
  have key : ∀ (m x : Nat) (o6 o7 o8 o9 : Option Value), x + m = 2 ^ a → pm_EV (pm_run mt (d + 4)) (some .int) oX7_share (15, [some (.ref 0), some (.int (nI j)), some (.int u), some (.int (nI a)), some (.int (shS K p (nI a) (nI j) x)), some (.int (nI x)), o6, o7, o8, o9], [], hX I F sd) = some (some (.int (xtold (shS K p (nI a) (nI j) (2 ^ a)) (xfac (nI a)) u)), hX I F sd) := by
    intro m
    induction m with
    | zero =>
      intro x o6 o7 o8 o9 hx
      obtain rfl : x = 2 ^ a := by omega
      have no : ¬ nI (2 ^ a) < ((1 : Int32) <<< (nI a &&& 31)) := by rw [e2]; exact nI_nlt (Nat.le_refl _) (by omega)
      rw [tr_X7_share_0_15 d I F sd _ _ _ _ _ _ _ _ _ (fun h => absurd h no) (fun h => absurd h no) (fun _ => inr_mk (n := 5) (by decide) (by omega)) (fun _ => hfr), if_neg no]
    | succ m ih =>
      intro x o6 o7 o8 o9 hx
      have ys : nI x < ((1 : Int32) <<< (nI a &&& 31)) := by rw [e2]; exact nI_lt (by omega) (by omega)
      have fin := fun h : yhas (nI x) (nI j) = false => sh_fin a (by omega) x (by omega) j (by omega) (by omega) hj h
      have ebc : jbc (nI x) = ymany (nI x) := bc_all (by omega)
      rw [tr_X7_share_0_15 d I F sd _ _ _ _ _ _ _ _ _ (fun _ h => by rw [ebc]; exact (fin ((yh_f _ _).mpr h)).1) (fun _ h => by rw [ebc]; exact (fin ((yh_f _ _).mpr h)).2.1) (fun h => absurd ys h) (fun h => absurd ys h), if_pos ys, nI_p1]
      by_cases h : yhas (nI x) (nI j) = false
      · rw [if_pos ((yh_f _ _).mp h)]
        have hs : shS K p (nI a) (nI j) (x + 1) = shS K p (nI a) (nI j) x + xfac (jbc (nI x)) * xfac (nI a - 1 - jbc (nI x)) * ((if xwos (F 4) (nI x) + hworth (F 4) (nI j) 0 < hdue (F 4) then xwos (F 4) (nI x) + hworth (F 4) (nI j) 0 else hdue (F 4)) - if xwos (F 4) (nI x) < hdue (F 4) then xwos (F 4) (nI x) else hdue (F 4)) := by
          rw [shS, if_pos h, HR_wos ha hr, HR_worth ha hr hj, HR_due ha hr hp, ebc]
          unfold shV
          rw [pwo_or ha (by omega) hj h]
        rw [← hs]
        exact ih (x + 1) _ _ _ _ (by omega)
      · rw [if_neg (fun q => h ((yh_f _ _).mpr q))]
        have hs : shS K p (nI a) (nI j) (x + 1) = shS K p (nI a) (nI j) x := by rw [shS, if_neg h]
        rw [← hs]
        exact ih (x + 1) _ _ _ _ (by omega)
  exact key (2 ^ a) 0 none none none none (by omega)
end
