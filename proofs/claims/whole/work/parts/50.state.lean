/-! the whole state of both, held against each other -/
def row21 (g : Nat → Int32) (i : Nat) : Nat → Int32 := fun j => g (21 * i + j)
def row28 (g : Nat → Int32) (i : Nat) : Nat → Int32 := fun j => g (28 * i + j)
def TXr (n m : Int32) (f g : Nat → Int32) : Prop := txOk n ∧ m = n ∧ g = f
def MNr (c a b s : Nat) (j4 j5 j7 : Int32) (K p f : Nat → Int32) : Prop := a ≤ 4 ∧ b ≤ 5 ∧ s ≤ 9 ∧ j4 = nI s ∧ j5 = nI a ∧ j7 = nI b ∧ HR a b s K p f ∧ PG c a b p
def PSr (c a b s : Nat) (i1 i2 j17 : Int32) (K bk rw : Nat → Int32) : Prop := ∃ fs sz, fs < 15 ∧ sz ≤ 14 ∧ i1 = nI fs ∧ i2 = nI sz ∧ j17 = nI sz ∧ ∀ i, i < sz → HR a b s K (row21 bk i) (row28 rw ((fs + i) % 15)) ∧ PG c a b (row21 bk i)
def SLr (c a b s : Nat) (i3 : Int32) (K kp fl rw : Nat → Int32) : Prop := (∃ t, t < 4 ∧ i3 = nI t) ∧ ∀ k, k < 2 → ((i3 >>> (nI k &&& 31)) &&& 1 = 0 ↔ fl k = 0) ∧ (¬ fl k = 0 → HR a b s K (row21 kp k) (row28 rw k) ∧ PG c a b (row21 kp k))
def SDr (i4 i5 i6 j20 : Int32) (A B : Nat → Int32) : Prop := ∃ n, n ≤ 6 ∧ i4 = nI n ∧ j20 = nI n ∧ (∀ i, i < n → inr (A i) 10 = true) ∧ i5 = sdyM A B n ∧ i6 = sdnM A B n
def QG (c : Nat) (v : Int32) : Prop := ∃ x, x ≤ c ∧ v = nI x
def QR (c : Nat) (p bk kp : Nat → Int32) : Prop := QG c (p 20) ∧ (∀ i, i < 14 → QG c (bk (21 * i + 20))) ∧ ∀ k, k < 2 → QG c (kp (21 * k + 20))
def SR (c : Nat) (I : Nat → Int32) (F : Nat → Nat → Int32) (J : Nat → Int32) (G : Nat → Nat → Int32) : Prop := ∃ a b s, QR c (G 5) (G 7) (G 8) ∧ TXr (I 0) (J 2) (F 2) (G 1) ∧ MNr c a b s (J 4) (J 5) (J 7) (G 2) (G 5) (F 4) ∧ PSr c a b s (I 1) (I 2) (J 17) (G 2) (G 7) (F 8) ∧ SLr c a b s (I 3) (G 2) (G 8) (G 9) (F 10) ∧ SDr (I 4) (I 5) (I 6) (J 20) (G 10) (G 11)
section
variable {c a b s : Nat} {K p f bk rw kp fl : Nat → Int32} {i1 i2 i3 j17 : Int32}
theorem QG_up {v : Int32} (h : QG c v) : QG (c + 1) v := by
  obtain ⟨x, hx, e⟩ := h
  exact ⟨x, by omega, e⟩
theorem QR_up (h : QR c p bk kp) : QR (c + 1) p bk kp := ⟨QG_up h.1, fun i hi => QG_up (h.2.1 i hi), fun k hk => QG_up (h.2.2 k hk)⟩
theorem MN_up {j4 j5 j7 : Int32} (h : MNr c a b s j4 j5 j7 K p f) : MNr (c + 1) a b s j4 j5 j7 K p f := by
  obtain ⟨h1, h2, h3, h4, h5, h6, h7, h8⟩ := h
  exact ⟨h1, h2, h3, h4, h5, h6, h7, PG_mono (Nat.le_succ c) h8⟩
theorem PS_up (h : PSr c a b s i1 i2 j17 K bk rw) : PSr (c + 1) a b s i1 i2 j17 K bk rw := by
  obtain ⟨fs, sz, h1, h2, h3, h4, h5, h6⟩ := h
  exact ⟨fs, sz, h1, h2, h3, h4, h5, fun i hi => ⟨(h6 i hi).1, PG_mono (Nat.le_succ c) (h6 i hi).2⟩⟩
theorem SL_up (h : SLr c a b s i3 K kp fl rw) : SLr (c + 1) a b s i3 K kp fl rw := by
  obtain ⟨h1, h2⟩ := h
  exact ⟨h1, fun k hk => ⟨(h2 k hk).1, fun q => ⟨((h2 k hk).2 q).1, PG_mono (Nat.le_succ c) ((h2 k hk).2 q).2⟩⟩⟩
theorem sto_in {f g : Nat → Int32} {N : Int32} {n z : Nat} (hN : N = nI n) (hn : n ≤ 15) (hz : z < n) : hsto f g N (nI z) = va_cpy f g 0 (28 * z) 28 := by
  unfold hsto
  rw [hN, if_neg (nI_pos (by omega)), if_pos (nI_lt hz (by omega)), show nI z * 28 = nI (28 * z) by rw [show (28 : Int32) = nI 28 from rfl, pk_mul, Nat.mul_comm], nI_clamp (by omega)]
theorem fet_in {f g : Nat → Int32} {N : Int32} {n z : Nat} (hN : N = nI n) (hn : n ≤ 15) (hz : z < n) {j : Nat} (hj : j < 28) : hfet g f N (nI z) j = row28 g z j := by
  unfold hfet row28
  rw [hN, if_neg (nI_pos (by omega)), if_pos (nI_lt hz (by omega)), show nI z * 28 = nI (28 * z) by rw [show (28 : Int32) = nI 28 from rfl, pk_mul, Nat.mul_comm], nI_clamp (by omega), pk_cpy_in (by omega) (by omega), Nat.sub_zero]
theorem r28_at {f g : Nat → Int32} {z j : Nat} (hj : j < 28) : row28 (va_cpy f g 0 (28 * z) 28) z j = f j := by
  unfold row28
  rw [pk_cpy_in (by omega) (by omega), Nat.zero_add, show 28 * z + j - 28 * z = j by omega]
theorem r28_ne {f g : Nat → Int32} {z i j : Nat} (hj : j < 28) (h : i ≠ z) : row28 (va_cpy f g 0 (28 * z) 28) i j = row28 g i j := by
  unfold row28
  rw [pk_cpy_out]
  rcases Nat.lt_or_gt_of_ne h with l | l
  · left; omega
  · right; omega
theorem r21_at {f g : Nat → Int32} {z j : Nat} (hj : j < 21) : row21 (va_cpy f g 0 (21 * z) 21) z j = f j := by
  unfold row21
  rw [pk_cpy_in (by omega) (by omega), Nat.zero_add, show 21 * z + j - 21 * z = j by omega]
theorem r21_ne {f g : Nat → Int32} {z i j : Nat} (hj : j < 21) (h : i ≠ z) : row21 (va_cpy f g 0 (21 * z) 21) i j = row21 g i j := by
  unfold row21
  rw [pk_cpy_out]
  rcases Nat.lt_or_gt_of_ne h with l | l
  · left; omega
  · right; omega
theorem pn_N {x y : Nat} (h : x + y < 2 ^ 31) : pnext (nI x) (nI y) = nI ((x + y) % 15) := by
  unfold pnext
  rw [nI_add, show (15 : Int32) = nI 15 from rfl, pk_rem h (by decide) (by decide)]
theorem PS_ref (ha : a ≤ 4) (h : PSr c a b s i1 i2 j17 K bk rw) (f : Nat → Int32) : PSr c a b s i1 i2 j17 K bk (hsto f rw 15 (pnext i1 i2)) := by
  obtain ⟨fs, sz, h1, h2, e1, e2, e3, hh⟩ := h
  refine ⟨fs, sz, h1, h2, e1, e2, e3, fun i hi => ?_⟩
  obtain ⟨q1, q2⟩ := hh i hi
  refine ⟨HR_c28 ha (fun j hj => ?_) q1, q2⟩
  rw [e1, e2, pn_N (by omega), sto_in (N := 15) (n := 15) rfl (by omega) (Nat.mod_lt _ (by omega)), r28_ne hj (by omega)]
theorem PS_act {A : Int32} (ha : a ≤ 4) (hb : b ≤ 5) (hA : ¬ A < 0) (h : PSr c a b s i1 i2 j17 K bk rw) (hr : HR a b s K p f) (hp : PG c a b p) : PSr c a b s (pst1 A i1 i2) (pst2 A i2) (nt17 j17) K (nt7 p bk j17) (hsto f rw 15 (pnext i1 i2)) := by
  obtain ⟨fs, sz, h1, h2, e1, e2, e3, hh⟩ := h
  rw [e1, e2, e3, pn_N (by omega), sto_in (N := 15) (n := 15) rfl (by omega) (Nat.mod_lt _ (by omega))]
  unfold pst1 pst2 nt17 nt7
  rw [if_neg hA, if_neg hA]
  by_cases e14 : sz = 14
  · subst e14
    rw [if_neg (show ¬ nI 14 < 14 by decide), if_neg (show ¬ nI 14 < 14 by decide), if_pos (show nI 14 = 14 from rfl), if_pos (show nI 14 = 14 from rfl)]
    refine ⟨(fs + 1) % 15, 14, Nat.mod_lt _ (by omega), Nat.le_refl 14, ?_, rfl, rfl, fun i hi => ?_⟩
    · rw [nI_p1, show (15 : Int32) = nI 15 from rfl, pk_rem (by omega) (by decide) (by decide)]
    · rcases (show i < 13 ∨ i = 13 by omega) with l | l
      · obtain ⟨q1, q2⟩ := hh (i + 1) (by omega)
        have e21 : ag21 (row21 bk (i + 1)) (row21 (va_cpy p (va_cpy bk bk 21 0 273) 0 273 21) i) := fun j hj => by
          unfold row21
          rw [pk_cpy_out (by omega), pk_cpy_in (by omega) (by omega), show 21 + (21 * i + j - 0) = 21 * (i + 1) + j by omega]
        refine ⟨HR_ag e21 (HR_c28 ha (fun j hj => ?_) q1), PG_ag e21 hb q2⟩
        rw [show ((fs + 1) % 15 + i) % 15 = (fs + (i + 1)) % 15 by omega, r28_ne hj (by omega)]
      · subst l
        have e21 : ag21 p (row21 (va_cpy p (va_cpy bk bk 21 0 273) 0 273 21) 13) := fun j hj => by
          unfold row21
          rw [pk_cpy_in (by omega) (by omega), Nat.zero_add, show 21 * 13 + j - 273 = j by omega]
        refine ⟨HR_ag e21 (HR_c28 ha (fun j hj => ?_) hr), PG_ag e21 hb hp⟩
        rw [show ((fs + 1) % 15 + 13) % 15 = (fs + 14) % 15 by omega, r28_at hj]
  · have l14 : nI sz < 14 := nI_lt (b := 14) (by omega) (by omega)
    have n14 : ¬ nI sz = 14 := fun q => e14 ((nI_eq (b := 14) (by omega) (by omega)).mp q)
    rw [if_pos l14, if_pos l14, if_neg n14, if_neg n14, nI_p1, show 21 * nI sz = nI (21 * sz) by rw [show (21 : Int32) = nI 21 from rfl, pk_mul], nI_clamp (by omega)]
    refine ⟨fs, sz + 1, h1, by omega, rfl, rfl, rfl, fun i hi => ?_⟩
    rcases (show i < sz ∨ i = sz by omega) with l | l
    · obtain ⟨q1, q2⟩ := hh i l
      have e21 : ag21 (row21 bk i) (row21 (va_cpy p bk 0 (21 * sz) 21) i) := fun j hj => (r21_ne hj (by omega)).symm
      refine ⟨HR_ag e21 (HR_c28 ha (fun j hj => ?_) q1), PG_ag e21 hb q2⟩
      rw [r28_ne hj (by omega)]
    · subst l
      have e21 : ag21 p (row21 (va_cpy p bk 0 (21 * i) 21) i) := fun j hj => (r21_at hj).symm
      refine ⟨HR_ag e21 (HR_c28 ha (fun j hj => ?_) hr), PG_ag e21 hb hp⟩
      rw [r28_at hj]
theorem QR_act {p2 : Nat → Int32} (h : QR c p bk kp) (hq : QG (c + 1) (p2 20)) (h3 : PSr c a b s i1 i2 j17 K bk rw) : QR (c + 1) p2 (nt7 p bk j17) kp := by
  obtain ⟨fs, sz, h1, h2, e1, e2, e3, -⟩ := h3
  refine ⟨hq, fun i hi => ?_, fun k hk => QG_up (h.2.2 k hk)⟩
  unfold nt7
  rw [e3]
  by_cases e14 : sz = 14
  · rw [e14, if_pos (show nI 14 = 14 from rfl)]
    rcases (show i < 13 ∨ i = 13 by omega) with l | l
    · rw [pk_cpy_out (by omega), pk_cpy_in (by omega) (by omega), show 21 + (21 * i + 20 - 0) = 21 * (i + 1) + 20 by omega]
      exact QG_up (h.2.1 (i + 1) (by omega))
    · rw [l, pk_cpy_in (by omega) (by omega)]
      exact QG_up h.1
  · have n14 : ¬ nI sz = 14 := fun q => e14 ((nI_eq (b := 14) (by omega) (by omega)).mp q)
    rw [if_neg n14, show 21 * nI sz = nI (21 * sz) by rw [show (21 : Int32) = nI 21 from rfl, pk_mul], nI_clamp (by omega)]
    by_cases l : i = sz
    · rw [l, pk_cpy_in (by omega) (by omega), show 0 + (21 * sz + 20 - 21 * sz) = 20 by omega]
      exact QG_up h.1
    · rw [pk_cpy_out (by omega)]
      exact QG_up (h.2.1 i hi)
theorem QR_undo (h : QR c p bk kp) (h3 : PSr c a b s i1 i2 j17 K bk rw) : QR c (un5 bk p j17) bk kp := by
  obtain ⟨fs, sz, h1, h2, e1, e2, e3, -⟩ := h3
  refine ⟨?_, h.2⟩
  unfold un5
  rw [e3]
  rcases Nat.eq_zero_or_pos sz with e | e
  · rw [e, if_pos (show nI 0 = 0 from rfl)]
    exact h.1
  · obtain ⟨k, rfl⟩ : ∃ k, sz = k + 1 := ⟨sz - 1, by omega⟩
    rw [if_neg (nI_ne0 (by omega) (by omega)), nI_pred, show 21 * nI k = nI (21 * k) by rw [show (21 : Int32) = nI 21 from rfl, pk_mul], nI_clamp (by omega), pk_cpy_in (by omega) (by omega), Nat.sub_zero]
    exact h.2.1 k (by omega)
theorem QR_keep (h : QR c p bk kp) (q : Int32) : QR c p bk (kp8 q p kp) := by
  refine ⟨h.1, h.2.1, fun i hi => ?_⟩
  unfold kp8
  cases hq : inr q 2
  · rw [if_pos rfl]
    exact h.2.2 i hi
  · obtain ⟨k, hk, rfl⟩ := inr_nI (n := 2) (by decide) hq
    rw [if_neg (by decide), show 21 * nI k = nI (21 * k) by rw [show (21 : Int32) = nI 21 from rfl, pk_mul], nI_clamp (by omega)]
    by_cases l : i = k
    · rw [l, pk_cpy_in (by omega) (by omega), show 0 + (21 * k + 20 - 21 * k) = 20 by omega]
      exact h.1
    · rw [pk_cpy_out (by omega)]
      exact h.2.2 i hi
/-- the last act undone -/
theorem PS_undo (ha : a ≤ 4) (hb : b ≤ 5) (h : PSr c a b s i1 i2 j17 K bk rw) (h0 : ¬ i2 = 0) : PSr c a b s i1 (ptbS i2) (unS j17) K bk rw ∧ HR a b s K (un5 bk p j17) (ptbF rw f i1 i2) ∧ PG c a b (un5 bk p j17) ∧ ptbA i2 = unA j17 := by
  obtain ⟨fs, sz, h1, h2, e1, e2, e3, hh⟩ := h
  have hz : sz ≠ 0 := fun e => h0 (by rw [e2, e]; rfl)
  obtain ⟨k, rfl⟩ : ∃ k, sz = k + 1 := ⟨sz - 1, by omega⟩
  have n0 : ¬ nI (k + 1) = 0 := nI_ne0 (by omega) (by omega)
  obtain ⟨q1, q2⟩ := hh k (by omega)
  unfold ptbS unS un5 ptbF ptbA unA
  rw [e1, e2, e3, if_neg n0, if_neg n0, if_neg n0, if_neg n0, nI_pred, pn_N (by omega), show 21 * nI k = nI (21 * k) by rw [show (21 : Int32) = nI 21 from rfl, pk_mul], nI_clamp (by omega)]
  have e21 : ag21 (row21 bk k) (va_cpy bk p (21 * k) 0 21) := fun j hj => by
    unfold row21
    rw [pk_cpy_in (by omega) (by omega), Nat.sub_zero]
  refine ⟨⟨fs, k, h1, by omega, rfl, rfl, rfl, fun i hi => hh i (by omega)⟩, HR_ag e21 (HR_c28 ha (fun j hj => ?_) q1), PG_ag e21 hb q2, rfl⟩
  rw [fet_in (N := 15) (n := 15) rfl (by omega) (Nat.mod_lt _ (by omega)) hj]
theorem PS_0 (fs : Nat) (h : fs < 15) : PSr c a b s (nI fs) 0 0 K bk rw := ⟨fs, 0, h, by omega, rfl, rfl, rfl, fun i hi => absurd hi (by omega)⟩
theorem SL_bits : ∀ t, t < 4 → ∀ k, k < 2 → (nI t ||| ((1 : Int32) <<< (nI k &&& 31))).toNatClampNeg < 4 ∧ nI ((nI t ||| ((1 : Int32) <<< (nI k &&& 31))).toNatClampNeg) = nI t ||| ((1 : Int32) <<< (nI k &&& 31)) ∧ (((nI t ||| ((1 : Int32) <<< (nI k &&& 31))) >>> (nI k &&& 31)) &&& 1 ≠ 0) ∧ ∀ i, i < 2 → i ≠ k → ((nI t ||| ((1 : Int32) <<< (nI k &&& 31))) >>> (nI i &&& 31)) &&& 1 = (nI t >>> (nI i &&& 31)) &&& 1 := by decide +kernel
theorem SL_keep (ha : a ≤ 4) (hb : b ≤ 5) (h : SLr c a b s i3 K kp fl rw) (hr : HR a b s K p f) (hp : PG c a b p) (q : Int32) : SLr c a b s (stkT q i3) K (kp8 q p kp) (kp9 q fl) (stkF f rw q) := by
  obtain ⟨⟨t, ht, e3⟩, hh⟩ := h
  unfold stkT kp8 kp9 stkF
  cases hq : inr q 2
  · rw [if_pos rfl, if_pos rfl, if_pos rfl, if_pos rfl]
    exact ⟨⟨t, ht, e3⟩, hh⟩
  · obtain ⟨k, hk, rfl⟩ := inr_nI (n := 2) (by decide) hq
    obtain ⟨b1, b2, b3, b4⟩ := SL_bits t ht k hk
    rw [if_neg (by decide), if_neg (by decide), if_neg (by decide), if_neg (by decide), sto_in (N := 2) (n := 2) rfl (by omega) hk, show 21 * nI k = nI (21 * k) by rw [show (21 : Int32) = nI 21 from rfl, pk_mul], nI_clamp (by omega), nI_clamp (by omega), show vp_nar .boolean 1 = 1 from by decide +kernel]
    refine ⟨⟨_, b1, by rw [e3]; exact b2.symm⟩, fun i hi => ?_⟩
    by_cases e : i = k
    · subst e
      rw [upd_at]
      refine ⟨⟨fun q => ?_, fun q => absurd q (by decide)⟩, fun _ => ?_⟩
      · rw [e3] at q
        exact absurd q b3
      · have e21 : ag21 p (row21 (va_cpy p kp 0 (21 * i) 21) i) := fun j hj => (r21_at hj).symm
        exact ⟨HR_ag e21 (HR_c28 ha (fun j hj => r28_at hj) hr), PG_ag e21 hb hp⟩
    · rw [upd_ne _ _ e, e3, b4 i hi e, ← e3]
      refine ⟨(hh i hi).1, fun q => ?_⟩
      obtain ⟨q1, q2⟩ := (hh i hi).2 q
      have e21 : ag21 (row21 kp i) (row21 (va_cpy p kp 0 (21 * k) 21) i) := fun j hj => (r21_ne hj e).symm
      exact ⟨HR_ag e21 (HR_c28 ha (fun j hj => r28_ne hj e) q1), PG_ag e21 hb q2⟩
theorem SL_0 {fl : Nat → Int32} (h0 : fl 0 = 0) (h1 : fl 1 = 0) : SLr c a b s 0 K kp fl rw := by
  refine ⟨⟨0, by omega, rfl⟩, fun k hk => ?_⟩
  rcases (show k = 0 ∨ k = 1 by omega) with e | e <;> subst e
  · exact ⟨⟨fun _ => h0, fun _ => by decide⟩, fun q => absurd h0 q⟩
  · exact ⟨⟨fun _ => h1, fun _ => by decide⟩, fun q => absurd h1 q⟩
theorem SD_say {i4 i5 i6 j20 : Int32} {A B : Nat → Int32} (h : SDr i4 i5 i6 j20 A B) (q k : Int32) : SDr (sdS q k i4) (sdY q k i4 i5) (sdN q k i4 i6) (sdS q k j20) (sy10 q k j20 A) (sy11 q k j20 B) ∧ sdA q k i4 = sdA q k j20 := by
  obtain ⟨n, hn, e4, e20, hA, e5, e6⟩ := h
  have e : i4 = j20 := e4.trans e20.symm
  subst e
  refine ⟨?_, rfl⟩
  unfold sdS sdY sdN sy10 sy11
  by_cases g : sdG q k i4
  · have g3 := g.2.2
    have hn6 : n < 6 := by
      rw [e4, show (6 : Int32) = nI 6 from rfl, nI_ltI (by omega) (by decide)] at g3
      exact g3
    rw [if_pos g, if_pos g, if_pos g, e4, nI_clamp (by omega), nI_p1]
    rw [e4] at g
    obtain ⟨m1, m2⟩ := sdy_ag (A := A) (B := B) (A2 := upd A n q) (B2 := upd B n k) n (fun i hi => ⟨upd_ne _ _ (by omega), upd_ne _ _ (by omega)⟩)
    refine ⟨n + 1, by omega, rfl, rfl, fun i hi => ?_, ?_, ?_⟩
    · by_cases e : i = n
      · rw [e, upd_at]; exact g.1
      · rw [upd_ne _ _ e]; exact hA i (by omega)
    · rw [sdyM, upd_at, upd_at, m1, e5]
      rcases g.2.1 with e | e
      · rw [if_neg (fun z => absurd (e.symm.trans z.2) (by decide)), if_neg (by rw [e]; decide)]
      · rw [if_pos ⟨g, e⟩, if_pos e]
    · rw [sdnM, upd_at, upd_at, m2, e6]
      rcases g.2.1 with e | e
      · rw [if_pos ⟨g, e⟩, if_neg (by rw [e]; decide)]
      · rw [if_neg (fun z => absurd (e.symm.trans z.2) (by decide)), if_pos e]
  · rw [if_neg g, if_neg g, if_neg g, if_neg (fun z => g z.1), if_neg (fun z => g z.1)]
    exact ⟨n, hn, e4, e20, hA, e5, e6⟩
theorem SD_0 {A B : Nat → Int32} : SDr 0 0 0 0 A B := ⟨0, by omega, rfl, rfl, fun i hi => absurd hi (by omega), rfl, rfl⟩
end
/-- what is asked changes nothing that is held -/
theorem SR_up {c : Nat} {I J I2 J2 : Nat → Int32} {F G F2 G2 : Nat → Nat → Int32} (h : SR c I F J G) (hI : ∀ j, j < 7 → I2 j = I j) (hF : F2 2 = F 2 ∧ F2 4 = F 4 ∧ F2 8 = F 8 ∧ F2 10 = F 10) (hJ : J2 2 = J 2 ∧ J2 4 = J 4 ∧ J2 5 = J 5 ∧ J2 7 = J 7 ∧ J2 17 = J 17 ∧ J2 20 = J 20) (hG : G2 1 = G 1 ∧ G2 2 = G 2 ∧ G2 5 = G 5 ∧ G2 7 = G 7 ∧ G2 8 = G 8 ∧ G2 9 = G 9 ∧ G2 10 = G 10 ∧ G2 11 = G 11) : SR (c + 1) I2 F2 J2 G2 := by
  obtain ⟨a, b, s, h0, h1, h2, h3, h4, h5⟩ := h
  refine ⟨a, b, s, ?_, ?_, ?_, ?_, ?_, ?_⟩
  · rw [hG.2.2.1, hG.2.2.2.1, hG.2.2.2.2.1]; exact QR_up h0
  · rw [hI 0 (by decide), hJ.1, hF.1, hG.1]; exact h1
  · rw [hJ.2.1, hJ.2.2.1, hJ.2.2.2.1, hG.2.1, hG.2.2.1, hF.2.1]; exact MN_up h2
  · rw [hI 1 (by decide), hI 2 (by decide), hJ.2.2.2.2.1, hG.2.1, hG.2.2.2.1, hF.2.2.1]; exact PS_up h3
  · rw [hI 3 (by decide), hG.2.1, hG.2.2.2.2.1, hG.2.2.2.2.2.1, hF.2.2.2]; exact SL_up h4
  · rw [hI 4 (by decide), hI 5 (by decide), hI 6 (by decide), hJ.2.2.2.2.2, hG.2.2.2.2.2.2.1, hG.2.2.2.2.2.2.2]; exact h5
