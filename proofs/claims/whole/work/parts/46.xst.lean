/-! stray: chances thing by thing, and set by set -/
def sU (x : Nat) (u v : Nat → Nat) : Nat → Nat → Nat
  | 0, j => if j = 0 then 1 else 0
  | t + 1, j => (10 - x) * sU x u v t (j - u t) + x * sU x u v t (j - v t)
def sC (u v : Nat → Nat) (s : Nat) : Nat → Nat
  | 0 => 0
  | t + 1 => sC u v s t + (if s / 2 ^ t % 2 = 1 then v t else u t)
def sW (x s : Nat) : Nat → Nat
  | 0 => 1
  | t + 1 => sW x s t * (if s / 2 ^ t % 2 = 1 then x else 10 - x)
def sM (x : Nat) (u v : Nat → Nat) (t j : Nat) : Nat → Nat
  | 0 => 0
  | n + 1 => sM x u v t j n + (if j ≤ sC u v n t then sW x n t else 0)
section
variable {x : Nat} {u v : Nat → Nat}
theorem sU_0 (hx : x ≤ 10) : ∀ t, sU x u v t 0 = 10 ^ t
  | 0 => rfl
  | t + 1 => by
    rw [sU, Nat.zero_sub, Nat.zero_sub, sU_0 hx t, ← Nat.add_mul, Nat.sub_add_cancel hx, Nat.pow_succ, Nat.mul_comm]
theorem sU_le (hx : x ≤ 10) : ∀ t j, sU x u v t j ≤ 10 ^ t
  | 0, j => by
    rw [sU]
    split <;> decide
  | t + 1, j => by
    rw [sU]
    have h1 := Nat.mul_le_mul_left (10 - x) (sU_le hx t (j - u t))
    have h2 := Nat.mul_le_mul_left x (sU_le hx t (j - v t))
    have h3 : (10 - x) * 10 ^ t + x * 10 ^ t = 10 ^ (t + 1) := by rw [← Nat.add_mul, Nat.sub_add_cancel hx, Nat.pow_succ, Nat.mul_comm]
    omega
theorem sU_hi (hu : ∀ k, u k ≤ 1) (hv : ∀ k, v k ≤ 1) : ∀ t j, t < j → sU x u v t j = 0
  | 0, j, h => if_neg (by omega)
  | t + 1, j, h => by
    have h1 := hu t
    have h2 := hv t
    rw [sU, sU_hi hu hv t _ (by omega), sU_hi hu hv t _ (by omega), Nat.mul_zero, Nat.mul_zero]
theorem bit_lo {s t : Nat} (h : s < 2 ^ t) : s / 2 ^ t % 2 = 0 := by rw [Nat.div_eq_of_lt h]
theorem bit_hi {s t : Nat} (h : s < 2 ^ t) : (2 ^ t + s) / 2 ^ t % 2 = 1 := by
  rw [Nat.add_div_left _ (Nat.pow_pos (by decide)), Nat.div_eq_of_lt h]
theorem bit_sm {s t i : Nat} (h : i < t) : (2 ^ t + s) / 2 ^ i % 2 = s / 2 ^ i % 2 := by
  obtain ⟨e, rfl⟩ : ∃ e, t = i + (e + 1) := ⟨t - i - 1, by omega⟩
  rw [Nat.pow_add, Nat.mul_add_div (Nat.pow_pos (by decide)), Nat.pow_succ, Nat.mul_comm (2 ^ e) 2, Nat.mul_add_mod]
theorem sC_sm {s t : Nat} : ∀ k, k ≤ t → sC u v (2 ^ t + s) k = sC u v s k
  | 0, _ => rfl
  | k + 1, hk => by rw [sC, sC, sC_sm k (by omega), bit_sm (by omega)]
theorem sW_sm {s t : Nat} : ∀ k, k ≤ t → sW x (2 ^ t + s) k = sW x s k
  | 0, _ => rfl
  | k + 1, hk => by rw [sW, sW, sW_sm k (by omega), bit_sm (by omega)]
theorem sM_lo (t j : Nat) : ∀ n, n ≤ 2 ^ t → sM x u v (t + 1) j n = (10 - x) * sM x u v t (j - u t) n
  | 0, _ => rfl
  | n + 1, hn => by
    rw [sM, sM, sM_lo t j n (by omega), sC, sW, bit_lo (by omega), if_neg (show ¬ (0 : Nat) = 1 by decide), if_neg (show ¬ (0 : Nat) = 1 by decide), Nat.mul_add]
    congr 1
    by_cases h : j ≤ sC u v n t + u t
    · rw [if_pos h, if_pos (by omega), Nat.mul_comm]
    · rw [if_neg h, if_neg (by omega), Nat.mul_zero]
theorem sM_up (t j : Nat) : ∀ n, n ≤ 2 ^ t → sM x u v (t + 1) j (2 ^ t + n) = sM x u v (t + 1) j (2 ^ t) + x * sM x u v t (j - v t) n
  | 0, _ => rfl
  | n + 1, hn => by
    rw [← Nat.add_assoc, sM, sM_up t j n (by omega), sM, sC, sW, bit_hi (by omega), if_pos (show (1 : Nat) = 1 from rfl), if_pos (show (1 : Nat) = 1 from rfl), sC_sm t (Nat.le_refl t), sW_sm t (Nat.le_refl t), Nat.mul_add, Nat.add_assoc]
    congr 2
    by_cases h : j ≤ sC u v n t + v t
    · rw [if_pos h, if_pos (by omega), Nat.mul_comm]
    · rw [if_neg h, if_neg (by omega), Nat.mul_zero]
theorem sM_U : ∀ t j, sM x u v t j (2 ^ t) = sU x u v t j
  | 0, j => by
    show 0 + (if j ≤ 0 then 1 else 0) = if j = 0 then 1 else 0
    by_cases h : j = 0
    · rw [if_pos h, if_pos (by omega)]
    · rw [if_neg h, if_neg (by omega)]
  | t + 1, j => by
    rw [Nat.pow_succ, Nat.mul_comm, Nat.two_mul, sM_up t j (2 ^ t) (Nat.le_refl _), sM_lo t j (2 ^ t) (Nat.le_refl _), sM_U t, sM_U t, sU]
end
/-- how a thing is found, left or moved on -/
def sru (r : Int32) (p : Nat → Int32) (k : Nat) : Nat := if yhas r (p (12 + k)) = true then 1 else 0
def srv (r : Int32) (p : Nat → Int32) (k : Nat) : Nat := if yhas r (if p (12 + k) < 9 then p (12 + k) + 1 else p (12 + k)) = true then 1 else 0
theorem ite01 (z : Bool) : (if z = true then 1 else 0) ≤ 1 := by cases z <;> decide
theorem sru_1 (r : Int32) (p : Nat → Int32) (k : Nat) : sru r p k ≤ 1 := ite01 _
theorem srv_1 (r : Int32) (p : Nat → Int32) (k : Nat) : srv r p k ≤ 1 := ite01 _
def bkS (B : Nat → Bool) : Nat → Int32
  | 0 => 0
  | k + 1 => if B k = false then bkS B k else bkS B k ||| ((1 : Int32) <<< (nI k &&& 31))
def bkC (B : Nat → Bool) : Nat → Nat
  | 0 => 0
  | k + 1 => bkC B k + (if B k = true then 1 else 0)
def bsel (b0 b1 b2 b3 b4 : Bool) (k : Nat) : Bool := match k with
  | 0 => b0
  | 1 => b1
  | 2 => b2
  | 3 => b3
  | _ => b4
theorem bk_all : ∀ b0 b1 b2 b3 b4 : Bool, ∀ k, k < 6 → ymany (bkS (bsel b0 b1 b2 b3 b4) k) = nI (bkC (bsel b0 b1 b2 b3 b4) k) := by decide +kernel
theorem bkS_ag {B C : Nat → Bool} (e : ∀ j, j < 5 → B j = C j) : ∀ k, k ≤ 5 → bkS B k = bkS C k
  | 0, _ => rfl
  | k + 1, hk => by rw [bkS, bkS, bkS_ag e k (by omega), e k (by omega)]
theorem bkC_ag {B C : Nat → Bool} (e : ∀ j, j < 5 → B j = C j) : ∀ k, k ≤ 5 → bkC B k = bkC C k
  | 0, _ => rfl
  | k + 1, hk => by rw [bkC, bkC, bkC_ag e k (by omega), e k (by omega)]
theorem bk_eq (B : Nat → Bool) {k : Nat} (hk : k ≤ 5) : ymany (bkS B k) = nI (bkC B k) := by
  have eB : ∀ j, j < 5 → B j = bsel (B 0) (B 1) (B 2) (B 3) (B 4) j := by
    intro j hj
    rcases (show j = 0 ∨ j = 1 ∨ j = 2 ∨ j = 3 ∨ j = 4 by omega) with e | e | e | e | e <;> subst e <;> rfl
  rw [bkS_ag eB k hk, bkC_ag eB k hk]
  exact bk_all _ _ _ _ _ k (by omega)
theorem pkS_bk (r : Int32) (p : Nat → Int32) : ∀ k, pkS r p k = bkS (fun j => yhas r (p (12 + j))) k
  | 0 => rfl
  | k + 1 => by rw [pkS, bkS, pkS_bk r p k]
theorem yb_allB : (List.range 32).all (fun s => (List.range 5).all (fun k => yhas (nI s) (nI k) == decide (s / 2 ^ k % 2 = 1))) = true := by decide +kernel
theorem yb_all {s k : Nat} (hs : s < 32) (hk : k < 5) : yhas (nI s) (nI k) = decide (s / 2 ^ k % 2 = 1) := beq_iff_eq.mp (List.all_eq_true.mp (List.all_eq_true.mp yb_allB s (List.mem_range.mpr hs)) k (List.mem_range.mpr hk))
theorem wt_allB : (List.range 6).all (fun b => (List.range 11).all (fun x => (List.range (2 ^ b)).all (fun s => decide (ypow (nI x) (ymany (nI s)) * ypow (10 - nI x) (nI b - ymany (nI s)) = nI (sW x s b))))) = true := by decide +kernel
theorem wt_all {b x s : Nat} (hb : b ≤ 5) (hx : x ≤ 10) (hs : s < 2 ^ b) : ypow (nI x) (ymany (nI s)) * ypow (10 - nI x) (nI b - ymany (nI s)) = nI (sW x s b) := of_decide_eq_true (List.all_eq_true.mp (List.all_eq_true.mp (List.all_eq_true.mp wt_allB b (List.mem_range.mpr (by omega))) x (List.mem_range.mpr (by omega))) s (List.mem_range.mpr hs))
theorem stP_a {p : Nat → Int32} {s : Int32} : ∀ t j, stP p s t j = if 12 ≤ j ∧ j < 12 + t then p j + (if yhas s (nI (j - 12)) = false then 0 else if p j < 9 then 1 else 0) else p j
  | 0, j => by rw [if_neg (by omega)]; rfl
  | t + 1, j => by
    have ih := stP_a (p := p) (s := s) t
    rw [stP]
    by_cases e : j = 12 + t
    · rw [e, upd_at, ih (12 + t), if_neg (show ¬ (12 ≤ 12 + t ∧ 12 + t < 12 + t) by omega), if_pos (show 12 ≤ 12 + t ∧ 12 + t < 12 + (t + 1) by omega), show 12 + t - 12 = t by omega]
    · rw [upd_ne _ _ e, ih j]
      by_cases h : 12 ≤ j ∧ j < 12 + t
      · rw [if_pos h, if_pos (show 12 ≤ j ∧ j < 12 + (t + 1) by omega)]
      · rw [if_neg h, if_neg (show ¬ (12 ≤ j ∧ j < 12 + (t + 1)) by omega)]
section
variable {c a b s : Nat} {K p f : Nat → Int32}
theorem stW_N (hb : b ≤ 5) {z : Nat} (hz : z < 32) (r : Int32) (hr : pant p (nI s) = r) : stW p (nI s) (nI b) (nI z) = nI (sC (sru r p) (srv r p) z b) := by
  unfold stW pknown
  have e1 : pant (stP p (nI z) b) (nI s) = r := by
    rw [← hr]
    unfold pant
    rw [stP_a, stP_a, if_neg (by omega), if_neg (by omega)]
  rw [nI_clamp (by omega), e1, pkS_bk, bk_eq _ hb]
  congr 1
  have key : ∀ k, k ≤ b → bkC (fun j => yhas r (stP p (nI z) b (12 + j))) k = sC (sru r p) (srv r p) z k := by
    intro k
    induction k with
    | zero => intro _; rfl
    | succ k ih =>
      intro hk
      rw [bkC, sC, ih (by omega), stP_a, if_pos (show 12 ≤ 12 + k ∧ 12 + k < 12 + b by omega), show 12 + k - 12 = k by omega, yb_all hz (by omega)]
      congr 1
      by_cases h : z / 2 ^ k % 2 = 1
      · rw [decide_eq_true h, if_neg (show ¬ true = false by decide), if_pos h]
        unfold srv
        by_cases l : p (12 + k) < 9
        · rw [if_pos l, if_pos l]
        · rw [if_neg l, if_neg l, show p (12 + k) + 0 = p (12 + k) by grind]
      · rw [decide_eq_false h, if_pos (show false = false from rfl), if_neg h]
        unfold sru
        rw [show p (12 + k) + 0 = p (12 + k) by grind]
  exact key b (Nat.le_refl b)
theorem stS_N (hb : b ≤ 5) {x m : Nat} (hx : x ≤ 10) (hm : m ≤ 5) (r : Int32) (hr : pant p (nI s) = r) : ∀ n, n ≤ 2 ^ b → stS p (nI s) (nI b) (nI m) (nI x) n = nI (sM x (sru r p) (srv r p) b m n)
  | 0, _ => rfl
  | n + 1, hn => by
    have h32 : 2 ^ b ≤ 32 := pw2_le b (by omega)
    have hle : ∀ t, t ≤ 5 → sC (sru r p) (srv r p) n t ≤ t := by
      intro t
      induction t with
      | zero => intro _; exact Nat.le_refl 0
      | succ t ih =>
        intro ht
        have h1 := ih (by omega)
        have h2 := sru_1 r p t
        have h3 := srv_1 r p t
        rw [sC]
        split <;> omega
    have hcb := hle b hb
    rw [stS, stS_N hb hx hm r hr n (by omega), stW_N hb (by omega) r hr, sM, wt_all hb hx (by omega)]
    by_cases h : m ≤ sC (sru r p) (srv r p) n b
    · rw [if_neg (nI_nlt h (by omega)), if_pos h, nI_add]
    · rw [if_pos (nI_lt (by omega) (by omega)), if_neg h, Nat.add_zero]; grind
theorem st_S (hb : b ≤ 5) {x m : Nat} (hx : x ≤ 10) (hm : m ≤ 5) (r : Int32) (hr : pant p (nI s) = r) : stS p (nI s) (nI b) (nI m) (nI x) (2 ^ b) = nI (sU x (sru r p) (srv r p) b m) := by
  rw [stS_N hb hx hm r hr _ (Nat.le_refl _), sM_U]
theorem yp10 (hb : b ≤ 5) : ypow 10 (nI b) = nI (10 ^ b) := by
  unfold ypow
  rw [nI_clamp (by omega)]
  exact ypS_N 10 b
theorem stb_of {m x : Int32} (h : stb m x = true) : ∃ M X : Nat, M ≤ 5 ∧ X ≤ 10 ∧ m = nI M ∧ x = nI X := by
  unfold stb at h
  rw [Bool.and_eq_true] at h
  obtain ⟨M, hM, rfl⟩ := (lin_n 5 (by decide)).mp h.1
  obtain ⟨X, hX, rfl⟩ := (lin_n 10 (by decide)).mp h.2
  exact ⟨M, X, hM, hX, rfl, rfl⟩
theorem st_fr (hb : b ≤ 5) {m x : Int32} (h : stb m x = true) : frOk (stS p (nI s) (nI b) m x (2 ^ (nI b).toNatClampNeg)) (ypow 10 (nI b)) := by
  obtain ⟨M, X, hM, hX, rfl, rfl⟩ := stb_of h
  rw [nI_clamp (by omega), st_S hb hX hM _ rfl, yp10 hb]
  have h1 := sU_le (x := X) (u := sru (pant p (nI s)) p) (v := srv (pant p (nI s)) p) hX b M
  have h2 := p10 (k := b) hb
  exact ⟨_, _, by omega, Nat.pow_pos (by decide), by omega, rfl, rfl⟩
end
