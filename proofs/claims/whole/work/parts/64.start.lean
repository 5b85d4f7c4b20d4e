/-! the law's loop, and its start -/
def i9 : Nat → Int32 := fun j => if j < 7 then 0 else -9
def j9 : Nat → Int32 := fun _ => 0
def f9 : Nat → Nat → Int32 := fun _ _ => 0
theorem i9_0 : ∀ j, j < 7 → i9 j = 0 := fun j hj => if_pos hj
theorem inT {us : List Cond} (h : ∀ w ∈ us, w ∈ tbC) : ∀ w ∈ us, w ∈ lw_tbl := fun w hw => tbC_in w (h w hw)
theorem gL {Z : Cond} (hz : Z ∈ tbC) : GoodIn lw_tbl (Z :: tbC) := fun w hw => by
  rcases List.mem_cons.mp hw with rfl | hw
  · exact ⟨tbC_in _ hz, good_of_word (tbC_good _ hz)⟩
  · exact ⟨tbC_in _ hw, good_of_word (tbC_good _ hw)⟩
theorem va_P_split {D : va_G} {cl : List vw_C} {w1 w2 : va_W} {H : Heap} (h : va_P D cl (w1 ++ w2) H) : va_P D cl w1 H ∧ va_P D cl w2 H := by
  refine ⟨fun k q hk => h k q ?_, fun k q hk => h (w1.length + k) q ?_⟩
  · rw [List.getElem?_append_left (List.getElem?_eq_some_iff.mp hk).1]; exact hk
  · rw [List.getElem?_append_right (Nat.le_add_right _ _), Nat.add_sub_cancel_left]; exact hk
theorem LwC_of {s : State} {D : va_G} {cA : Nat → ClassId} {aX aY : Nat → Nat} {I J : Nat → Int32} {F G : Nat → Nat → Int32} {sd sd2 : Int64} (hK : va_K D cls9 (pm_tys cA) s) (hNW : pm_NW nst9 s) (hD : va_D (fun q => s.heap.size ≤ q) (pm_ws aX cA (hX I F sd) ++ pm_ws aY cA (hY J G sd2))) : LwC s D cA aX aY := by
  have l1 : ∀ i, i < 15 → ∃ e : va_E, (pm_ws aX cA (hX I F sd) ++ pm_ws aY cA (hY J G sd2))[i]? = some (aX i, e) := by
    intro i hi
    obtain ⟨e, he⟩ := pm_ws_ex (ad := aX) (cA := cA) (hp := hX I F sd) (k := i) hi
    exact ⟨e, by rw [List.getElem?_append_left (by rw [pm_ws_len]; exact hi)]; exact he⟩
  have l2 : ∀ i, i < 14 → ∃ e : va_E, (pm_ws aX cA (hX I F sd) ++ pm_ws aY cA (hY J G sd2))[15 + i]? = some (aY i, e) := by
    intro i hi
    obtain ⟨e, he⟩ := pm_ws_ex (ad := aY) (cA := cA) (hp := hY J G sd2) (k := i) hi
    have l15 : (pm_ws aX cA (hX I F sd)).length = 15 := pm_ws_len
    exact ⟨e, by rw [List.getElem?_append_right (by rw [l15]; omega), l15, Nat.add_sub_cancel_left]; exact he⟩
  refine ⟨hK, hNW, fun i j hi hj z => ?_, fun i j hi hj z => ?_, fun i j hi hj z => ?_, fun i hi => ?_, fun i hi => ?_⟩
  · obtain ⟨e1, h1⟩ := l1 i hi
    obtain ⟨e2, h2⟩ := l1 j hj
    exact hD.1 i j _ _ h1 h2 z
  · obtain ⟨e1, h1⟩ := l2 i hi
    obtain ⟨e2, h2⟩ := l2 j hj
    have := hD.1 _ _ _ _ h1 h2 z
    omega
  · obtain ⟨e1, h1⟩ := l1 i hi
    obtain ⟨e2, h2⟩ := l2 j hj
    have := hD.1 _ _ _ _ h1 h2 z
    omega
  · obtain ⟨e1, h1⟩ := l1 i hi
    exact hD.2 _ _ h1
  · obtain ⟨e1, h1⟩ := l2 i hi
    exact hD.2 _ _ h1
set_option maxHeartbeats 4000000 in
set_option maxRecDepth 100000 in
theorem law_loop {p : Program} {l : Launch} {e : Env} {s : State} {m : MethodId} {below : List Frame} {meth : Method} {c : Code} {D : va_G} {cA : Nat → ClassId} {aX aY : Nat → Nat} {b L : Nat} {xs : Nat → Int32} (hL : L ≤ 2048) (C0 : lw_At p s m meth c b L xs) (C : LwC s D cA aX aY) :
    ∀ (n i k : Nat), i ≤ L → L + 1 ≤ i + 4 * n → i = 4 * k → ∀ (I J : Nat → Int32) (F G : Nat → Nat → Int32) (sd : Int64), SR k I F J G → ∀ (H : Heap) (locs : List Loc) (ls : Array Slot), lv_has ls 4 [(0, .ref b), (1, .ref (aX 0)), (2, .ref (aY 0)), (3, .int (nI i))] → va_P D cls9 (pm_ws aX cA (hX I F sd)) H → va_P D cls9 (pm_ws aY cA (hY J G sd)) H → va_S (fun q => s.heap.size ≤ q) s.heap H locs →
      W p l e room_1 s m #[Value.ref b] below meth c H locs 600000 7302250 (lw_Z below #[Value.ref b] s) (F0 m 18 ls []) := by
  obtain ⟨hx, hb, hr, hml, hown, hts, hX0, hbl, hlocks, hgv⟩ := id C0
  have hbA : ¬ (fun q : Nat => s.heap.size ≤ q) b := Nat.not_le.mpr hbl
  intro n
  induction n with
  | zero =>
    intro i k h1 h2
    exact absurd h2 (by omega)
  | succ n ih =>
    intro i k hi hin hik I J F G sd h H locs ls hl hP1 hP2 hS
    refine lv_iload_n hx hb dl_18 rfl (lv_at hl 3 rfl) ?_
    refine lv_aload_n hx hb dl_19 rfl (lv_at hl 0 rfl) ?_
    refine va_slen hx hb hX0 hbl hbA hS dl_20 ?_
    refine lv_iconst (v := 4) hx hb dl_21 (by decide) ?_
    refine lv_isub hx hb dl_22 ?_
    refine lv_icmp_gt (tgt := 956) hx hb dl_23 (by decide) (fun _ => ?_) (fun c_1 => ?_)
    · refine lv_iconst (v := 1) hx hb dl_956 (by decide) ?_
      refine va_forget (fun q hq => hS.2.2 q hq) ?_
      exact lw_ret hx hb hr hlocks dl_957
    · have hi4 : i + 4 ≤ L := lw_lt hL hi c_1
      have kk : LwK p l e s m below meth c b D cA aX aY (lw_Z below #[Value.ref b] s) ls (k + 1) := by
        intro I2 F2 J2 G2 sd2 H2 locs2 h2 hP1 hP2 hS
        refine lv_iinc (v := nI (i + 4)) (lv' := [(3, .int (nI (i + 4))), (0, .ref b), (1, .ref (aX 0)), (2, .ref (aY 0))]) hx hb dl_950 hl (k := 3) rfl (nI_add i 4) (by decide) rfl (fun ls hl => ?_)
        refine lv_goto (tgt := 18) hx hb dl_953 (by decide) ?_
        exact ih (i + 4) (k + 1) hi4 (by omega) (by omega) I2 J2 F2 G2 sd2 h2 H2 locs2 ls (lv_sub hl [1, 2, 3, 0] rfl) hP1 hP2 hS
      have hc : k ≤ 600 := by omega
      refine lv_aload_n hx hb dl_26 rfl (lv_at hl 0 rfl) ?_
      refine lv_iload_n hx hb dl_27 rfl (lv_at hl 3 rfl) ?_
      refine va_sld hx hb hX0 hbl hbA hS (vp_in_nI (by omega) (by omega)) dl_28 ?_
      refine lv_bipush (v := 31) hx hb dl_29 (by decide) ?_
      refine lv_iand hx hb dl_31 ?_
      obtain ⟨o, ho, eo⟩ := lw_31 (xs (nI i).toNatClampNeg)
      rw [eo]
      clear eo
      match o, ho with
      | 0, _ => exact lv_tableIn (off := 124) (tgt := 156) hx hb dl_32 (by decide +kernel) (by decide +kernel) (by decide +kernel) (by decide +kernel) (lk_0 C0 C hL hi4 hc h hl hP1 hP2 hS kk)
      | 1, _ => exact lv_tableIn (off := 147) (tgt := 179) hx hb dl_32 (by decide +kernel) (by decide +kernel) (by decide +kernel) (by decide +kernel) (lk_1 C0 C hL hi4 hc h hl hP1 hP2 hS kk)
      | 2, _ => exact lv_tableIn (off := 160) (tgt := 192) hx hb dl_32 (by decide +kernel) (by decide +kernel) (by decide +kernel) (by decide +kernel) (lk_2 C0 C hL hi4 hc h hl hP1 hP2 hS kk)
      | 3, _ => exact lv_tableIn (off := 173) (tgt := 205) hx hb dl_32 (by decide +kernel) (by decide +kernel) (by decide +kernel) (by decide +kernel) (lk_3 C0 C hL hi4 hc h hl hP1 hP2 hS kk)
      | 4, _ => exact lv_tableIn (off := 186) (tgt := 218) hx hb dl_32 (by decide +kernel) (by decide +kernel) (by decide +kernel) (by decide +kernel) (lk_4 C0 C hL hi4 hc h hl hP1 hP2 hS kk)
      | 5, _ => exact lv_tableIn (off := 209) (tgt := 241) hx hb dl_32 (by decide +kernel) (by decide +kernel) (by decide +kernel) (by decide +kernel) (lk_5 C0 C hL hi4 hc h hl hP1 hP2 hS kk)
      | 6, _ => exact lv_tableIn (off := 242) (tgt := 274) hx hb dl_32 (by decide +kernel) (by decide +kernel) (by decide +kernel) (by decide +kernel) (lk_6 C0 C hL hi4 hc h hl hP1 hP2 hS kk)
      | 7, _ => exact lv_tableIn (off := 275) (tgt := 307) hx hb dl_32 (by decide +kernel) (by decide +kernel) (by decide +kernel) (by decide +kernel) (lk_7 C0 C hL hi4 hc h hl hP1 hP2 hS kk)
      | 8, _ => exact lv_tableIn (off := 288) (tgt := 320) hx hb dl_32 (by decide +kernel) (by decide +kernel) (by decide +kernel) (by decide +kernel) (lk_8 C0 C hL hi4 hc h hl hP1 hP2 hS kk)
      | 9, _ => exact lv_tableIn (off := 321) (tgt := 353) hx hb dl_32 (by decide +kernel) (by decide +kernel) (by decide +kernel) (by decide +kernel) (lk_9 C0 C hL hi4 hc h hl hP1 hP2 hS kk)
      | 10, _ => exact lv_tableIn (off := 354) (tgt := 386) hx hb dl_32 (by decide +kernel) (by decide +kernel) (by decide +kernel) (by decide +kernel) (lk_10 C0 C hL hi4 hc h hl hP1 hP2 hS kk)
      | 11, _ => exact lv_tableIn (off := 387) (tgt := 419) hx hb dl_32 (by decide +kernel) (by decide +kernel) (by decide +kernel) (by decide +kernel) (lk_11 C0 C hL hi4 hc h hl hP1 hP2 hS kk)
      | 12, _ => exact lv_tableIn (off := 420) (tgt := 452) hx hb dl_32 (by decide +kernel) (by decide +kernel) (by decide +kernel) (by decide +kernel) (lk_12 C0 C hL hi4 hc h hl hP1 hP2 hS kk)
      | 13, _ => exact lv_tableIn (off := 443) (tgt := 475) hx hb dl_32 (by decide +kernel) (by decide +kernel) (by decide +kernel) (by decide +kernel) (lk_13 C0 C hL hi4 hc h hl hP1 hP2 hS kk)
      | 14, _ => exact lv_tableIn (off := 456) (tgt := 488) hx hb dl_32 (by decide +kernel) (by decide +kernel) (by decide +kernel) (by decide +kernel) (lk_14 C0 C hL hi4 hc h hl hP1 hP2 hS kk)
      | 15, _ => exact lv_tableIn (off := 489) (tgt := 521) hx hb dl_32 (by decide +kernel) (by decide +kernel) (by decide +kernel) (by decide +kernel) (lk_15 C0 C hL hi4 hc h hl hP1 hP2 hS kk)
      | 16, _ => exact lv_tableIn (off := 512) (tgt := 544) hx hb dl_32 (by decide +kernel) (by decide +kernel) (by decide +kernel) (by decide +kernel) (lk_16 C0 C hL hi4 hc h hl hP1 hP2 hS kk)
      | 17, _ => exact lv_tableIn (off := 575) (tgt := 607) hx hb dl_32 (by decide +kernel) (by decide +kernel) (by decide +kernel) (by decide +kernel) (lk_17 C0 C hL hi4 hc h hl hP1 hP2 hS kk)
      | 18, _ => exact lv_tableIn (off := 624) (tgt := 656) hx hb dl_32 (by decide +kernel) (by decide +kernel) (by decide +kernel) (by decide +kernel) (lk_18 C0 C hL hi4 hc h hl hP1 hP2 hS kk)
      | 19, _ => exact lv_tableIn (off := 657) (tgt := 689) hx hb dl_32 (by decide +kernel) (by decide +kernel) (by decide +kernel) (by decide +kernel) (lk_19 C0 C hL hi4 hc h hl hP1 hP2 hS kk)
      | 20, _ => exact lv_tableIn (off := 670) (tgt := 702) hx hb dl_32 (by decide +kernel) (by decide +kernel) (by decide +kernel) (by decide +kernel) (lk_20 C0 C hL hi4 hc h hl hP1 hP2 hS kk)
      | 21, _ => exact lv_tableIn (off := 693) (tgt := 725) hx hb dl_32 (by decide +kernel) (by decide +kernel) (by decide +kernel) (by decide +kernel) (lk_21 C0 C hL hi4 hc h hl hP1 hP2 hS kk)
      | 22, _ => exact lv_tableIn (off := 736) (tgt := 768) hx hb dl_32 (by decide +kernel) (by decide +kernel) (by decide +kernel) (by decide +kernel) (lk_22 C0 C hL hi4 hc h hl hP1 hP2 hS kk)
      | 23, _ => exact lv_tableIn (off := 795) (tgt := 827) hx hb dl_32 (by decide +kernel) (by decide +kernel) (by decide +kernel) (by decide +kernel) (lk_23 C0 C hL hi4 hc h hl hP1 hP2 hS kk)
      | 24, _ => exact lv_tableIn (off := 849) (tgt := 881) hx hb dl_32 (by decide +kernel) (by decide +kernel) (by decide +kernel) (by decide +kernel) (lk_24 C0 C hL hi4 hc h hl hP1 hP2 hS kk)
      | 25, _ => exact lv_tableIn (off := 872) (tgt := 904) hx hb dl_32 (by decide +kernel) (by decide +kernel) (by decide +kernel) (by decide +kernel) (lk_25 C0 C hL hi4 hc h hl hP1 hP2 hS kk)
      | 26, _ => exact lv_tableIn (off := 895) (tgt := 927) hx hb dl_32 (by decide +kernel) (by decide +kernel) (by decide +kernel) (by decide +kernel) (lk_26 C0 C hL hi4 hc h hl hP1 hP2 hS kk)
      | o + 27, ho =>
        refine lv_tableOut (tgt := 950) hx hb dl_32 (Or.inr ?_) (by decide) ?_
        · rw [nI_toInt (by omega)]
          omega
        · exact kk I F J G sd H locs (SR_skip h) hP1 hP2 hS
set_option maxHeartbeats 4000000 in
set_option maxRecDepth 100000 in
theorem whole_start {p : Program} {e : Env} {s : State} {m : MethodId} {below : List Frame} {meth : Method} {c : Code} (l : Launch) (hflags : l.flags = flags0) {b L : Nat} {xs : Nat → Int32} (hL : L ≤ 2048) (C0 : lw_At p s m meth c b L xs) : W p l e room_1 s m #[Value.ref b] below meth c s.heap [] 0 0 (lw_Z below #[Value.ref b] s) (entryFrame m ([Value.ref b] : List Value).toArray 4) := by
  obtain ⟨hx, hb, hr, hml, hown, hts, hX0, hbl, hlocks, hgv⟩ := id C0
  have hA : ∀ q : Nat, s.heap.size ≤ q → (fun q : Nat => s.heap.size ≤ q) q := fun _ h => h
  obtain ⟨cX0, iX0, kX0⟩ := u_known (C := RX0) (T := TX0) (N := 1) (n := 1) hts (inT inCX0) (hts (.instantiable RX0 1) (tbC_in _ (List.mem_of_getElem? (i := 58) (by decide +kernel))))
  obtain ⟨cX1, iX1, kX1⟩ := u_known (C := RX1) (T := TX1) (N := 2) (n := 2) hts (inT inCX1) (hts (.instantiable RX1 2) (tbC_in _ (List.mem_of_getElem? (i := 62) (by decide +kernel))))
  obtain ⟨cX2, iX2, kX2⟩ := u_known (C := RX2) (T := TX2) (N := 3) (n := 3) hts (inT inCX2) (hts (.instantiable RX2 3) (tbC_in _ (List.mem_of_getElem? (i := 66) (by decide +kernel))))
  obtain ⟨cX4, iX4, kX4⟩ := u_known (C := RX4) (T := TX4) (N := 3) (n := 3) hts (inT inCX4) (hts (.instantiable RX4 3) (tbC_in _ (List.mem_of_getElem? (i := 70) (by decide +kernel))))
  obtain ⟨cX5, iX5, kX5⟩ := u_known (C := RX5) (T := TX5) (N := 2) (n := 2) hts (inT inCX5) (hts (.instantiable RX5 2) (tbC_in _ (List.mem_of_getElem? (i := 74) (by decide +kernel))))
  obtain ⟨cX6, iX6, kX6⟩ := u_known (C := RX6) (T := TX6) (N := 2) (n := 2) hts (inT inCX6) (hts (.instantiable RX6 2) (tbC_in _ (List.mem_of_getElem? (i := 78) (by decide +kernel))))
  obtain ⟨cX7, iX7, kX7⟩ := u_known (C := RX7) (T := TX7) (N := 10) (n := 10) hts (inT inCX7) (hts (.instantiable RX7 10) (tbC_in _ (List.mem_of_getElem? (i := 82) (by decide +kernel))))
  obtain ⟨cX8, iX8, kX8⟩ := u_known (C := RX8) (T := TX8) (N := 32) (n := 32) hts (inT inCX8) (hts (.instantiable RX8 32) (tbC_in _ (List.mem_of_getElem? (i := 86) (by decide +kernel))))
  obtain ⟨cI, kI, pI, a1, a2, a3⟩ := Cond.arrayClass_spec (hts (.arrayClass .int) (tbC_in _ (List.mem_of_getElem? (i := 90) (by decide +kernel))))
  obtain ⟨cZ, kZ, pZ, z1, z2, z3⟩ := Cond.arrayClass_spec (hts (.arrayClass .boolean) (tbC_in _ (List.mem_of_getElem? (i := 141) (by decide +kernel))))
  obtain ⟨D, hKc⟩ : ∃ D : va_G, ∀ (k : Nat) (q : vw_C), cls9[k]? = some q → u_Kn s q.1 q.2.1 q.2.2 (D.1 k) (D.2 k) := by
    refine ⟨(fun k => [cX0, cX1, cX2, cX0, cX4, cX5, cX6, cX7, cX8].getD k cX0, fun k => [iX0, iX1, iX2, iX0, iX4, iX5, iX6, iX7, iX8].getD k iX0), ?_⟩
    intro k q hq
    match k, hq with
    | 0, hq => obtain rfl : (RX0, TX0, 1) = q := Option.some.inj hq; exact kX0
    | 1, hq => obtain rfl : (RX1, TX1, 2) = q := Option.some.inj hq; exact kX1
    | 2, hq => obtain rfl : (RX2, TX2, 3) = q := Option.some.inj hq; exact kX2
    | 3, hq => obtain rfl : (RX0, TX0, 1) = q := Option.some.inj hq; exact kX0
    | 4, hq => obtain rfl : (RX4, TX4, 3) = q := Option.some.inj hq; exact kX4
    | 5, hq => obtain rfl : (RX5, TX5, 2) = q := Option.some.inj hq; exact kX5
    | 6, hq => obtain rfl : (RX6, TX6, 2) = q := Option.some.inj hq; exact kX6
    | 7, hq => obtain rfl : (RX7, TX7, 10) = q := Option.some.inj hq; exact kX7
    | 8, hq => obtain rfl : (RX8, TX8, 32) = q := Option.some.inj hq; exact kX8
    | k + 9, hq => rw [List.getElem?_eq_none (show cls9.length ≤ k + 9 from Nat.le_add_left 9 k)] at hq; cases hq
  obtain ⟨cA, hK⟩ : ∃ cA : Nat → ClassId, va_K D cls9 (pm_tys cA) s := by
    refine ⟨fun k => if k = 0 then cI else cZ, hKc, fun k q h => ?_⟩
    match k, h with
    | 0, h => obtain rfl : ((cI, FieldType.int) : ClassId × FieldType) = q := Option.some.inj h; exact ⟨fun n z => ⟨fun k h => (by cases h), kI, a2, pI, a3⟩, a1⟩
    | 1, h => obtain rfl : ((cZ, FieldType.boolean) : ClassId × FieldType) = q := Option.some.inj h; exact ⟨fun n z => ⟨fun k h => (by cases h), kZ, z2, pZ, z3⟩, z1⟩
    | k + 2, h => rw [List.getElem?_eq_none (show 2 ≤ k + 2 from Nat.le_add_left 2 k)] at h; cases h
  have hNW : pm_NW nst9 s := fun q hq => va_Nw.of rfl (hts _ (nst9_in q hq))
  have hS : va_S (fun q : Nat => s.heap.size ≤ q) s.heap s.heap [] := va_S.rf
  have hP : va_P D cls9 [] s.heap := fun k q h => by simp at h
  have hD : va_D (fun q : Nat => s.heap.size ≤ q) [] := ⟨fun i j p q h => by simp at h, fun k q h => by simp at h⟩
  have hl := lv_entry ([.ref b]) (n := 4) (Nat.le_of_ble_eq_true rfl)
  rw [lg_entry_eq]
  generalize (lg_sl ([.ref b]) ++ List.replicate (4 - (lg_sl ([.ref b])).length) Slot.unset).toArray = ls at hl ⊢
  have hl : lv_has ls 4 [(0, .ref b)] := hl
  refine va_new (ci := 7) (fs := [.null, .null, .null, .null, .null, .null, .null, .null, .null, .long 0]) (C := RX7) (T := TX7) (N := 10) hx hb hts (inT inCX7) tycX7 tycX7_ok hown (hts (.classLink R_law 7 RX7) (List.mem_of_getElem? (i := 44) (by decide +kernel))) (hts (.instantiable RX7 10) (tbC_in _ (List.mem_of_getElem? (i := 82) (by decide +kernel)))) (hts (.initialized RX7) (tbC_in _ (List.mem_of_getElem? (i := 81) (by decide +kernel)))) hK hP hD hS hA rfl (by decide +kernel) (Nat.le_of_ble_eq_true rfl) (Nat.le_of_ble_eq_true rfl) dl_0 (fun q0 H hP hD hS => ?_)
  have hP : va_P D cls9 [(q0, .inr (7, [.null, .null, .null, .null, .null, .null, .null, .null, .null, .long 0]))] H := hP
  have hD : va_D (fun q : Nat => s.heap.size ≤ q) [(q0, .inr (7, [.null, .null, .null, .null, .null, .null, .null, .null, .null, .long 0]))] := hD
  refine W.widen (k := 1) (n := 10) (Nat.le_of_ble_eq_true rfl) (Nat.le_of_ble_eq_true rfl) ?_
  refine lv_dup hx hb dl_3 rfl ?_
  have hPc := hP.sub (ws' := [(q0, .inr (7, [.null, .null, .null, .null, .null, .null, .null, .null, .null, .long 0]))]) [0] rfl
  have hDc := hD.sub (ws' := [(q0, .inr (7, [.null, .null, .null, .null, .null, .null, .null, .null, .null, .long 0]))]) [0] (by decide) rfl
  have hFc := va_free (wc := [(q0, .inr (7, [.null, .null, .null, .null, .null, .null, .null, .null, .null, .long 0]))]) hD hS hA [0] rfl
  refine va_callv (va_runI (As := []) (rest := [.ref q0]) ⟨hx, hb, hml, hown, hts⟩ (ct_X7 l D cA q0 H.size) (cwI 0 hts (gL (List.mem_of_getElem? (i := 79) (by decide +kernel))) rfl rfl rfl (hts (.initialized RX7) (tbC_in _ (List.mem_of_getElem? (i := 81) (by decide +kernel)))) (hts (.methodLink R_law 9 ycX7) (List.mem_of_getElem? (i := 46) (by decide +kernel))) (hts (.instanceMethod ycX7) (tbC_in _ (List.mem_of_getElem? (i := 80) (by decide +kernel)))) rfl (by decide +kernel) ⟨Nat.le_of_ble_eq_true rfl, Nat.le_of_ble_eq_true rfl⟩) ⟨fun a U g mk q => by obtain ⟨q0, q1, qP, qK, qD⟩ := q; exact ⟨q0, q1, qP, va_K.moved (u := U) (U := U.calling g mk a) (Vm.Alike.refl U.vm) qK, qD⟩, fun U hU hW => ⟨rfl, by rw [hU], by rw [hU]; exact hPc, va_K.moved hW.alike hK, hDc.weaken (fun _ _ _ _ => trivial)⟩⟩ rfl rfl hl.1 rfl (lv_room (Nat.le_of_ble_eq_true rfl)) dl_4 ⟨Nat.le_of_ble_eq_true rfl, Nat.le_of_ble_eq_true rfl⟩) hS (fun q _ h => hFc q h) hFc (fun u t H locs ht hvm hw hB hz1 hk1 hS => ?_)
  obtain ⟨q1, q2, q3, q4, q5, q6, q7, q8, q9, q10, q11, q12, q13, q14, hP1, hD1⟩ := hB
  rw [ht] at hP1
  obtain ⟨hP, hD⟩ := va_join (wr := []) (w1 := [(q0, .inr (7, [.ref q1, .ref q3, .ref q5, .ref q7, .ref q9, .ref q11, .ref q12, .ref q13, .ref q14, .long 0])), (q1, .inr (6, [.ref q2, .int 0])), (q2, .inl (cA 0, 48, .inl (fun _ => 0))), (q3, .inr (0, [.ref q4])), (q4, .inl (cA 0, 28, .inl (fun _ => 0))), (q5, .inr (0, [.ref q6])), (q6, .inl (cA 0, 28, .inl (fun _ => 0))), (q7, .inr (2, [.ref q8, .int 0, .int 0])), (q8, .inl (cA 0, 420, .inl (fun _ => 0))), (q9, .inr (5, [.ref q10, .int 0])), (q10, .inl (cA 0, 56, .inl (fun _ => 0))), (q11, .inr (4, [.int 0, .int 0, .int 0])), (q12, .inr (1, [.int (-9), .int (-9)])), (q13, .inl (cA 0, 4, .inl (fun _ => 0))), (q14, .inl (cA 0, 6, .inl (fun _ => 0)))]) hP hD [0] [] rfl rfl (by decide) (by decide) hk1 hFc hP1 hD1
  have hP : va_P D cls9 [(q0, .inr (7, [.ref q1, .ref q3, .ref q5, .ref q7, .ref q9, .ref q11, .ref q12, .ref q13, .ref q14, .long 0])), (q1, .inr (6, [.ref q2, .int 0])), (q2, .inl (cA 0, 48, .inl (fun _ => 0))), (q3, .inr (0, [.ref q4])), (q4, .inl (cA 0, 28, .inl (fun _ => 0))), (q5, .inr (0, [.ref q6])), (q6, .inl (cA 0, 28, .inl (fun _ => 0))), (q7, .inr (2, [.ref q8, .int 0, .int 0])), (q8, .inl (cA 0, 420, .inl (fun _ => 0))), (q9, .inr (5, [.ref q10, .int 0])), (q10, .inl (cA 0, 56, .inl (fun _ => 0))), (q11, .inr (4, [.int 0, .int 0, .int 0])), (q12, .inr (1, [.int (-9), .int (-9)])), (q13, .inl (cA 0, 4, .inl (fun _ => 0))), (q14, .inl (cA 0, 6, .inl (fun _ => 0)))] H := hP
  have hD : va_D (fun q : Nat => s.heap.size ≤ q) [(q0, .inr (7, [.ref q1, .ref q3, .ref q5, .ref q7, .ref q9, .ref q11, .ref q12, .ref q13, .ref q14, .long 0])), (q1, .inr (6, [.ref q2, .int 0])), (q2, .inl (cA 0, 48, .inl (fun _ => 0))), (q3, .inr (0, [.ref q4])), (q4, .inl (cA 0, 28, .inl (fun _ => 0))), (q5, .inr (0, [.ref q6])), (q6, .inl (cA 0, 28, .inl (fun _ => 0))), (q7, .inr (2, [.ref q8, .int 0, .int 0])), (q8, .inl (cA 0, 420, .inl (fun _ => 0))), (q9, .inr (5, [.ref q10, .int 0])), (q10, .inl (cA 0, 56, .inl (fun _ => 0))), (q11, .inr (4, [.int 0, .int 0, .int 0])), (q12, .inr (1, [.int (-9), .int (-9)])), (q13, .inl (cA 0, 4, .inl (fun _ => 0))), (q14, .inl (cA 0, 6, .inl (fun _ => 0)))] := hD
  clear hPc hDc hFc hk1 hP1 hD1 ht hvm hz1 hw
  refine W.widen (k := 15) (n := 614) (Nat.le_of_ble_eq_true rfl) (Nat.le_of_ble_eq_true rfl) ?_
  refine lv_astore_n (lv' := [(1, .ref q0), (0, .ref b)]) hx hb dl_7 rfl hl (by decide) rfl (fun ls hl => ?_)
  refine va_new (ci := 8) (fs := [.int 0, .null, .int 0, .int 0, .int 0, .int 0, .null, .int 0, .int 0, .int 0, .int 0, .null, .int 0, .null, .null, .null, .null, .int 0, .null, .null, .int 0, .null, .null, .long 0, .int 0, .int 0, .int 0, .int 0, .int 0, .int 0, .null, .null]) (C := RX8) (T := TX8) (N := 32) hx hb hts (inT inCX8) tycX8 tycX8_ok hown (hts (.classLink R_law 10 RX8) (List.mem_of_getElem? (i := 629) (by decide +kernel))) (hts (.instantiable RX8 32) (tbC_in _ (List.mem_of_getElem? (i := 86) (by decide +kernel)))) (hts (.initialized RX8) (tbC_in _ (List.mem_of_getElem? (i := 85) (by decide +kernel)))) hK hP hD hS hA rfl (by decide +kernel) (Nat.le_of_ble_eq_true rfl) (Nat.le_of_ble_eq_true rfl) dl_8 (fun r0 H hP hD hS => ?_)
  have hP : va_P D cls9 [(q0, .inr (7, [.ref q1, .ref q3, .ref q5, .ref q7, .ref q9, .ref q11, .ref q12, .ref q13, .ref q14, .long 0])), (q1, .inr (6, [.ref q2, .int 0])), (q2, .inl (cA 0, 48, .inl (fun _ => 0))), (q3, .inr (0, [.ref q4])), (q4, .inl (cA 0, 28, .inl (fun _ => 0))), (q5, .inr (0, [.ref q6])), (q6, .inl (cA 0, 28, .inl (fun _ => 0))), (q7, .inr (2, [.ref q8, .int 0, .int 0])), (q8, .inl (cA 0, 420, .inl (fun _ => 0))), (q9, .inr (5, [.ref q10, .int 0])), (q10, .inl (cA 0, 56, .inl (fun _ => 0))), (q11, .inr (4, [.int 0, .int 0, .int 0])), (q12, .inr (1, [.int (-9), .int (-9)])), (q13, .inl (cA 0, 4, .inl (fun _ => 0))), (q14, .inl (cA 0, 6, .inl (fun _ => 0))), (r0, .inr (8, [.int 0, .null, .int 0, .int 0, .int 0, .int 0, .null, .int 0, .int 0, .int 0, .int 0, .null, .int 0, .null, .null, .null, .null, .int 0, .null, .null, .int 0, .null, .null, .long 0, .int 0, .int 0, .int 0, .int 0, .int 0, .int 0, .null, .null]))] H := hP
  have hD : va_D (fun q : Nat => s.heap.size ≤ q) [(q0, .inr (7, [.ref q1, .ref q3, .ref q5, .ref q7, .ref q9, .ref q11, .ref q12, .ref q13, .ref q14, .long 0])), (q1, .inr (6, [.ref q2, .int 0])), (q2, .inl (cA 0, 48, .inl (fun _ => 0))), (q3, .inr (0, [.ref q4])), (q4, .inl (cA 0, 28, .inl (fun _ => 0))), (q5, .inr (0, [.ref q6])), (q6, .inl (cA 0, 28, .inl (fun _ => 0))), (q7, .inr (2, [.ref q8, .int 0, .int 0])), (q8, .inl (cA 0, 420, .inl (fun _ => 0))), (q9, .inr (5, [.ref q10, .int 0])), (q10, .inl (cA 0, 56, .inl (fun _ => 0))), (q11, .inr (4, [.int 0, .int 0, .int 0])), (q12, .inr (1, [.int (-9), .int (-9)])), (q13, .inl (cA 0, 4, .inl (fun _ => 0))), (q14, .inl (cA 0, 6, .inl (fun _ => 0))), (r0, .inr (8, [.int 0, .null, .int 0, .int 0, .int 0, .int 0, .null, .int 0, .int 0, .int 0, .int 0, .null, .int 0, .null, .null, .null, .null, .int 0, .null, .null, .int 0, .null, .null, .long 0, .int 0, .int 0, .int 0, .int 0, .int 0, .int 0, .null, .null]))] := hD
  refine W.widen (k := 16) (n := 646) (Nat.le_of_ble_eq_true rfl) (Nat.le_of_ble_eq_true rfl) ?_
  refine lv_dup hx hb dl_11 rfl ?_
  have hPc := hP.sub (ws' := [(r0, .inr (8, [.int 0, .null, .int 0, .int 0, .int 0, .int 0, .null, .int 0, .int 0, .int 0, .int 0, .null, .int 0, .null, .null, .null, .null, .int 0, .null, .null, .int 0, .null, .null, .long 0, .int 0, .int 0, .int 0, .int 0, .int 0, .int 0, .null, .null]))]) [15] rfl
  have hDc := hD.sub (ws' := [(r0, .inr (8, [.int 0, .null, .int 0, .int 0, .int 0, .int 0, .null, .int 0, .int 0, .int 0, .int 0, .null, .int 0, .null, .null, .null, .null, .int 0, .null, .null, .int 0, .null, .null, .long 0, .int 0, .int 0, .int 0, .int 0, .int 0, .int 0, .null, .null]))]) [15] (by decide) rfl
  have hFc := va_free (wc := [(r0, .inr (8, [.int 0, .null, .int 0, .int 0, .int 0, .int 0, .null, .int 0, .int 0, .int 0, .int 0, .null, .int 0, .null, .null, .null, .null, .int 0, .null, .null, .int 0, .null, .null, .long 0, .int 0, .int 0, .int 0, .int 0, .int 0, .int 0, .null, .null]))]) hD hS hA [15] rfl
  refine va_callv (va_runI (As := []) (rest := [.ref r0]) ⟨hx, hb, hml, hown, hts⟩ (ct_X8 l D cA r0 H.size) (cwI 0 hts (gL (List.mem_of_getElem? (i := 83) (by decide +kernel))) rfl rfl rfl (hts (.initialized RX8) (tbC_in _ (List.mem_of_getElem? (i := 85) (by decide +kernel)))) (hts (.methodLink R_law 12 ycX8) (List.mem_of_getElem? (i := 631) (by decide +kernel))) (hts (.instanceMethod ycX8) (tbC_in _ (List.mem_of_getElem? (i := 84) (by decide +kernel)))) rfl (by decide +kernel) ⟨Nat.le_of_ble_eq_true rfl, Nat.le_of_ble_eq_true rfl⟩) ⟨fun a U g mk q => by obtain ⟨q0, q1, qP, qK, qD⟩ := q; exact ⟨q0, q1, qP, va_K.moved (u := U) (U := U.calling g mk a) (Vm.Alike.refl U.vm) qK, qD⟩, fun U hU hW => ⟨rfl, by rw [hU], by rw [hU]; exact hPc, va_K.moved hW.alike hK, hDc.weaken (fun _ _ _ _ => trivial)⟩⟩ rfl rfl hl.1 rfl (lv_room (Nat.le_of_ble_eq_true rfl)) dl_12 ⟨Nat.le_of_ble_eq_true rfl, Nat.le_of_ble_eq_true rfl⟩) hS (fun q _ h => hFc q h) hFc (fun u t H locs ht hvm hw hB hz1 hk1 hS => ?_)
  obtain ⟨r1, r2, r3, r4, r5, r6, r7, r8, r9, r10, r11, r12, r13, hP1, hD1⟩ := hB
  rw [ht] at hP1
  obtain ⟨hP, hD⟩ := va_join (wr := [(q0, .inr (7, [.ref q1, .ref q3, .ref q5, .ref q7, .ref q9, .ref q11, .ref q12, .ref q13, .ref q14, .long 0])), (q1, .inr (6, [.ref q2, .int 0])), (q2, .inl (cA 0, 48, .inl (fun _ => 0))), (q3, .inr (0, [.ref q4])), (q4, .inl (cA 0, 28, .inl (fun _ => 0))), (q5, .inr (0, [.ref q6])), (q6, .inl (cA 0, 28, .inl (fun _ => 0))), (q7, .inr (2, [.ref q8, .int 0, .int 0])), (q8, .inl (cA 0, 420, .inl (fun _ => 0))), (q9, .inr (5, [.ref q10, .int 0])), (q10, .inl (cA 0, 56, .inl (fun _ => 0))), (q11, .inr (4, [.int 0, .int 0, .int 0])), (q12, .inr (1, [.int (-9), .int (-9)])), (q13, .inl (cA 0, 4, .inl (fun _ => 0))), (q14, .inl (cA 0, 6, .inl (fun _ => 0)))]) (w1 := [(r0, .inr (8, [.int 0, .ref r1, .int 0, .int 0, .int 0, .int 0, .ref r2, .int 0, .int 0, .int 0, .int 0, .ref r3, .int 0, .ref r4, .ref r5, .ref r6, .ref r7, .int 0, .ref r8, .ref r9, .int 0, .ref r10, .ref r11, .long 0, .int 0, .int 0, .int 0, .int 0, .int 0, .int 0, .ref r12, .ref r13])), (r1, .inl (cA 0, 48, .inl (fun _ => 0))), (r2, .inl (cA 0, 4, .inl (fun _ => 0))), (r3, .inl (cA 0, 8, .inl (fun _ => 0))), (r4, .inl (cA 0, 5, .inl (fun _ => 0))), (r5, .inl (cA 0, 21, .inl (fun _ => 0))), (r6, .inl (cA 0, 21, .inl (fun _ => 0))), (r7, .inl (cA 0, 294, .inl (fun _ => 0))), (r8, .inl (cA 0, 42, .inl (fun _ => 0))), (r9, .inl (cA 1, 2, .inl (fun _ => 0))), (r10, .inl (cA 0, 6, .inl (fun _ => 0))), (r11, .inl (cA 0, 6, .inl (fun _ => 0))), (r12, .inl (cA 0, 18, .inl (fun _ => 0))), (r13, .inl (cA 0, 16, .inl (fun _ => 0)))]) hP hD [15] [0, 1, 2, 3, 4, 5, 6, 7, 8, 9, 10, 11, 12, 13, 14] rfl rfl (by decide) (by decide) hk1 hFc hP1 hD1
  have hP : va_P D cls9 [(q0, .inr (7, [.ref q1, .ref q3, .ref q5, .ref q7, .ref q9, .ref q11, .ref q12, .ref q13, .ref q14, .long 0])), (q1, .inr (6, [.ref q2, .int 0])), (q2, .inl (cA 0, 48, .inl (fun _ => 0))), (q3, .inr (0, [.ref q4])), (q4, .inl (cA 0, 28, .inl (fun _ => 0))), (q5, .inr (0, [.ref q6])), (q6, .inl (cA 0, 28, .inl (fun _ => 0))), (q7, .inr (2, [.ref q8, .int 0, .int 0])), (q8, .inl (cA 0, 420, .inl (fun _ => 0))), (q9, .inr (5, [.ref q10, .int 0])), (q10, .inl (cA 0, 56, .inl (fun _ => 0))), (q11, .inr (4, [.int 0, .int 0, .int 0])), (q12, .inr (1, [.int (-9), .int (-9)])), (q13, .inl (cA 0, 4, .inl (fun _ => 0))), (q14, .inl (cA 0, 6, .inl (fun _ => 0))), (r0, .inr (8, [.int 0, .ref r1, .int 0, .int 0, .int 0, .int 0, .ref r2, .int 0, .int 0, .int 0, .int 0, .ref r3, .int 0, .ref r4, .ref r5, .ref r6, .ref r7, .int 0, .ref r8, .ref r9, .int 0, .ref r10, .ref r11, .long 0, .int 0, .int 0, .int 0, .int 0, .int 0, .int 0, .ref r12, .ref r13])), (r1, .inl (cA 0, 48, .inl (fun _ => 0))), (r2, .inl (cA 0, 4, .inl (fun _ => 0))), (r3, .inl (cA 0, 8, .inl (fun _ => 0))), (r4, .inl (cA 0, 5, .inl (fun _ => 0))), (r5, .inl (cA 0, 21, .inl (fun _ => 0))), (r6, .inl (cA 0, 21, .inl (fun _ => 0))), (r7, .inl (cA 0, 294, .inl (fun _ => 0))), (r8, .inl (cA 0, 42, .inl (fun _ => 0))), (r9, .inl (cA 1, 2, .inl (fun _ => 0))), (r10, .inl (cA 0, 6, .inl (fun _ => 0))), (r11, .inl (cA 0, 6, .inl (fun _ => 0))), (r12, .inl (cA 0, 18, .inl (fun _ => 0))), (r13, .inl (cA 0, 16, .inl (fun _ => 0)))] H := hP
  have hD : va_D (fun q : Nat => s.heap.size ≤ q) [(q0, .inr (7, [.ref q1, .ref q3, .ref q5, .ref q7, .ref q9, .ref q11, .ref q12, .ref q13, .ref q14, .long 0])), (q1, .inr (6, [.ref q2, .int 0])), (q2, .inl (cA 0, 48, .inl (fun _ => 0))), (q3, .inr (0, [.ref q4])), (q4, .inl (cA 0, 28, .inl (fun _ => 0))), (q5, .inr (0, [.ref q6])), (q6, .inl (cA 0, 28, .inl (fun _ => 0))), (q7, .inr (2, [.ref q8, .int 0, .int 0])), (q8, .inl (cA 0, 420, .inl (fun _ => 0))), (q9, .inr (5, [.ref q10, .int 0])), (q10, .inl (cA 0, 56, .inl (fun _ => 0))), (q11, .inr (4, [.int 0, .int 0, .int 0])), (q12, .inr (1, [.int (-9), .int (-9)])), (q13, .inl (cA 0, 4, .inl (fun _ => 0))), (q14, .inl (cA 0, 6, .inl (fun _ => 0))), (r0, .inr (8, [.int 0, .ref r1, .int 0, .int 0, .int 0, .int 0, .ref r2, .int 0, .int 0, .int 0, .int 0, .ref r3, .int 0, .ref r4, .ref r5, .ref r6, .ref r7, .int 0, .ref r8, .ref r9, .int 0, .ref r10, .ref r11, .long 0, .int 0, .int 0, .int 0, .int 0, .int 0, .int 0, .ref r12, .ref r13])), (r1, .inl (cA 0, 48, .inl (fun _ => 0))), (r2, .inl (cA 0, 4, .inl (fun _ => 0))), (r3, .inl (cA 0, 8, .inl (fun _ => 0))), (r4, .inl (cA 0, 5, .inl (fun _ => 0))), (r5, .inl (cA 0, 21, .inl (fun _ => 0))), (r6, .inl (cA 0, 21, .inl (fun _ => 0))), (r7, .inl (cA 0, 294, .inl (fun _ => 0))), (r8, .inl (cA 0, 42, .inl (fun _ => 0))), (r9, .inl (cA 1, 2, .inl (fun _ => 0))), (r10, .inl (cA 0, 6, .inl (fun _ => 0))), (r11, .inl (cA 0, 6, .inl (fun _ => 0))), (r12, .inl (cA 0, 18, .inl (fun _ => 0))), (r13, .inl (cA 0, 16, .inl (fun _ => 0)))] := hD
  clear hPc hDc hFc hk1 hP1 hD1 ht hvm hz1 hw
  refine W.widen (k := 29) (n := 1137) (Nat.le_of_ble_eq_true rfl) (Nat.le_of_ble_eq_true rfl) ?_
  refine lv_astore_n (lv' := [(2, .ref r0), (1, .ref q0), (0, .ref b)]) hx hb dl_15 rfl hl (by decide) rfl (fun ls hl => ?_)
  refine lv_iconst (v := 0) hx hb dl_16 (by decide) ?_
  refine lv_istore_n (lv' := [(3, .int 0), (2, .ref r0), (1, .ref q0), (0, .ref b)]) hx hb dl_17 rfl hl (by decide) rfl (fun ls hl => ?_)
  have hl : lv_has ls 4 [(0, .ref b), (1, .ref q0), (2, .ref r0), (3, .int (nI 0))] := lv_sub hl [3, 2, 1, 0] rfl
  refine W.widen (k := 600000) (n := 7302250) (Nat.le_of_ble_eq_true rfl) (Nat.le_of_ble_eq_true rfl) ?_
  have hP : va_P D cls9 (pm_ws (fun i => [q0, q1, q2, q3, q4, q5, q6, q7, q8, q9, q10, q11, q12, q13, q14].getD i 0) cA (hX i9 f9 0) ++ pm_ws (fun i => [r0, r1, r2, r3, r4, r5, r6, r7, r8, r9, r10, r11, r12, r13].getD i 0) cA (hY j9 f9 0)) H := hP
  have hD : va_D (fun q : Nat => s.heap.size ≤ q) (pm_ws (fun i => [q0, q1, q2, q3, q4, q5, q6, q7, q8, q9, q10, q11, q12, q13, q14].getD i 0) cA (hX i9 f9 0) ++ pm_ws (fun i => [r0, r1, r2, r3, r4, r5, r6, r7, r8, r9, r10, r11, r12, r13].getD i 0) cA (hY j9 f9 0)) := hD
  have C := LwC_of hK hNW hD
  obtain ⟨hP1, hP2⟩ := va_P_split hP
  exact law_loop hL C0 C (L + 1) 0 0 (Nat.zero_le L) (by omega) rfl i9 j9 f9 f9 0 (SR_0 i9_0 (fun _ => rfl) rfl (fun _ => rfl) (fun _ _ => rfl)) H _ ls hl hP1 hP2 hS
