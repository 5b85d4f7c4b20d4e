/-! a theorem a call of the law -/
theorem lk_0 {p : Program} {l : Launch} {e : Env} {s : State} {m : MethodId} {below : List Frame} {meth : Method} {c : Code} {b L : Nat} {xs : Nat → Int32} {D : va_G} {cA : Nat → ClassId} {aX aY : Nat → Nat} {H : Heap} {locs : List Loc} {Q : State → Prop} {ls : Array Slot} {n9 i : Nat} {I J : Nat → Int32} {F G : Nat → Nat → Int32} {sd : Int64} (C0 : lw_At p s m meth c b L xs) (C : LwC s D cA aX aY) (hL : L ≤ 2048) (hi : i + 4 ≤ L) (hc : n9 ≤ 600) (h : SR n9 I F J G) (hl : lv_has ls 4 [(0, .ref b), (1, .ref (aX 0)), (2, .ref (aY 0)), (3, .int (nI i))]) (hP1 : va_P D cls9 (pm_ws aX cA (hX I F sd)) H) (hP2 : va_P D cls9 (pm_ws aY cA (hY J G sd)) H) (hS : va_S (fun q => s.heap.size ≤ q) s.heap H locs) (kk : LwK p l e s m below meth c b D cA aX aY Q ls (n9 + 1)) : W p l e room_1 s m #[Value.ref b] below meth c H locs 600000 7302250 Q (F0 m 156 ls []) := by
  have hx := C0.1
  have hb := C0.2.1
  obtain ⟨x, I2, F2, J2, G2, sd2, eX, eY, hR⟩ := op_write (sd := sd) h (xs (i + 1))
  refine lv_aload_n hx hb dl_156 rfl (lv_at hl 1 rfl) ?_
  refine lw_arg (k := 1) C0 hL (by omega) (by decide +kernel) dA_157 hl hS ?_
  refine lw_cX (as := [.int (xs (i + 1))]) (g := hY J G sd) (rest := []) C0 C wl_70 rfl eX rfl rfl rfl rfl hl.1 (Nat.le_of_ble_eq_true rfl) dl_162 hP1 hP2 hS (fun H locs hP1 hP2 hS => ?_)
  refine lv_aload_n hx hb dl_165 rfl (lv_at hl 2 rfl) ?_
  refine lw_arg (k := 1) C0 hL (by omega) (by decide +kernel) dA_166 hl hS ?_
  refine lw_cY (as := [.int (xs (i + 1))]) (g := hX I2 F2 sd2) (rest := [.int x]) C0 C wl_114 rfl eY rfl rfl rfl rfl hl.1 (Nat.le_of_ble_eq_true rfl) dl_171 hP2 hP1 hS (fun H locs hP2 hP1 hS => ?_)
  exact lv_icmp_eq (tgt := 950) hx hb dl_174 (by decide) (fun _ => kk I2 F2 J2 G2 sd2 _ _ hR hP1 hP2 hS) (fun q => absurd rfl q)
theorem lk_1 {p : Program} {l : Launch} {e : Env} {s : State} {m : MethodId} {below : List Frame} {meth : Method} {c : Code} {b L : Nat} {xs : Nat → Int32} {D : va_G} {cA : Nat → ClassId} {aX aY : Nat → Nat} {H : Heap} {locs : List Loc} {Q : State → Prop} {ls : Array Slot} {n9 i : Nat} {I J : Nat → Int32} {F G : Nat → Nat → Int32} {sd : Int64} (C0 : lw_At p s m meth c b L xs) (C : LwC s D cA aX aY) (hL : L ≤ 2048) (hi : i + 4 ≤ L) (hc : n9 ≤ 600) (h : SR n9 I F J G) (hl : lv_has ls 4 [(0, .ref b), (1, .ref (aX 0)), (2, .ref (aY 0)), (3, .int (nI i))]) (hP1 : va_P D cls9 (pm_ws aX cA (hX I F sd)) H) (hP2 : va_P D cls9 (pm_ws aY cA (hY J G sd)) H) (hS : va_S (fun q => s.heap.size ≤ q) s.heap H locs) (kk : LwK p l e s m below meth c b D cA aX aY Q ls (n9 + 1)) : W p l e room_1 s m #[Value.ref b] below meth c H locs 600000 7302250 Q (F0 m 179 ls []) := by
  have hx := C0.1
  have hb := C0.2.1
  obtain ⟨x, I2, F2, J2, G2, sd2, eX, eY, hR⟩ := op_wipe (sd := sd) h
  refine lv_aload_n hx hb dl_179 rfl (lv_at hl 1 rfl) ?_
  refine lw_cX (as := []) (g := hY J G sd) (rest := []) C0 C wl_71 rfl eX rfl rfl rfl rfl hl.1 (Nat.le_of_ble_eq_true rfl) dl_180 hP1 hP2 hS (fun H locs hP1 hP2 hS => ?_)
  refine lv_aload_n hx hb dl_183 rfl (lv_at hl 2 rfl) ?_
  refine lw_cY (as := []) (g := hX I2 F2 sd2) (rest := [.int x]) C0 C wl_115 rfl eY rfl rfl rfl rfl hl.1 (Nat.le_of_ble_eq_true rfl) dl_184 hP2 hP1 hS (fun H locs hP2 hP1 hS => ?_)
  exact lv_icmp_eq (tgt := 950) hx hb dl_187 (by decide) (fun _ => kk I2 F2 J2 G2 sd2 _ _ hR hP1 hP2 hS) (fun q => absurd rfl q)
theorem lk_2 {p : Program} {l : Launch} {e : Env} {s : State} {m : MethodId} {below : List Frame} {meth : Method} {c : Code} {b L : Nat} {xs : Nat → Int32} {D : va_G} {cA : Nat → ClassId} {aX aY : Nat → Nat} {H : Heap} {locs : List Loc} {Q : State → Prop} {ls : Array Slot} {n9 i : Nat} {I J : Nat → Int32} {F G : Nat → Nat → Int32} {sd : Int64} (C0 : lw_At p s m meth c b L xs) (C : LwC s D cA aX aY) (hL : L ≤ 2048) (hi : i + 4 ≤ L) (hc : n9 ≤ 600) (h : SR n9 I F J G) (hl : lv_has ls 4 [(0, .ref b), (1, .ref (aX 0)), (2, .ref (aY 0)), (3, .int (nI i))]) (hP1 : va_P D cls9 (pm_ws aX cA (hX I F sd)) H) (hP2 : va_P D cls9 (pm_ws aY cA (hY J G sd)) H) (hS : va_S (fun q => s.heap.size ≤ q) s.heap H locs) (kk : LwK p l e s m below meth c b D cA aX aY Q ls (n9 + 1)) : W p l e room_1 s m #[Value.ref b] below meth c H locs 600000 7302250 Q (F0 m 192 ls []) := by
  have hx := C0.1
  have hb := C0.2.1
  obtain ⟨x, I2, F2, J2, G2, sd2, eX, eY, hR⟩ := op_fault (sd := sd) h
  refine lv_aload_n hx hb dl_192 rfl (lv_at hl 1 rfl) ?_
  refine lw_cX (as := []) (g := hY J G sd) (rest := []) C0 C wl_72 rfl eX rfl rfl rfl rfl hl.1 (Nat.le_of_ble_eq_true rfl) dl_193 hP1 hP2 hS (fun H locs hP1 hP2 hS => ?_)
  refine lv_aload_n hx hb dl_196 rfl (lv_at hl 2 rfl) ?_
  refine lw_cY (as := []) (g := hX I2 F2 sd2) (rest := [.int x]) C0 C wl_121 rfl eY rfl rfl rfl rfl hl.1 (Nat.le_of_ble_eq_true rfl) dl_197 hP2 hP1 hS (fun H locs hP2 hP1 hS => ?_)
  exact lv_icmp_eq (tgt := 950) hx hb dl_200 (by decide) (fun _ => kk I2 F2 J2 G2 sd2 _ _ hR hP1 hP2 hS) (fun q => absurd rfl q)
theorem lk_3 {p : Program} {l : Launch} {e : Env} {s : State} {m : MethodId} {below : List Frame} {meth : Method} {c : Code} {b L : Nat} {xs : Nat → Int32} {D : va_G} {cA : Nat → ClassId} {aX aY : Nat → Nat} {H : Heap} {locs : List Loc} {Q : State → Prop} {ls : Array Slot} {n9 i : Nat} {I J : Nat → Int32} {F G : Nat → Nat → Int32} {sd : Int64} (C0 : lw_At p s m meth c b L xs) (C : LwC s D cA aX aY) (hL : L ≤ 2048) (hi : i + 4 ≤ L) (hc : n9 ≤ 600) (h : SR n9 I F J G) (hl : lv_has ls 4 [(0, .ref b), (1, .ref (aX 0)), (2, .ref (aY 0)), (3, .int (nI i))]) (hP1 : va_P D cls9 (pm_ws aX cA (hX I F sd)) H) (hP2 : va_P D cls9 (pm_ws aY cA (hY J G sd)) H) (hS : va_S (fun q => s.heap.size ≤ q) s.heap H locs) (kk : LwK p l e s m below meth c b D cA aX aY Q ls (n9 + 1)) : W p l e room_1 s m #[Value.ref b] below meth c H locs 600000 7302250 Q (F0 m 205 ls []) := by
  have hx := C0.1
  have hb := C0.2.1
  obtain ⟨x, I2, F2, J2, G2, sd2, eX, eY, hR⟩ := op_manor (sd := sd) h
  refine lv_aload_n hx hb dl_205 rfl (lv_at hl 1 rfl) ?_
  refine lw_cX (as := []) (g := hY J G sd) (rest := []) C0 C wl_73 rfl eX rfl rfl rfl rfl hl.1 (Nat.le_of_ble_eq_true rfl) dl_206 hP1 hP2 hS (fun H locs hP1 hP2 hS => ?_)
  refine lv_aload_n hx hb dl_209 rfl (lv_at hl 2 rfl) ?_
  refine lw_cY (as := []) (g := hX I2 F2 sd2) (rest := [.int x]) C0 C wl_122 rfl eY rfl rfl rfl rfl hl.1 (Nat.le_of_ble_eq_true rfl) dl_210 hP2 hP1 hS (fun H locs hP2 hP1 hS => ?_)
  exact lv_icmp_eq (tgt := 950) hx hb dl_213 (by decide) (fun _ => kk I2 F2 J2 G2 sd2 _ _ hR hP1 hP2 hS) (fun q => absurd rfl q)
theorem lk_4 {p : Program} {l : Launch} {e : Env} {s : State} {m : MethodId} {below : List Frame} {meth : Method} {c : Code} {b L : Nat} {xs : Nat → Int32} {D : va_G} {cA : Nat → ClassId} {aX aY : Nat → Nat} {H : Heap} {locs : List Loc} {Q : State → Prop} {ls : Array Slot} {n9 i : Nat} {I J : Nat → Int32} {F G : Nat → Nat → Int32} {sd : Int64} (C0 : lw_At p s m meth c b L xs) (C : LwC s D cA aX aY) (hL : L ≤ 2048) (hi : i + 4 ≤ L) (hc : n9 ≤ 600) (h : SR n9 I F J G) (hl : lv_has ls 4 [(0, .ref b), (1, .ref (aX 0)), (2, .ref (aY 0)), (3, .int (nI i))]) (hP1 : va_P D cls9 (pm_ws aX cA (hX I F sd)) H) (hP2 : va_P D cls9 (pm_ws aY cA (hY J G sd)) H) (hS : va_S (fun q => s.heap.size ≤ q) s.heap H locs) (kk : LwK p l e s m below meth c b D cA aX aY Q ls (n9 + 1)) : W p l e room_1 s m #[Value.ref b] below meth c H locs 600000 7302250 Q (F0 m 218 ls []) := by
  have hx := C0.1
  have hb := C0.2.1
  obtain ⟨x, I2, F2, J2, G2, sd2, eX, eY, hR⟩ := op_about (sd := sd) h (xs (i + 1))
  refine lv_aload_n hx hb dl_218 rfl (lv_at hl 1 rfl) ?_
  refine lw_arg (k := 1) C0 hL (by omega) (by decide +kernel) dA_219 hl hS ?_
  refine lw_cX (as := [.int (xs (i + 1))]) (g := hY J G sd) (rest := []) C0 C wl_74 rfl eX rfl rfl rfl rfl hl.1 (Nat.le_of_ble_eq_true rfl) dl_224 hP1 hP2 hS (fun H locs hP1 hP2 hS => ?_)
  refine lv_aload_n hx hb dl_227 rfl (lv_at hl 2 rfl) ?_
  refine lw_arg (k := 1) C0 hL (by omega) (by decide +kernel) dA_228 hl hS ?_
  refine lw_cY (as := [.int (xs (i + 1))]) (g := hX I2 F2 sd2) (rest := [.int x]) C0 C wl_131 rfl eY rfl rfl rfl rfl hl.1 (Nat.le_of_ble_eq_true rfl) dl_233 hP2 hP1 hS (fun H locs hP2 hP1 hS => ?_)
  exact lv_icmp_eq (tgt := 950) hx hb dl_236 (by decide) (fun _ => kk I2 F2 J2 G2 sd2 _ _ hR hP1 hP2 hS) (fun q => absurd rfl q)
theorem lk_5 {p : Program} {l : Launch} {e : Env} {s : State} {m : MethodId} {below : List Frame} {meth : Method} {c : Code} {b L : Nat} {xs : Nat → Int32} {D : va_G} {cA : Nat → ClassId} {aX aY : Nat → Nat} {H : Heap} {locs : List Loc} {Q : State → Prop} {ls : Array Slot} {n9 i : Nat} {I J : Nat → Int32} {F G : Nat → Nat → Int32} {sd : Int64} (C0 : lw_At p s m meth c b L xs) (C : LwC s D cA aX aY) (hL : L ≤ 2048) (hi : i + 4 ≤ L) (hc : n9 ≤ 600) (h : SR n9 I F J G) (hl : lv_has ls 4 [(0, .ref b), (1, .ref (aX 0)), (2, .ref (aY 0)), (3, .int (nI i))]) (hP1 : va_P D cls9 (pm_ws aX cA (hX I F sd)) H) (hP2 : va_P D cls9 (pm_ws aY cA (hY J G sd)) H) (hS : va_S (fun q => s.heap.size ≤ q) s.heap H locs) (kk : LwK p l e s m below meth c b D cA aX aY Q ls (n9 + 1)) : W p l e room_1 s m #[Value.ref b] below meth c H locs 600000 7302250 Q (F0 m 241 ls []) := by
  have hx := C0.1
  have hb := C0.2.1
  obtain ⟨x, I2, F2, J2, G2, sd2, eX, eY, hR⟩ := op_food (sd := sd) h (xs (i + 1)) (xs (i + 2))
  refine lv_aload_n hx hb dl_241 rfl (lv_at hl 1 rfl) ?_
  refine lw_arg (k := 1) C0 hL (by omega) (by decide +kernel) dA_242 hl hS ?_
  refine lw_arg (k := 2) C0 hL (by omega) (by decide +kernel) dA_247 hl hS ?_
  refine lw_cX (as := [.int (xs (i + 1)), .int (xs (i + 2))]) (g := hY J G sd) (rest := []) C0 C wl_75 rfl eX rfl rfl rfl rfl hl.1 (Nat.le_of_ble_eq_true rfl) dl_252 hP1 hP2 hS (fun H locs hP1 hP2 hS => ?_)
  refine lv_aload_n hx hb dl_255 rfl (lv_at hl 2 rfl) ?_
  refine lw_arg (k := 1) C0 hL (by omega) (by decide +kernel) dA_256 hl hS ?_
  refine lw_arg (k := 2) C0 hL (by omega) (by decide +kernel) dA_261 hl hS ?_
  refine lw_cY (as := [.int (xs (i + 1)), .int (xs (i + 2))]) (g := hX I2 F2 sd2) (rest := [.int x]) C0 C wl_132 rfl eY rfl rfl rfl rfl hl.1 (Nat.le_of_ble_eq_true rfl) dl_266 hP2 hP1 hS (fun H locs hP2 hP1 hS => ?_)
  exact lv_icmp_eq (tgt := 950) hx hb dl_269 (by decide) (fun _ => kk I2 F2 J2 G2 sd2 _ _ hR hP1 hP2 hS) (fun q => absurd rfl q)
theorem lk_6 {p : Program} {l : Launch} {e : Env} {s : State} {m : MethodId} {below : List Frame} {meth : Method} {c : Code} {b L : Nat} {xs : Nat → Int32} {D : va_G} {cA : Nat → ClassId} {aX aY : Nat → Nat} {H : Heap} {locs : List Loc} {Q : State → Prop} {ls : Array Slot} {n9 i : Nat} {I J : Nat → Int32} {F G : Nat → Nat → Int32} {sd : Int64} (C0 : lw_At p s m meth c b L xs) (C : LwC s D cA aX aY) (hL : L ≤ 2048) (hi : i + 4 ≤ L) (hc : n9 ≤ 600) (h : SR n9 I F J G) (hl : lv_has ls 4 [(0, .ref b), (1, .ref (aX 0)), (2, .ref (aY 0)), (3, .int (nI i))]) (hP1 : va_P D cls9 (pm_ws aX cA (hX I F sd)) H) (hP2 : va_P D cls9 (pm_ws aY cA (hY J G sd)) H) (hS : va_S (fun q => s.heap.size ≤ q) s.heap H locs) (kk : LwK p l e s m below meth c b D cA aX aY Q ls (n9 + 1)) : W p l e room_1 s m #[Value.ref b] below meth c H locs 600000 7302250 Q (F0 m 274 ls []) := by
  have hx := C0.1
  have hb := C0.2.1
  obtain ⟨x, I2, F2, J2, G2, sd2, eX, eY, hR⟩ := op_thing (sd := sd) h (xs (i + 1)) (xs (i + 2))
  refine lv_aload_n hx hb dl_274 rfl (lv_at hl 1 rfl) ?_
  refine lw_arg (k := 1) C0 hL (by omega) (by decide +kernel) dA_275 hl hS ?_
  refine lw_arg (k := 2) C0 hL (by omega) (by decide +kernel) dA_280 hl hS ?_
  refine lw_cX (as := [.int (xs (i + 1)), .int (xs (i + 2))]) (g := hY J G sd) (rest := []) C0 C wl_76 rfl eX rfl rfl rfl rfl hl.1 (Nat.le_of_ble_eq_true rfl) dl_285 hP1 hP2 hS (fun H locs hP1 hP2 hS => ?_)
  refine lv_aload_n hx hb dl_288 rfl (lv_at hl 2 rfl) ?_
  refine lw_arg (k := 1) C0 hL (by omega) (by decide +kernel) dA_289 hl hS ?_
  refine lw_arg (k := 2) C0 hL (by omega) (by decide +kernel) dA_294 hl hS ?_
  refine lw_cY (as := [.int (xs (i + 1)), .int (xs (i + 2))]) (g := hX I2 F2 sd2) (rest := [.int x]) C0 C wl_134 rfl eY rfl rfl rfl rfl hl.1 (Nat.le_of_ble_eq_true rfl) dl_299 hP2 hP1 hS (fun H locs hP2 hP1 hS => ?_)
  exact lv_icmp_eq (tgt := 950) hx hb dl_302 (by decide) (fun _ => kk I2 F2 J2 G2 sd2 _ _ hR hP1 hP2 hS) (fun q => absurd rfl q)
theorem lk_7 {p : Program} {l : Launch} {e : Env} {s : State} {m : MethodId} {below : List Frame} {meth : Method} {c : Code} {b L : Nat} {xs : Nat → Int32} {D : va_G} {cA : Nat → ClassId} {aX aY : Nat → Nat} {H : Heap} {locs : List Loc} {Q : State → Prop} {ls : Array Slot} {n9 i : Nat} {I J : Nat → Int32} {F G : Nat → Nat → Int32} {sd : Int64} (C0 : lw_At p s m meth c b L xs) (C : LwC s D cA aX aY) (hL : L ≤ 2048) (hi : i + 4 ≤ L) (hc : n9 ≤ 600) (h : SR n9 I F J G) (hl : lv_has ls 4 [(0, .ref b), (1, .ref (aX 0)), (2, .ref (aY 0)), (3, .int (nI i))]) (hP1 : va_P D cls9 (pm_ws aX cA (hX I F sd)) H) (hP2 : va_P D cls9 (pm_ws aY cA (hY J G sd)) H) (hS : va_S (fun q => s.heap.size ≤ q) s.heap H locs) (kk : LwK p l e s m below meth c b D cA aX aY Q ls (n9 + 1)) : W p l e room_1 s m #[Value.ref b] below meth c H locs 600000 7302250 Q (F0 m 307 ls []) := by
  have hx := C0.1
  have hb := C0.2.1
  obtain ⟨x, I2, F2, J2, G2, sd2, eX, eY, hR⟩ := op_quarter (sd := sd) h
  refine lv_aload_n hx hb dl_307 rfl (lv_at hl 1 rfl) ?_
  refine lw_cX (as := []) (g := hY J G sd) (rest := []) C0 C wl_77 rfl eX rfl rfl rfl rfl hl.1 (Nat.le_of_ble_eq_true rfl) dl_308 hP1 hP2 hS (fun H locs hP1 hP2 hS => ?_)
  refine lv_aload_n hx hb dl_311 rfl (lv_at hl 2 rfl) ?_
  refine lw_cY (as := []) (g := hX I2 F2 sd2) (rest := [.int x]) C0 C wl_136 rfl eY rfl rfl rfl rfl hl.1 (Nat.le_of_ble_eq_true rfl) dl_312 hP2 hP1 hS (fun H locs hP2 hP1 hS => ?_)
  exact lv_icmp_eq (tgt := 950) hx hb dl_315 (by decide) (fun _ => kk I2 F2 J2 G2 sd2 _ _ hR hP1 hP2 hS) (fun q => absurd rfl q)
theorem lk_8 {p : Program} {l : Launch} {e : Env} {s : State} {m : MethodId} {below : List Frame} {meth : Method} {c : Code} {b L : Nat} {xs : Nat → Int32} {D : va_G} {cA : Nat → ClassId} {aX aY : Nat → Nat} {H : Heap} {locs : List Loc} {Q : State → Prop} {ls : Array Slot} {n9 i : Nat} {I J : Nat → Int32} {F G : Nat → Nat → Int32} {sd : Int64} (C0 : lw_At p s m meth c b L xs) (C : LwC s D cA aX aY) (hL : L ≤ 2048) (hi : i + 4 ≤ L) (hc : n9 ≤ 600) (h : SR n9 I F J G) (hl : lv_has ls 4 [(0, .ref b), (1, .ref (aX 0)), (2, .ref (aY 0)), (3, .int (nI i))]) (hP1 : va_P D cls9 (pm_ws aX cA (hX I F sd)) H) (hP2 : va_P D cls9 (pm_ws aY cA (hY J G sd)) H) (hS : va_S (fun q => s.heap.size ≤ q) s.heap H locs) (kk : LwK p l e s m below meth c b D cA aX aY Q ls (n9 + 1)) : W p l e room_1 s m #[Value.ref b] below meth c H locs 600000 7302250 Q (F0 m 320 ls []) := by
  have hx := C0.1
  have hb := C0.2.1
  obtain ⟨x, I2, F2, J2, G2, sd2, eX, eY, hR⟩ := op_put (sd := sd) hc h (xs (i + 1)) (xs (i + 2))
  refine lv_aload_n hx hb dl_320 rfl (lv_at hl 1 rfl) ?_
  refine lw_arg (k := 1) C0 hL (by omega) (by decide +kernel) dA_321 hl hS ?_
  refine lw_arg (k := 2) C0 hL (by omega) (by decide +kernel) dA_326 hl hS ?_
  refine lw_cX (as := [.int (xs (i + 1)), .int (xs (i + 2))]) (g := hY J G sd) (rest := []) C0 C wl_78 rfl eX rfl rfl rfl rfl hl.1 (Nat.le_of_ble_eq_true rfl) dl_331 hP1 hP2 hS (fun H locs hP1 hP2 hS => ?_)
  refine lv_aload_n hx hb dl_334 rfl (lv_at hl 2 rfl) ?_
  refine lw_arg (k := 1) C0 hL (by omega) (by decide +kernel) dA_335 hl hS ?_
  refine lw_arg (k := 2) C0 hL (by omega) (by decide +kernel) dA_340 hl hS ?_
  refine lw_cY (as := [.int (xs (i + 1)), .int (xs (i + 2))]) (g := hX I2 F2 sd2) (rest := [.int x]) C0 C wl_140 rfl eY rfl rfl rfl rfl hl.1 (Nat.le_of_ble_eq_true rfl) dl_345 hP2 hP1 hS (fun H locs hP2 hP1 hS => ?_)
  exact lv_icmp_eq (tgt := 950) hx hb dl_348 (by decide) (fun _ => kk I2 F2 J2 G2 sd2 _ _ hR hP1 hP2 hS) (fun q => absurd rfl q)
theorem lk_9 {p : Program} {l : Launch} {e : Env} {s : State} {m : MethodId} {below : List Frame} {meth : Method} {c : Code} {b L : Nat} {xs : Nat → Int32} {D : va_G} {cA : Nat → ClassId} {aX aY : Nat → Nat} {H : Heap} {locs : List Loc} {Q : State → Prop} {ls : Array Slot} {n9 i : Nat} {I J : Nat → Int32} {F G : Nat → Nat → Int32} {sd : Int64} (C0 : lw_At p s m meth c b L xs) (C : LwC s D cA aX aY) (hL : L ≤ 2048) (hi : i + 4 ≤ L) (hc : n9 ≤ 600) (h : SR n9 I F J G) (hl : lv_has ls 4 [(0, .ref b), (1, .ref (aX 0)), (2, .ref (aY 0)), (3, .int (nI i))]) (hP1 : va_P D cls9 (pm_ws aX cA (hX I F sd)) H) (hP2 : va_P D cls9 (pm_ws aY cA (hY J G sd)) H) (hS : va_S (fun q => s.heap.size ≤ q) s.heap H locs) (kk : LwK p l e s m below meth c b D cA aX aY Q ls (n9 + 1)) : W p l e room_1 s m #[Value.ref b] below meth c H locs 600000 7302250 Q (F0 m 353 ls []) := by
  have hx := C0.1
  have hb := C0.2.1
  obtain ⟨x, I2, F2, J2, G2, sd2, eX, eY, hR⟩ := op_eat (sd := sd) h (xs (i + 1)) (xs (i + 2))
  refine lv_aload_n hx hb dl_353 rfl (lv_at hl 1 rfl) ?_
  refine lw_arg (k := 1) C0 hL (by omega) (by decide +kernel) dA_354 hl hS ?_
  refine lw_arg (k := 2) C0 hL (by omega) (by decide +kernel) dA_359 hl hS ?_
  refine lw_cX (as := [.int (xs (i + 1)), .int (xs (i + 2))]) (g := hY J G sd) (rest := []) C0 C wl_79 rfl eX rfl rfl rfl rfl hl.1 (Nat.le_of_ble_eq_true rfl) dl_364 hP1 hP2 hS (fun H locs hP1 hP2 hS => ?_)
  refine lv_aload_n hx hb dl_367 rfl (lv_at hl 2 rfl) ?_
  refine lw_arg (k := 1) C0 hL (by omega) (by decide +kernel) dA_368 hl hS ?_
  refine lw_arg (k := 2) C0 hL (by omega) (by decide +kernel) dA_373 hl hS ?_
  refine lw_cY (as := [.int (xs (i + 1)), .int (xs (i + 2))]) (g := hX I2 F2 sd2) (rest := [.int x]) C0 C wl_141 rfl eY rfl rfl rfl rfl hl.1 (Nat.le_of_ble_eq_true rfl) dl_378 hP2 hP1 hS (fun H locs hP2 hP1 hS => ?_)
  exact lv_icmp_eq (tgt := 950) hx hb dl_381 (by decide) (fun _ => kk I2 F2 J2 G2 sd2 _ _ hR hP1 hP2 hS) (fun q => absurd rfl q)
theorem lk_10 {p : Program} {l : Launch} {e : Env} {s : State} {m : MethodId} {below : List Frame} {meth : Method} {c : Code} {b L : Nat} {xs : Nat → Int32} {D : va_G} {cA : Nat → ClassId} {aX aY : Nat → Nat} {H : Heap} {locs : List Loc} {Q : State → Prop} {ls : Array Slot} {n9 i : Nat} {I J : Nat → Int32} {F G : Nat → Nat → Int32} {sd : Int64} (C0 : lw_At p s m meth c b L xs) (C : LwC s D cA aX aY) (hL : L ≤ 2048) (hi : i + 4 ≤ L) (hc : n9 ≤ 600) (h : SR n9 I F J G) (hl : lv_has ls 4 [(0, .ref b), (1, .ref (aX 0)), (2, .ref (aY 0)), (3, .int (nI i))]) (hP1 : va_P D cls9 (pm_ws aX cA (hX I F sd)) H) (hP2 : va_P D cls9 (pm_ws aY cA (hY J G sd)) H) (hS : va_S (fun q => s.heap.size ≤ q) s.heap H locs) (kk : LwK p l e s m below meth c b D cA aX aY Q ls (n9 + 1)) : W p l e room_1 s m #[Value.ref b] below meth c H locs 600000 7302250 Q (F0 m 386 ls []) := by
  have hx := C0.1
  have hb := C0.2.1
  obtain ⟨x, I2, F2, J2, G2, sd2, eX, eY, hR⟩ := op_leave (sd := sd) hc h (xs (i + 1)) (xs (i + 2))
  refine lv_aload_n hx hb dl_386 rfl (lv_at hl 1 rfl) ?_
  refine lw_arg (k := 1) C0 hL (by omega) (by decide +kernel) dA_387 hl hS ?_
  refine lw_arg (k := 2) C0 hL (by omega) (by decide +kernel) dA_392 hl hS ?_
  refine lw_cX (as := [.int (xs (i + 1)), .int (xs (i + 2))]) (g := hY J G sd) (rest := []) C0 C wl_80 rfl eX rfl rfl rfl rfl hl.1 (Nat.le_of_ble_eq_true rfl) dl_397 hP1 hP2 hS (fun H locs hP1 hP2 hS => ?_)
  refine lv_aload_n hx hb dl_400 rfl (lv_at hl 2 rfl) ?_
  refine lw_arg (k := 1) C0 hL (by omega) (by decide +kernel) dA_401 hl hS ?_
  refine lw_arg (k := 2) C0 hL (by omega) (by decide +kernel) dA_406 hl hS ?_
  refine lw_cY (as := [.int (xs (i + 1)), .int (xs (i + 2))]) (g := hX I2 F2 sd2) (rest := [.int x]) C0 C wl_142 rfl eY rfl rfl rfl rfl hl.1 (Nat.le_of_ble_eq_true rfl) dl_411 hP2 hP1 hS (fun H locs hP2 hP1 hS => ?_)
  exact lv_icmp_eq (tgt := 950) hx hb dl_414 (by decide) (fun _ => kk I2 F2 J2 G2 sd2 _ _ hR hP1 hP2 hS) (fun q => absurd rfl q)
theorem lk_11 {p : Program} {l : Launch} {e : Env} {s : State} {m : MethodId} {below : List Frame} {meth : Method} {c : Code} {b L : Nat} {xs : Nat → Int32} {D : va_G} {cA : Nat → ClassId} {aX aY : Nat → Nat} {H : Heap} {locs : List Loc} {Q : State → Prop} {ls : Array Slot} {n9 i : Nat} {I J : Nat → Int32} {F G : Nat → Nat → Int32} {sd : Int64} (C0 : lw_At p s m meth c b L xs) (C : LwC s D cA aX aY) (hL : L ≤ 2048) (hi : i + 4 ≤ L) (hc : n9 ≤ 600) (h : SR n9 I F J G) (hl : lv_has ls 4 [(0, .ref b), (1, .ref (aX 0)), (2, .ref (aY 0)), (3, .int (nI i))]) (hP1 : va_P D cls9 (pm_ws aX cA (hX I F sd)) H) (hP2 : va_P D cls9 (pm_ws aY cA (hY J G sd)) H) (hS : va_S (fun q => s.heap.size ≤ q) s.heap H locs) (kk : LwK p l e s m below meth c b D cA aX aY Q ls (n9 + 1)) : W p l e room_1 s m #[Value.ref b] below meth c H locs 600000 7302250 Q (F0 m 419 ls []) := by
  have hx := C0.1
  have hb := C0.2.1
  obtain ⟨x, I2, F2, J2, G2, sd2, eX, eY, hR⟩ := op_move (sd := sd) h (xs (i + 1)) (xs (i + 2))
  refine lv_aload_n hx hb dl_419 rfl (lv_at hl 1 rfl) ?_
  refine lw_arg (k := 1) C0 hL (by omega) (by decide +kernel) dA_420 hl hS ?_
  refine lw_arg (k := 2) C0 hL (by omega) (by decide +kernel) dA_425 hl hS ?_
  refine lw_cX (as := [.int (xs (i + 1)), .int (xs (i + 2))]) (g := hY J G sd) (rest := []) C0 C wl_81 rfl eX rfl rfl rfl rfl hl.1 (Nat.le_of_ble_eq_true rfl) dl_430 hP1 hP2 hS (fun H locs hP1 hP2 hS => ?_)
  refine lv_aload_n hx hb dl_433 rfl (lv_at hl 2 rfl) ?_
  refine lw_arg (k := 1) C0 hL (by omega) (by decide +kernel) dA_434 hl hS ?_
  refine lw_arg (k := 2) C0 hL (by omega) (by decide +kernel) dA_439 hl hS ?_
  refine lw_cY (as := [.int (xs (i + 1)), .int (xs (i + 2))]) (g := hX I2 F2 sd2) (rest := [.int x]) C0 C wl_143 rfl eY rfl rfl rfl rfl hl.1 (Nat.le_of_ble_eq_true rfl) dl_444 hP2 hP1 hS (fun H locs hP2 hP1 hS => ?_)
  exact lv_icmp_eq (tgt := 950) hx hb dl_447 (by decide) (fun _ => kk I2 F2 J2 G2 sd2 _ _ hR hP1 hP2 hS) (fun q => absurd rfl q)
theorem lk_12 {p : Program} {l : Launch} {e : Env} {s : State} {m : MethodId} {below : List Frame} {meth : Method} {c : Code} {b L : Nat} {xs : Nat → Int32} {D : va_G} {cA : Nat → ClassId} {aX aY : Nat → Nat} {H : Heap} {locs : List Loc} {Q : State → Prop} {ls : Array Slot} {n9 i : Nat} {I J : Nat → Int32} {F G : Nat → Nat → Int32} {sd : Int64} (C0 : lw_At p s m meth c b L xs) (C : LwC s D cA aX aY) (hL : L ≤ 2048) (hi : i + 4 ≤ L) (hc : n9 ≤ 600) (h : SR n9 I F J G) (hl : lv_has ls 4 [(0, .ref b), (1, .ref (aX 0)), (2, .ref (aY 0)), (3, .int (nI i))]) (hP1 : va_P D cls9 (pm_ws aX cA (hX I F sd)) H) (hP2 : va_P D cls9 (pm_ws aY cA (hY J G sd)) H) (hS : va_S (fun q => s.heap.size ≤ q) s.heap H locs) (kk : LwK p l e s m below meth c b D cA aX aY Q ls (n9 + 1)) : W p l e room_1 s m #[Value.ref b] below meth c H locs 600000 7302250 Q (F0 m 452 ls []) := by
  have hx := C0.1
  have hb := C0.2.1
  obtain ⟨x, I2, F2, J2, G2, sd2, eX, eY, hR⟩ := op_sprinkle (sd := sd) h (xs (i + 1))
  refine lv_aload_n hx hb dl_452 rfl (lv_at hl 1 rfl) ?_
  refine lw_arg (k := 1) C0 hL (by omega) (by decide +kernel) dA_453 hl hS ?_
  refine lw_cX (as := [.int (xs (i + 1))]) (g := hY J G sd) (rest := []) C0 C wl_82 rfl eX rfl rfl rfl rfl hl.1 (Nat.le_of_ble_eq_true rfl) dl_458 hP1 hP2 hS (fun H locs hP1 hP2 hS => ?_)
  refine lv_aload_n hx hb dl_461 rfl (lv_at hl 2 rfl) ?_
  refine lw_arg (k := 1) C0 hL (by omega) (by decide +kernel) dA_462 hl hS ?_
  refine lw_cY (as := [.int (xs (i + 1))]) (g := hX I2 F2 sd2) (rest := [.int x]) C0 C wl_144 rfl eY rfl rfl rfl rfl hl.1 (Nat.le_of_ble_eq_true rfl) dl_467 hP2 hP1 hS (fun H locs hP2 hP1 hS => ?_)
  exact lv_icmp_eq (tgt := 950) hx hb dl_470 (by decide) (fun _ => kk I2 F2 J2 G2 sd2 _ _ hR hP1 hP2 hS) (fun q => absurd rfl q)
theorem lk_13 {p : Program} {l : Launch} {e : Env} {s : State} {m : MethodId} {below : List Frame} {meth : Method} {c : Code} {b L : Nat} {xs : Nat → Int32} {D : va_G} {cA : Nat → ClassId} {aX aY : Nat → Nat} {H : Heap} {locs : List Loc} {Q : State → Prop} {ls : Array Slot} {n9 i : Nat} {I J : Nat → Int32} {F G : Nat → Nat → Int32} {sd : Int64} (C0 : lw_At p s m meth c b L xs) (C : LwC s D cA aX aY) (hL : L ≤ 2048) (hi : i + 4 ≤ L) (hc : n9 ≤ 600) (h : SR n9 I F J G) (hl : lv_has ls 4 [(0, .ref b), (1, .ref (aX 0)), (2, .ref (aY 0)), (3, .int (nI i))]) (hP1 : va_P D cls9 (pm_ws aX cA (hX I F sd)) H) (hP2 : va_P D cls9 (pm_ws aY cA (hY J G sd)) H) (hS : va_S (fun q => s.heap.size ≤ q) s.heap H locs) (kk : LwK p l e s m below meth c b D cA aX aY Q ls (n9 + 1)) : W p l e room_1 s m #[Value.ref b] below meth c H locs 600000 7302250 Q (F0 m 475 ls []) := by
  have hx := C0.1
  have hb := C0.2.1
  obtain ⟨x, I2, F2, J2, G2, sd2, eX, eY, hR⟩ := op_undo (sd := sd) h
  refine lv_aload_n hx hb dl_475 rfl (lv_at hl 1 rfl) ?_
  refine lw_cX (as := []) (g := hY J G sd) (rest := []) C0 C wl_83 rfl eX rfl rfl rfl rfl hl.1 (Nat.le_of_ble_eq_true rfl) dl_476 hP1 hP2 hS (fun H locs hP1 hP2 hS => ?_)
  refine lv_aload_n hx hb dl_479 rfl (lv_at hl 2 rfl) ?_
  refine lw_cY (as := []) (g := hX I2 F2 sd2) (rest := [.int x]) C0 C wl_145 rfl eY rfl rfl rfl rfl hl.1 (Nat.le_of_ble_eq_true rfl) dl_480 hP2 hP1 hS (fun H locs hP2 hP1 hS => ?_)
  exact lv_icmp_eq (tgt := 950) hx hb dl_483 (by decide) (fun _ => kk I2 F2 J2 G2 sd2 _ _ hR hP1 hP2 hS) (fun q => absurd rfl q)
theorem lk_14 {p : Program} {l : Launch} {e : Env} {s : State} {m : MethodId} {below : List Frame} {meth : Method} {c : Code} {b L : Nat} {xs : Nat → Int32} {D : va_G} {cA : Nat → ClassId} {aX aY : Nat → Nat} {H : Heap} {locs : List Loc} {Q : State → Prop} {ls : Array Slot} {n9 i : Nat} {I J : Nat → Int32} {F G : Nat → Nat → Int32} {sd : Int64} (C0 : lw_At p s m meth c b L xs) (C : LwC s D cA aX aY) (hL : L ≤ 2048) (hi : i + 4 ≤ L) (hc : n9 ≤ 600) (h : SR n9 I F J G) (hl : lv_has ls 4 [(0, .ref b), (1, .ref (aX 0)), (2, .ref (aY 0)), (3, .int (nI i))]) (hP1 : va_P D cls9 (pm_ws aX cA (hX I F sd)) H) (hP2 : va_P D cls9 (pm_ws aY cA (hY J G sd)) H) (hS : va_S (fun q => s.heap.size ≤ q) s.heap H locs) (kk : LwK p l e s m below meth c b D cA aX aY Q ls (n9 + 1)) : W p l e room_1 s m #[Value.ref b] below meth c H locs 600000 7302250 Q (F0 m 488 ls []) := by
  have hx := C0.1
  have hb := C0.2.1
  obtain ⟨x, I2, F2, J2, G2, sd2, eX, eY, hR⟩ := op_later (sd := sd) h (xs (i + 1)) (xs (i + 2))
  refine lv_aload_n hx hb dl_488 rfl (lv_at hl 1 rfl) ?_
  refine lw_arg (k := 1) C0 hL (by omega) (by decide +kernel) dA_489 hl hS ?_
  refine lw_arg (k := 2) C0 hL (by omega) (by decide +kernel) dA_494 hl hS ?_
  refine lw_cX (as := [.int (xs (i + 1)), .int (xs (i + 2))]) (g := hY J G sd) (rest := []) C0 C wl_84 rfl eX rfl rfl rfl rfl hl.1 (Nat.le_of_ble_eq_true rfl) dl_499 hP1 hP2 hS (fun H locs hP1 hP2 hS => ?_)
  refine lv_aload_n hx hb dl_502 rfl (lv_at hl 2 rfl) ?_
  refine lw_arg (k := 1) C0 hL (by omega) (by decide +kernel) dA_503 hl hS ?_
  refine lw_arg (k := 2) C0 hL (by omega) (by decide +kernel) dA_508 hl hS ?_
  refine lw_cY (as := [.int (xs (i + 1)), .int (xs (i + 2))]) (g := hX I2 F2 sd2) (rest := [.int x]) C0 C wl_147 rfl eY rfl rfl rfl rfl hl.1 (Nat.le_of_ble_eq_true rfl) dl_513 hP2 hP1 hS (fun H locs hP2 hP1 hS => ?_)
  exact lv_icmp_eq (tgt := 950) hx hb dl_516 (by decide) (fun _ => kk I2 F2 J2 G2 sd2 _ _ hR hP1 hP2 hS) (fun q => absurd rfl q)
theorem lk_15 {p : Program} {l : Launch} {e : Env} {s : State} {m : MethodId} {below : List Frame} {meth : Method} {c : Code} {b L : Nat} {xs : Nat → Int32} {D : va_G} {cA : Nat → ClassId} {aX aY : Nat → Nat} {H : Heap} {locs : List Loc} {Q : State → Prop} {ls : Array Slot} {n9 i : Nat} {I J : Nat → Int32} {F G : Nat → Nat → Int32} {sd : Int64} (C0 : lw_At p s m meth c b L xs) (C : LwC s D cA aX aY) (hL : L ≤ 2048) (hi : i + 4 ≤ L) (hc : n9 ≤ 600) (h : SR n9 I F J G) (hl : lv_has ls 4 [(0, .ref b), (1, .ref (aX 0)), (2, .ref (aY 0)), (3, .int (nI i))]) (hP1 : va_P D cls9 (pm_ws aX cA (hX I F sd)) H) (hP2 : va_P D cls9 (pm_ws aY cA (hY J G sd)) H) (hS : va_S (fun q => s.heap.size ≤ q) s.heap H locs) (kk : LwK p l e s m below meth c b D cA aX aY Q ls (n9 + 1)) : W p l e room_1 s m #[Value.ref b] below meth c H locs 600000 7302250 Q (F0 m 521 ls []) := by
  have hx := C0.1
  have hb := C0.2.1
  obtain ⟨x, I2, F2, J2, G2, sd2, eX, eY, hR⟩ := op_least (sd := sd) hc h (xs (i + 1))
  refine lv_aload_n hx hb dl_521 rfl (lv_at hl 1 rfl) ?_
  refine lw_arg (k := 1) C0 hL (by omega) (by decide +kernel) dA_522 hl hS ?_
  refine lw_cX (as := [.int (xs (i + 1))]) (g := hY J G sd) (rest := []) C0 C wl_85 rfl eX rfl rfl rfl rfl hl.1 (Nat.le_of_ble_eq_true rfl) dl_527 hP1 hP2 hS (fun H locs hP1 hP2 hS => ?_)
  refine lv_aload_n hx hb dl_530 rfl (lv_at hl 2 rfl) ?_
  refine lw_arg (k := 1) C0 hL (by omega) (by decide +kernel) dA_531 hl hS ?_
  refine lw_cY (as := [.int (xs (i + 1))]) (g := hX I2 F2 sd2) (rest := [.int x]) C0 C wl_149 rfl eY rfl rfl rfl rfl hl.1 (Nat.le_of_ble_eq_true rfl) dl_536 hP2 hP1 hS (fun H locs hP2 hP1 hS => ?_)
  exact lv_icmp_eq (tgt := 950) hx hb dl_539 (by decide) (fun _ => kk I2 F2 J2 G2 sd2 _ _ hR hP1 hP2 hS) (fun q => absurd rfl q)
theorem lk_16 {p : Program} {l : Launch} {e : Env} {s : State} {m : MethodId} {below : List Frame} {meth : Method} {c : Code} {b L : Nat} {xs : Nat → Int32} {D : va_G} {cA : Nat → ClassId} {aX aY : Nat → Nat} {H : Heap} {locs : List Loc} {Q : State → Prop} {ls : Array Slot} {n9 i : Nat} {I J : Nat → Int32} {F G : Nat → Nat → Int32} {sd : Int64} (C0 : lw_At p s m meth c b L xs) (C : LwC s D cA aX aY) (hL : L ≤ 2048) (hi : i + 4 ≤ L) (hc : n9 ≤ 600) (h : SR n9 I F J G) (hl : lv_has ls 4 [(0, .ref b), (1, .ref (aX 0)), (2, .ref (aY 0)), (3, .int (nI i))]) (hP1 : va_P D cls9 (pm_ws aX cA (hX I F sd)) H) (hP2 : va_P D cls9 (pm_ws aY cA (hY J G sd)) H) (hS : va_S (fun q => s.heap.size ≤ q) s.heap H locs) (kk : LwK p l e s m below meth c b D cA aX aY Q ls (n9 + 1)) : W p l e room_1 s m #[Value.ref b] below meth c H locs 600000 7302250 Q (F0 m 544 ls []) := by
  have hx := C0.1
  have hb := C0.2.1
  obtain ⟨x, I2, F2, J2, G2, sd2, eX, eY, hR⟩ := op_judge (sd := sd) hc h (xs (i + 1)) (rw64 (xs (i + 2)) (xs (i + 3)))
  refine lv_aload_n hx hb dl_544 rfl (lv_at hl 1 rfl) ?_
  refine lw_arg (k := 1) C0 hL (by omega) (by decide +kernel) dA_545 hl hS ?_
  refine lw_row (k := 2) (k2 := 3) C0 hL (by omega) (by omega) (by decide +kernel) (by decide +kernel) dR_550 hl hS ?_
  refine lw_cX (as := [.int (xs (i + 1)), .long (rw64 (xs (i + 2)) (xs (i + 3)))]) (g := hY J G sd) (rest := []) C0 C wl_86 rfl eX rfl rfl rfl rfl hl.1 (Nat.le_of_ble_eq_true rfl) dl_570 hP1 hP2 hS (fun H locs hP1 hP2 hS => ?_)
  refine lv_aload_n hx hb dl_573 rfl (lv_at hl 2 rfl) ?_
  refine lw_arg (k := 1) C0 hL (by omega) (by decide +kernel) dA_574 hl hS ?_
  refine lw_row (k := 2) (k2 := 3) C0 hL (by omega) (by omega) (by decide +kernel) (by decide +kernel) dR_579 hl hS ?_
  refine lw_cY (as := [.int (xs (i + 1)), .long (rw64 (xs (i + 2)) (xs (i + 3)))]) (g := hX I2 F2 sd2) (rest := [.int x]) C0 C wl_154 rfl eY rfl rfl rfl rfl hl.1 (Nat.le_of_ble_eq_true rfl) dl_599 hP2 hP1 hS (fun H locs hP2 hP1 hS => ?_)
  exact lv_icmp_eq (tgt := 950) hx hb dl_602 (by decide) (fun _ => kk I2 F2 J2 G2 sd2 _ _ hR hP1 hP2 hS) (fun q => absurd rfl q)
theorem lk_17 {p : Program} {l : Launch} {e : Env} {s : State} {m : MethodId} {below : List Frame} {meth : Method} {c : Code} {b L : Nat} {xs : Nat → Int32} {D : va_G} {cA : Nat → ClassId} {aX aY : Nat → Nat} {H : Heap} {locs : List Loc} {Q : State → Prop} {ls : Array Slot} {n9 i : Nat} {I J : Nat → Int32} {F G : Nat → Nat → Int32} {sd : Int64} (C0 : lw_At p s m meth c b L xs) (C : LwC s D cA aX aY) (hL : L ≤ 2048) (hi : i + 4 ≤ L) (hc : n9 ≤ 600) (h : SR n9 I F J G) (hl : lv_has ls 4 [(0, .ref b), (1, .ref (aX 0)), (2, .ref (aY 0)), (3, .int (nI i))]) (hP1 : va_P D cls9 (pm_ws aX cA (hX I F sd)) H) (hP2 : va_P D cls9 (pm_ws aY cA (hY J G sd)) H) (hS : va_S (fun q => s.heap.size ≤ q) s.heap H locs) (kk : LwK p l e s m below meth c b D cA aX aY Q ls (n9 + 1)) : W p l e room_1 s m #[Value.ref b] below meth c H locs 600000 7302250 Q (F0 m 607 ls []) := by
  have hx := C0.1
  have hb := C0.2.1
  obtain ⟨x, I2, F2, J2, G2, sd2, eX, eY, hR⟩ := op_share (sd := sd) hc h (xs (i + 1)) (bz (xs (i + 2)))
  refine lv_aload_n hx hb dl_607 rfl (lv_at hl 1 rfl) ?_
  refine lw_arg (k := 1) C0 hL (by omega) (by decide +kernel) dA_608 hl hS ?_
  refine lw_arg (k := 2) C0 hL (by omega) (by decide +kernel) dA_613 hl hS ?_
  refine lw_bool C0 dB_618 ?_
  refine lw_cX (as := [.int (xs (i + 1)), .int (bz (xs (i + 2)))]) (g := hY J G sd) (rest := []) C0 C wl_87 rfl eX rfl rfl rfl rfl hl.1 (Nat.le_of_ble_eq_true rfl) dl_626 hP1 hP2 hS (fun H locs hP1 hP2 hS => ?_)
  refine lv_aload_n hx hb dl_629 rfl (lv_at hl 2 rfl) ?_
  refine lw_arg (k := 1) C0 hL (by omega) (by decide +kernel) dA_630 hl hS ?_
  refine lw_arg (k := 2) C0 hL (by omega) (by decide +kernel) dA_635 hl hS ?_
  refine lw_bool C0 dB_640 ?_
  refine lw_cY (as := [.int (xs (i + 1)), .int (bz (xs (i + 2)))]) (g := hX I2 F2 sd2) (rest := [.int x]) C0 C wl_158 rfl eY rfl rfl rfl rfl hl.1 (Nat.le_of_ble_eq_true rfl) dl_648 hP2 hP1 hS (fun H locs hP2 hP1 hS => ?_)
  exact lv_icmp_eq (tgt := 950) hx hb dl_651 (by decide) (fun _ => kk I2 F2 J2 G2 sd2 _ _ hR hP1 hP2 hS) (fun q => absurd rfl q)
theorem lk_18 {p : Program} {l : Launch} {e : Env} {s : State} {m : MethodId} {below : List Frame} {meth : Method} {c : Code} {b L : Nat} {xs : Nat → Int32} {D : va_G} {cA : Nat → ClassId} {aX aY : Nat → Nat} {H : Heap} {locs : List Loc} {Q : State → Prop} {ls : Array Slot} {n9 i : Nat} {I J : Nat → Int32} {F G : Nat → Nat → Int32} {sd : Int64} (C0 : lw_At p s m meth c b L xs) (C : LwC s D cA aX aY) (hL : L ≤ 2048) (hi : i + 4 ≤ L) (hc : n9 ≤ 600) (h : SR n9 I F J G) (hl : lv_has ls 4 [(0, .ref b), (1, .ref (aX 0)), (2, .ref (aY 0)), (3, .int (nI i))]) (hP1 : va_P D cls9 (pm_ws aX cA (hX I F sd)) H) (hP2 : va_P D cls9 (pm_ws aY cA (hY J G sd)) H) (hS : va_S (fun q => s.heap.size ≤ q) s.heap H locs) (kk : LwK p l e s m below meth c b D cA aX aY Q ls (n9 + 1)) : W p l e room_1 s m #[Value.ref b] below meth c H locs 600000 7302250 Q (F0 m 656 ls []) := by
  have hx := C0.1
  have hb := C0.2.1
  obtain ⟨x, I2, F2, J2, G2, sd2, eX, eY, hR⟩ := op_say (sd := sd) h (xs (i + 1)) (xs (i + 2))
  refine lv_aload_n hx hb dl_656 rfl (lv_at hl 1 rfl) ?_
  refine lw_arg (k := 1) C0 hL (by omega) (by decide +kernel) dA_657 hl hS ?_
  refine lw_arg (k := 2) C0 hL (by omega) (by decide +kernel) dA_662 hl hS ?_
  refine lw_cX (as := [.int (xs (i + 1)), .int (xs (i + 2))]) (g := hY J G sd) (rest := []) C0 C wl_88 rfl eX rfl rfl rfl rfl hl.1 (Nat.le_of_ble_eq_true rfl) dl_667 hP1 hP2 hS (fun H locs hP1 hP2 hS => ?_)
  refine lv_aload_n hx hb dl_670 rfl (lv_at hl 2 rfl) ?_
  refine lw_arg (k := 1) C0 hL (by omega) (by decide +kernel) dA_671 hl hS ?_
  refine lw_arg (k := 2) C0 hL (by omega) (by decide +kernel) dA_676 hl hS ?_
  refine lw_cY (as := [.int (xs (i + 1)), .int (xs (i + 2))]) (g := hX I2 F2 sd2) (rest := [.int x]) C0 C wl_159 rfl eY rfl rfl rfl rfl hl.1 (Nat.le_of_ble_eq_true rfl) dl_681 hP2 hP1 hS (fun H locs hP2 hP1 hS => ?_)
  exact lv_icmp_eq (tgt := 950) hx hb dl_684 (by decide) (fun _ => kk I2 F2 J2 G2 sd2 _ _ hR hP1 hP2 hS) (fun q => absurd rfl q)
theorem lk_19 {p : Program} {l : Launch} {e : Env} {s : State} {m : MethodId} {below : List Frame} {meth : Method} {c : Code} {b L : Nat} {xs : Nat → Int32} {D : va_G} {cA : Nat → ClassId} {aX aY : Nat → Nat} {H : Heap} {locs : List Loc} {Q : State → Prop} {ls : Array Slot} {n9 i : Nat} {I J : Nat → Int32} {F G : Nat → Nat → Int32} {sd : Int64} (C0 : lw_At p s m meth c b L xs) (C : LwC s D cA aX aY) (hL : L ≤ 2048) (hi : i + 4 ≤ L) (hc : n9 ≤ 600) (h : SR n9 I F J G) (hl : lv_has ls 4 [(0, .ref b), (1, .ref (aX 0)), (2, .ref (aY 0)), (3, .int (nI i))]) (hP1 : va_P D cls9 (pm_ws aX cA (hX I F sd)) H) (hP2 : va_P D cls9 (pm_ws aY cA (hY J G sd)) H) (hS : va_S (fun q => s.heap.size ≤ q) s.heap H locs) (kk : LwK p l e s m below meth c b D cA aX aY Q ls (n9 + 1)) : W p l e room_1 s m #[Value.ref b] below meth c H locs 600000 7302250 Q (F0 m 689 ls []) := by
  have hx := C0.1
  have hb := C0.2.1
  obtain ⟨x, I2, F2, J2, G2, sd2, eX, eY, hR⟩ := op_unsay (sd := sd) h
  refine lv_aload_n hx hb dl_689 rfl (lv_at hl 1 rfl) ?_
  refine lw_cX (as := []) (g := hY J G sd) (rest := []) C0 C wl_89 rfl eX rfl rfl rfl rfl hl.1 (Nat.le_of_ble_eq_true rfl) dl_690 hP1 hP2 hS (fun H locs hP1 hP2 hS => ?_)
  refine lv_aload_n hx hb dl_693 rfl (lv_at hl 2 rfl) ?_
  refine lw_cY (as := []) (g := hX I2 F2 sd2) (rest := [.int x]) C0 C wl_160 rfl eY rfl rfl rfl rfl hl.1 (Nat.le_of_ble_eq_true rfl) dl_694 hP2 hP1 hS (fun H locs hP2 hP1 hS => ?_)
  exact lv_icmp_eq (tgt := 950) hx hb dl_697 (by decide) (fun _ => kk I2 F2 J2 G2 sd2 _ _ hR hP1 hP2 hS) (fun q => absurd rfl q)
theorem lk_20 {p : Program} {l : Launch} {e : Env} {s : State} {m : MethodId} {below : List Frame} {meth : Method} {c : Code} {b L : Nat} {xs : Nat → Int32} {D : va_G} {cA : Nat → ClassId} {aX aY : Nat → Nat} {H : Heap} {locs : List Loc} {Q : State → Prop} {ls : Array Slot} {n9 i : Nat} {I J : Nat → Int32} {F G : Nat → Nat → Int32} {sd : Int64} (C0 : lw_At p s m meth c b L xs) (C : LwC s D cA aX aY) (hL : L ≤ 2048) (hi : i + 4 ≤ L) (hc : n9 ≤ 600) (h : SR n9 I F J G) (hl : lv_has ls 4 [(0, .ref b), (1, .ref (aX 0)), (2, .ref (aY 0)), (3, .int (nI i))]) (hP1 : va_P D cls9 (pm_ws aX cA (hX I F sd)) H) (hP2 : va_P D cls9 (pm_ws aY cA (hY J G sd)) H) (hS : va_S (fun q => s.heap.size ≤ q) s.heap H locs) (kk : LwK p l e s m below meth c b D cA aX aY Q ls (n9 + 1)) : W p l e room_1 s m #[Value.ref b] below meth c H locs 600000 7302250 Q (F0 m 702 ls []) := by
  have hx := C0.1
  have hb := C0.2.1
  obtain ⟨x, I2, F2, J2, G2, sd2, eX, eY, hR⟩ := op_lines (sd := sd) h (xs (i + 1))
  refine lv_aload_n hx hb dl_702 rfl (lv_at hl 1 rfl) ?_
  refine lw_arg (k := 1) C0 hL (by omega) (by decide +kernel) dA_703 hl hS ?_
  refine lw_cX (as := [.int (xs (i + 1))]) (g := hY J G sd) (rest := []) C0 C wl_90 rfl eX rfl rfl rfl rfl hl.1 (Nat.le_of_ble_eq_true rfl) dl_708 hP1 hP2 hS (fun H locs hP1 hP2 hS => ?_)
  refine lv_aload_n hx hb dl_711 rfl (lv_at hl 2 rfl) ?_
  refine lw_arg (k := 1) C0 hL (by omega) (by decide +kernel) dA_712 hl hS ?_
  refine lw_cY (as := [.int (xs (i + 1))]) (g := hX I2 F2 sd2) (rest := [.int x]) C0 C wl_161 rfl eY rfl rfl rfl rfl hl.1 (Nat.le_of_ble_eq_true rfl) dl_717 hP2 hP1 hS (fun H locs hP2 hP1 hS => ?_)
  exact lv_icmp_eq (tgt := 950) hx hb dl_720 (by decide) (fun _ => kk I2 F2 J2 G2 sd2 _ _ hR hP1 hP2 hS) (fun q => absurd rfl q)
theorem lk_21 {p : Program} {l : Launch} {e : Env} {s : State} {m : MethodId} {below : List Frame} {meth : Method} {c : Code} {b L : Nat} {xs : Nat → Int32} {D : va_G} {cA : Nat → ClassId} {aX aY : Nat → Nat} {H : Heap} {locs : List Loc} {Q : State → Prop} {ls : Array Slot} {n9 i : Nat} {I J : Nat → Int32} {F G : Nat → Nat → Int32} {sd : Int64} (C0 : lw_At p s m meth c b L xs) (C : LwC s D cA aX aY) (hL : L ≤ 2048) (hi : i + 4 ≤ L) (hc : n9 ≤ 600) (h : SR n9 I F J G) (hl : lv_has ls 4 [(0, .ref b), (1, .ref (aX 0)), (2, .ref (aY 0)), (3, .int (nI i))]) (hP1 : va_P D cls9 (pm_ws aX cA (hX I F sd)) H) (hP2 : va_P D cls9 (pm_ws aY cA (hY J G sd)) H) (hS : va_S (fun q => s.heap.size ≤ q) s.heap H locs) (kk : LwK p l e s m below meth c b D cA aX aY Q ls (n9 + 1)) : W p l e room_1 s m #[Value.ref b] below meth c H locs 600000 7302250 Q (F0 m 725 ls []) := by
  have hx := C0.1
  have hb := C0.2.1
  obtain ⟨x, I2, F2, J2, G2, sd2, eX, eY, hR⟩ := op_rests (sd := sd) hc h (xs (i + 1)) (xs (i + 2)) (xs (i + 3))
  refine lv_aload_n hx hb dl_725 rfl (lv_at hl 1 rfl) ?_
  refine lw_arg (k := 1) C0 hL (by omega) (by decide +kernel) dA_726 hl hS ?_
  refine lw_arg (k := 2) C0 hL (by omega) (by decide +kernel) dA_731 hl hS ?_
  refine lw_arg (k := 3) C0 hL (by omega) (by decide +kernel) dA_736 hl hS ?_
  refine lw_cX (as := [.int (xs (i + 1)), .int (xs (i + 2)), .int (xs (i + 3))]) (g := hY J G sd) (rest := []) C0 C wl_91 rfl eX rfl rfl rfl rfl hl.1 (Nat.le_of_ble_eq_true rfl) dl_741 hP1 hP2 hS (fun H locs hP1 hP2 hS => ?_)
  refine lv_aload_n hx hb dl_744 rfl (lv_at hl 2 rfl) ?_
  refine lw_arg (k := 1) C0 hL (by omega) (by decide +kernel) dA_745 hl hS ?_
  refine lw_arg (k := 2) C0 hL (by omega) (by decide +kernel) dA_750 hl hS ?_
  refine lw_arg (k := 3) C0 hL (by omega) (by decide +kernel) dA_755 hl hS ?_
  refine lw_cY (as := [.int (xs (i + 1)), .int (xs (i + 2)), .int (xs (i + 3))]) (g := hX I2 F2 sd2) (rest := [.int x]) C0 C wl_162 rfl eY rfl rfl rfl rfl hl.1 (Nat.le_of_ble_eq_true rfl) dl_760 hP2 hP1 hS (fun H locs hP2 hP1 hS => ?_)
  exact lv_icmp_eq (tgt := 950) hx hb dl_763 (by decide) (fun _ => kk I2 F2 J2 G2 sd2 _ _ hR hP1 hP2 hS) (fun q => absurd rfl q)
theorem lk_22 {p : Program} {l : Launch} {e : Env} {s : State} {m : MethodId} {below : List Frame} {meth : Method} {c : Code} {b L : Nat} {xs : Nat → Int32} {D : va_G} {cA : Nat → ClassId} {aX aY : Nat → Nat} {H : Heap} {locs : List Loc} {Q : State → Prop} {ls : Array Slot} {n9 i : Nat} {I J : Nat → Int32} {F G : Nat → Nat → Int32} {sd : Int64} (C0 : lw_At p s m meth c b L xs) (C : LwC s D cA aX aY) (hL : L ≤ 2048) (hi : i + 4 ≤ L) (hc : n9 ≤ 600) (h : SR n9 I F J G) (hl : lv_has ls 4 [(0, .ref b), (1, .ref (aX 0)), (2, .ref (aY 0)), (3, .int (nI i))]) (hP1 : va_P D cls9 (pm_ws aX cA (hX I F sd)) H) (hP2 : va_P D cls9 (pm_ws aY cA (hY J G sd)) H) (hS : va_S (fun q => s.heap.size ≤ q) s.heap H locs) (kk : LwK p l e s m below meth c b D cA aX aY Q ls (n9 + 1)) : W p l e room_1 s m #[Value.ref b] below meth c H locs 600000 7302250 Q (F0 m 768 ls []) := by
  have hx := C0.1
  have hb := C0.2.1
  obtain ⟨x, I2, F2, J2, G2, sd2, eX, eY, hR⟩ := op_stray (sd := sd) h (xs (i + 1)) (xs (i + 2)) (bz (xs (i + 3)))
  refine lv_aload_n hx hb dl_768 rfl (lv_at hl 1 rfl) ?_
  refine lw_arg (k := 1) C0 hL (by omega) (by decide +kernel) dA_769 hl hS ?_
  refine lw_arg (k := 2) C0 hL (by omega) (by decide +kernel) dA_774 hl hS ?_
  refine lw_arg (k := 3) C0 hL (by omega) (by decide +kernel) dA_779 hl hS ?_
  refine lw_bool C0 dB_784 ?_
  refine lw_cX (as := [.int (xs (i + 1)), .int (xs (i + 2)), .int (bz (xs (i + 3)))]) (g := hY J G sd) (rest := []) C0 C wl_92 rfl eX rfl rfl rfl rfl hl.1 (Nat.le_of_ble_eq_true rfl) dl_792 hP1 hP2 hS (fun H locs hP1 hP2 hS => ?_)
  refine lv_aload_n hx hb dl_795 rfl (lv_at hl 2 rfl) ?_
  refine lw_arg (k := 1) C0 hL (by omega) (by decide +kernel) dA_796 hl hS ?_
  refine lw_arg (k := 2) C0 hL (by omega) (by decide +kernel) dA_801 hl hS ?_
  refine lw_arg (k := 3) C0 hL (by omega) (by decide +kernel) dA_806 hl hS ?_
  refine lw_bool C0 dB_811 ?_
  refine lw_cY (as := [.int (xs (i + 1)), .int (xs (i + 2)), .int (bz (xs (i + 3)))]) (g := hX I2 F2 sd2) (rest := [.int x]) C0 C wl_163 rfl eY rfl rfl rfl rfl hl.1 (Nat.le_of_ble_eq_true rfl) dl_819 hP2 hP1 hS (fun H locs hP2 hP1 hS => ?_)
  exact lv_icmp_eq (tgt := 950) hx hb dl_822 (by decide) (fun _ => kk I2 F2 J2 G2 sd2 _ _ hR hP1 hP2 hS) (fun q => absurd rfl q)
theorem lk_23 {p : Program} {l : Launch} {e : Env} {s : State} {m : MethodId} {below : List Frame} {meth : Method} {c : Code} {b L : Nat} {xs : Nat → Int32} {D : va_G} {cA : Nat → ClassId} {aX aY : Nat → Nat} {H : Heap} {locs : List Loc} {Q : State → Prop} {ls : Array Slot} {n9 i : Nat} {I J : Nat → Int32} {F G : Nat → Nat → Int32} {sd : Int64} (C0 : lw_At p s m meth c b L xs) (C : LwC s D cA aX aY) (hL : L ≤ 2048) (hi : i + 4 ≤ L) (hc : n9 ≤ 600) (h : SR n9 I F J G) (hl : lv_has ls 4 [(0, .ref b), (1, .ref (aX 0)), (2, .ref (aY 0)), (3, .int (nI i))]) (hP1 : va_P D cls9 (pm_ws aX cA (hX I F sd)) H) (hP2 : va_P D cls9 (pm_ws aY cA (hY J G sd)) H) (hS : va_S (fun q => s.heap.size ≤ q) s.heap H locs) (kk : LwK p l e s m below meth c b D cA aX aY Q ls (n9 + 1)) : W p l e room_1 s m #[Value.ref b] below meth c H locs 600000 7302250 Q (F0 m 827 ls []) := by
  have hx := C0.1
  have hb := C0.2.1
  obtain ⟨x, I2, F2, J2, G2, sd2, eX, eY, hR⟩ := op_seed (sd := sd) h (rw64 (xs (i + 1)) (xs (i + 2)))
  refine lv_aload_n hx hb dl_827 rfl (lv_at hl 1 rfl) ?_
  refine lw_row (k := 1) (k2 := 2) C0 hL (by omega) (by omega) (by decide +kernel) (by decide +kernel) dR_828 hl hS ?_
  refine lw_cX (as := [.long (rw64 (xs (i + 1)) (xs (i + 2)))]) (g := hY J G sd) (rest := []) C0 C wl_93 rfl eX rfl rfl rfl rfl hl.1 (Nat.le_of_ble_eq_true rfl) dl_848 hP1 hP2 hS (fun H locs hP1 hP2 hS => ?_)
  refine lv_aload_n hx hb dl_851 rfl (lv_at hl 2 rfl) ?_
  refine lw_row (k := 1) (k2 := 2) C0 hL (by omega) (by omega) (by decide +kernel) (by decide +kernel) dR_852 hl hS ?_
  refine lw_cY (as := [.long (rw64 (xs (i + 1)) (xs (i + 2)))]) (g := hX I2 F2 sd2) (rest := [.long x]) C0 C wl_164 rfl eY rfl rfl rfl rfl hl.1 (Nat.le_of_ble_eq_true rfl) dl_872 hP2 hP1 hS (fun H locs hP2 hP1 hS => ?_)
  refine W.lcmp hx hb dl_875 ?_
  exact lv_if_eq (tgt := 950) hx hb dl_876 (by decide) (fun _ => kk I2 F2 J2 G2 sd2 _ _ hR hP1 hP2 hS) (fun q => absurd (lg_cmp_s x) q)
theorem lk_24 {p : Program} {l : Launch} {e : Env} {s : State} {m : MethodId} {below : List Frame} {meth : Method} {c : Code} {b L : Nat} {xs : Nat → Int32} {D : va_G} {cA : Nat → ClassId} {aX aY : Nat → Nat} {H : Heap} {locs : List Loc} {Q : State → Prop} {ls : Array Slot} {n9 i : Nat} {I J : Nat → Int32} {F G : Nat → Nat → Int32} {sd : Int64} (C0 : lw_At p s m meth c b L xs) (C : LwC s D cA aX aY) (hL : L ≤ 2048) (hi : i + 4 ≤ L) (hc : n9 ≤ 600) (h : SR n9 I F J G) (hl : lv_has ls 4 [(0, .ref b), (1, .ref (aX 0)), (2, .ref (aY 0)), (3, .int (nI i))]) (hP1 : va_P D cls9 (pm_ws aX cA (hX I F sd)) H) (hP2 : va_P D cls9 (pm_ws aY cA (hY J G sd)) H) (hS : va_S (fun q => s.heap.size ≤ q) s.heap H locs) (kk : LwK p l e s m below meth c b D cA aX aY Q ls (n9 + 1)) : W p l e room_1 s m #[Value.ref b] below meth c H locs 600000 7302250 Q (F0 m 881 ls []) := by
  have hx := C0.1
  have hb := C0.2.1
  obtain ⟨x, I2, F2, J2, G2, sd2, eX, eY, hR⟩ := op_years (sd := sd) hc h (xs (i + 1))
  refine lv_aload_n hx hb dl_881 rfl (lv_at hl 1 rfl) ?_
  refine lw_arg (k := 1) C0 hL (by omega) (by decide +kernel) dA_882 hl hS ?_
  refine lw_cX (as := [.int (xs (i + 1))]) (g := hY J G sd) (rest := []) C0 C wl_94 rfl eX rfl rfl rfl rfl hl.1 (Nat.le_of_ble_eq_true rfl) dl_887 hP1 hP2 hS (fun H locs hP1 hP2 hS => ?_)
  refine lv_aload_n hx hb dl_890 rfl (lv_at hl 2 rfl) ?_
  refine lw_arg (k := 1) C0 hL (by omega) (by decide +kernel) dA_891 hl hS ?_
  refine lw_cY (as := [.int (xs (i + 1))]) (g := hX I2 F2 sd2) (rest := [.int x]) C0 C wl_165 rfl eY rfl rfl rfl rfl hl.1 (Nat.le_of_ble_eq_true rfl) dl_896 hP2 hP1 hS (fun H locs hP2 hP1 hS => ?_)
  exact lv_icmp_eq (tgt := 950) hx hb dl_899 (by decide) (fun _ => kk I2 F2 J2 G2 sd2 _ _ hR hP1 hP2 hS) (fun q => absurd rfl q)
theorem lk_25 {p : Program} {l : Launch} {e : Env} {s : State} {m : MethodId} {below : List Frame} {meth : Method} {c : Code} {b L : Nat} {xs : Nat → Int32} {D : va_G} {cA : Nat → ClassId} {aX aY : Nat → Nat} {H : Heap} {locs : List Loc} {Q : State → Prop} {ls : Array Slot} {n9 i : Nat} {I J : Nat → Int32} {F G : Nat → Nat → Int32} {sd : Int64} (C0 : lw_At p s m meth c b L xs) (C : LwC s D cA aX aY) (hL : L ≤ 2048) (hi : i + 4 ≤ L) (hc : n9 ≤ 600) (h : SR n9 I F J G) (hl : lv_has ls 4 [(0, .ref b), (1, .ref (aX 0)), (2, .ref (aY 0)), (3, .int (nI i))]) (hP1 : va_P D cls9 (pm_ws aX cA (hX I F sd)) H) (hP2 : va_P D cls9 (pm_ws aY cA (hY J G sd)) H) (hS : va_S (fun q => s.heap.size ≤ q) s.heap H locs) (kk : LwK p l e s m below meth c b D cA aX aY Q ls (n9 + 1)) : W p l e room_1 s m #[Value.ref b] below meth c H locs 600000 7302250 Q (F0 m 904 ls []) := by
  have hx := C0.1
  have hb := C0.2.1
  obtain ⟨x, I2, F2, J2, G2, sd2, eX, eY, hR⟩ := op_keep (sd := sd) h (xs (i + 1))
  refine lv_aload_n hx hb dl_904 rfl (lv_at hl 1 rfl) ?_
  refine lw_arg (k := 1) C0 hL (by omega) (by decide +kernel) dA_905 hl hS ?_
  refine lw_cX (as := [.int (xs (i + 1))]) (g := hY J G sd) (rest := []) C0 C wl_95 rfl eX rfl rfl rfl rfl hl.1 (Nat.le_of_ble_eq_true rfl) dl_910 hP1 hP2 hS (fun H locs hP1 hP2 hS => ?_)
  refine lv_aload_n hx hb dl_913 rfl (lv_at hl 2 rfl) ?_
  refine lw_arg (k := 1) C0 hL (by omega) (by decide +kernel) dA_914 hl hS ?_
  refine lw_cY (as := [.int (xs (i + 1))]) (g := hX I2 F2 sd2) (rest := [.int x]) C0 C wl_166 rfl eY rfl rfl rfl rfl hl.1 (Nat.le_of_ble_eq_true rfl) dl_919 hP2 hP1 hS (fun H locs hP2 hP1 hS => ?_)
  exact lv_icmp_eq (tgt := 950) hx hb dl_922 (by decide) (fun _ => kk I2 F2 J2 G2 sd2 _ _ hR hP1 hP2 hS) (fun q => absurd rfl q)
theorem lk_26 {p : Program} {l : Launch} {e : Env} {s : State} {m : MethodId} {below : List Frame} {meth : Method} {c : Code} {b L : Nat} {xs : Nat → Int32} {D : va_G} {cA : Nat → ClassId} {aX aY : Nat → Nat} {H : Heap} {locs : List Loc} {Q : State → Prop} {ls : Array Slot} {n9 i : Nat} {I J : Nat → Int32} {F G : Nat → Nat → Int32} {sd : Int64} (C0 : lw_At p s m meth c b L xs) (C : LwC s D cA aX aY) (hL : L ≤ 2048) (hi : i + 4 ≤ L) (hc : n9 ≤ 600) (h : SR n9 I F J G) (hl : lv_has ls 4 [(0, .ref b), (1, .ref (aX 0)), (2, .ref (aY 0)), (3, .int (nI i))]) (hP1 : va_P D cls9 (pm_ws aX cA (hX I F sd)) H) (hP2 : va_P D cls9 (pm_ws aY cA (hY J G sd)) H) (hS : va_S (fun q => s.heap.size ≤ q) s.heap H locs) (kk : LwK p l e s m below meth c b D cA aX aY Q ls (n9 + 1)) : W p l e room_1 s m #[Value.ref b] below meth c H locs 600000 7302250 Q (F0 m 927 ls []) := by
  have hx := C0.1
  have hb := C0.2.1
  obtain ⟨x, I2, F2, J2, G2, sd2, eX, eY, hR⟩ := op_again (sd := sd) hc h (xs (i + 1))
  refine lv_aload_n hx hb dl_927 rfl (lv_at hl 1 rfl) ?_
  refine lw_arg (k := 1) C0 hL (by omega) (by decide +kernel) dA_928 hl hS ?_
  refine lw_cX (as := [.int (xs (i + 1))]) (g := hY J G sd) (rest := []) C0 C wl_96 rfl eX rfl rfl rfl rfl hl.1 (Nat.le_of_ble_eq_true rfl) dl_933 hP1 hP2 hS (fun H locs hP1 hP2 hS => ?_)
  refine lv_aload_n hx hb dl_936 rfl (lv_at hl 2 rfl) ?_
  refine lw_arg (k := 1) C0 hL (by omega) (by decide +kernel) dA_937 hl hS ?_
  refine lw_cY (as := [.int (xs (i + 1))]) (g := hX I2 F2 sd2) (rest := [.int x]) C0 C wl_167 rfl eY rfl rfl rfl rfl hl.1 (Nat.le_of_ble_eq_true rfl) dl_942 hP2 hP1 hS (fun H locs hP2 hP1 hS => ?_)
  exact lv_icmp_eq (tgt := 950) hx hb dl_945 (by decide) (fun _ => kk I2 F2 J2 G2 sd2 _ _ hR hP1 hP2 hS) (fun q => absurd rfl q)
