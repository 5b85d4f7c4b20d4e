/-! THE CLAIM OUT OF ONE WALK OF THE LAW'S BODY. Your part is whole_start (and what it stands on); all else here is the same for every law, but numbers. -/
def R_law : String := "AntLeaseLaw"
def lw_P (b : Addr) (xs : List Int32) (args : Array Value) (s : State) : Prop := args = #[.ref b] ∧ s.IntsAt b xs ∧ xs.length ≤ 2048 ∧ (Jvm.Cond.and given_1 narrow_1).before args s = true
def lw_Q (_ : Array Value) (s : State) (o : Outcome) (t : State) : Prop := o = .returned (some (.int 1)) ∧ Framed s o t [] 600000 7302250
def lw_Z (below : List Frame) (a : Array Value) (s : State) : State → Prop := fun t => ∃ o, t.status = .running ∧ Ended t below o ∧ lw_Q a s o t
/-- the law's own end, with 1 on the stack, nothing written that was there before, its room as the claim has it -/
theorem lw_ret {p : Program} {l : Launch} {e : Env} {s : State} {m : MethodId} {below : List Frame} {meth : Method} {c : Code} {b : Nat} (hx : p.tables.exec = Jvm.exec) (hb : c.code = code) (hr : meth.sig.returnType = ret) (hlocks : meth.locks = false) {pc : Nat} {H : Heap} {ls : Array Slot} (hdg : decode code pc = .ok (.ireturn, 1)) : W p l e room_1 s m #[Value.ref b] below meth c H [] 600000 7302250 (lw_Z below #[Value.ref b] s) (F0 m pc ls [.int 1]) := by
  intro T hT X
  obtain ⟨fs, hret, hrun, hended, hW, hframe⟩ := X.leave (v := some (.int 1)) (hlocks := hlocks) (fun h => by rw [hr] at h; cases h)
  have hmeth' : T.vm.method? m = some meth := X.method'
  refine ⟨T.setFrames fs, ?_, .returned (some (.int 1)), hrun, hended, rfl, ⟨_, rfl⟩, hW, hframe⟩
  jvm_step X.here [X.here.top, hx, hb, hdg, hmeth', hr, ret, narrow_b1]
  (try refine ⟨rfl, ?_⟩); (try refine ⟨rfl, ?_⟩)
  first | (intro acts; rw [hret _ acts rfl rfl rfl]) | rw [hret _ _ rfl rfl rfl]
  exact Steps.refl _
/-- what holds at the law's entry: the machine, the code, the tables' words (any of lw_tbl by 'hts w (by decide +kernel)'), the script of L ints xs at the cell b, what the Statement gives of the start (any of its parts by flat_of_before) -/
def lw_At (p : Program) (s : State) (m : MethodId) (meth : Method) (c : Code) (b L : Nat) (xs : Nat → Int32) : Prop :=
  p.tables.exec = Jvm.exec ∧ c.code = code ∧ meth.sig.returnType = ret ∧ c.maxLocals = 4 ∧ s.vm.findClass R_law = some m.cls ∧ (∀ w ∈ lw_tbl, w.before #[Value.ref b] s = true) ∧ va_X b L xs s s.heap ∧ b < s.heap.size ∧ meth.locks = false ∧ (Jvm.Cond.and given_1 narrow_1).before #[Value.ref b] s = true

/-! the law's generic rows -/
theorem pm_ws_of {ad : Nat → Nat} {cA : Nat → ClassId} {hp : pm_HP} {k : Nat} {q : Nat × va_E} (h : (pm_ws ad cA hp)[k]? = some q) : k < hp.length ∧ q.1 = ad k := by
  rw [pm_ws, List.getElem?_mapIdx] at h
  cases hx : hp[k]? with
  | none => rw [hx] at h; cases h
  | some x =>
    rw [hx] at h
    cases h
    exact ⟨(List.getElem?_eq_some_iff.mp hx).1, rfl⟩
theorem pm_ws_ex {ad : Nat → Nat} {cA : Nat → ClassId} {hp : pm_HP} {k : Nat} (h : k < hp.length) : ∃ e : va_E, (pm_ws ad cA hp)[k]? = some (ad k, e) := ⟨_, pm_ws_at (List.getElem?_eq_getElem h)⟩
theorem pm_ws_len {ad : Nat → Nat} {cA : Nat → ClassId} {hp : pm_HP} : (pm_ws ad cA hp).length = hp.length := by rw [pm_ws, List.length_mapIdx]
def LwC (s : State) (D : va_G) (cA : Nat → ClassId) (aX aY : Nat → Nat) : Prop := va_K D cls9 (pm_tys cA) s ∧ pm_NW nst9 s ∧ (∀ i j, i < 15 → j < 15 → aX i = aX j → i = j) ∧ (∀ i j, i < 14 → j < 14 → aY i = aY j → i = j) ∧ (∀ i j, i < 15 → j < 14 → aX i ≠ aY j) ∧ (∀ i, i < 15 → s.heap.size ≤ aX i) ∧ ∀ j, j < 14 → s.heap.size ≤ aY j
def LwM (k idx n : Nat) (K : pm_M) : Prop := mt[k]? = some K ∧ Cond.methodLink R_law idx K.1 ∈ lw_tbl ∧ Cond.instanceMethod K.1 ∈ lw_tbl ∧ Cond.selects K.1.cls K.1 K.1 ∈ lw_tbl ∧ (parseMethodDescriptor K.1.desc).map (fun d => d.parameters.length) = some n
def LwK (p : Program) (l : Launch) (e : Env) (s : State) (m : MethodId) (below : List Frame) (meth : Method) (c : Code) (b : Nat) (D : va_G) (cA : Nat → ClassId) (aX aY : Nat → Nat) (Q : State → Prop) (ls : Array Slot) (n : Nat) : Prop := ∀ (I : Nat → Int32) (F : Nat → Nat → Int32) (J : Nat → Int32) (G : Nat → Nat → Int32) (sd : Int64) (H : Heap) (locs : List Loc), SR n I F J G → va_P D cls9 (pm_ws aX cA (hX I F sd)) H → va_P D cls9 (pm_ws aY cA (hY J G sd)) H → va_S (fun q => s.heap.size ≤ q) s.heap H locs → W p l e room_1 s m #[Value.ref b] below meth c H locs 600000 7302250 Q (F0 m 950 ls [])
section
variable {p : Program} {l : Launch} {e : Env} {s : State} {m : MethodId} {below : List Frame} {meth : Method} {c : Code} {b L : Nat} {xs : Nat → Int32} {D : va_G} {cA : Nat → ClassId} {H : Heap} {locs : List Loc} {Q : State → Prop} {ls : Array Slot} {rest : List Value}
/-- a call of a method of one of the two worlds: the other stays -/
theorem lw_call {a1 a2 : Nat → Nat} {N1 N2 k idx pc ci n nf : Nat} {K : pm_M} {as : List Value} {h1 h2 g : pm_HP} {r : Value} {T : u_T} {fs : List Value}
    (C0 : lw_At p s m meth c b L xs) (hK : va_K D cls9 (pm_tys cA) s) (hNW : pm_NW nst9 s) (inj : ∀ i j, i < N1 → j < N1 → a1 i = a1 j → i = j) (dis : ∀ i j, i < N1 → j < N2 → a1 i ≠ a2 j) (hA1 : ∀ i, i < N1 → s.heap.size ≤ a1 i)
    (M : LwM k idx n K) (hrun : pm_run mt 10 k (.ref 0 :: as) h1 = some (some r, h2)) (hN1 : h1.length = N1) (hN2 : g.length = N2) (h0 : h1[0]? = some (.inr (ci, fs))) (hci : cls9[ci]? = some (K.1.cls, T, nf)) (hn : as.length = n)
    (hav : as.map (pm_vm a1) = as) (hrv : pm_vm a1 r = r) (hls : ls.size = 4) (hrest : (rest.map fun v => v.category).sum ≤ 8) (hdg : decode code pc = .ok (.invokevirtual idx, 3))
    (hP1 : va_P D cls9 (pm_ws a1 cA h1) H) (hP2 : va_P D cls9 (pm_ws a2 cA g) H) (hS : va_S (fun q => s.heap.size ≤ q) s.heap H locs)
    (kk : ∀ (H1 : Heap) (locs1 : List Loc), va_P D cls9 (pm_ws a1 cA h2) H1 → va_P D cls9 (pm_ws a2 cA g) H1 → va_S (fun q => s.heap.size ≤ q) s.heap H1 locs1 → W p l e room_1 s m #[Value.ref b] below meth c H1 locs1 600000 7302250 Q (F0 m (pc + 3) ls (r :: rest))) :
    W p l e room_1 s m #[Value.ref b] below meth c H locs 600000 7302250 Q (F0 m pc ls (as.reverse ++ .ref (a1 0) :: rest)) := by
  obtain ⟨hx, hb, hr, hml, hown, hts, -, -, -, -⟩ := C0
  obtain ⟨hk, w1, w2, w3, hd⟩ := M
  have hKM := PR_ok.2.2 K (List.mem_of_getElem? (show PR.1[k]? = some K from hk))
  obtain ⟨j1, j2, j3, j4, j5, j6, -, -⟩ := pm_okM_to hKM
  obtain ⟨-, hMet⟩ := pm_sound PR_ok l D cA a1 N1 inj 10 k K (.ref 0 :: as) h1 h2 (some r) hk hrun hN1
  have hMet := hMet H.size
  rw [List.map_cons, hav] at hMet
  have hG : GoodIn lw_tbl (.code K.1 K.2.1 K.2.2.1 K.2.2.2.1 :: PR.2.2.1) := fun w hw => by
    rcases List.mem_cons.mp hw with rfl | hw
    · exact ⟨tb9_in _ j4, good_of_word (tb9_good _ j4)⟩
    · exact ⟨tb9_in _ hw, good_of_word (tb9_good _ hw)⟩
  have hcb : CallB room_1 s #[Value.ref b] R_law idx K.1 K.2.1 K.2.2.1 K.2.2.2.1 (.code K.1 K.2.1 K.2.2.1 K.2.2.2.1 :: PR.2.2.1) (pm_rm 10) 0 0 n := callB_of n hts hG rfl rfl rfl (hts _ (tb9_in _ j5)) (hts _ w1) ⟨j2, j3, hd⟩ ⟨Nat.le_of_ble_eq_true rfl, by show 8 + (K.2.2.1 + 11) + 640 ≤ 84000; omega⟩
  have hrun := va_runV (e := e) (below := below) (meth := meth) (H := H) (locs := locs) (cells := 600000) (slots := 7302250) (g := F0 m pc ls (as.reverse ++ .ref (a1 0) :: rest)) (b := a1 0) (C := K.1.cls) (As := as) (rest := rest) ⟨hx, hb, hml, hown, hts⟩ hMet ⟨hcb, hts _ w2, hts _ w3⟩
    ⟨pm_blind D PR.2.1 PR.2.2.2 a1 cA h1 H.size _, va_recv hK hP1 hci (pm_ws_at h0), fun U hU hW => ⟨rfl, by rw [hU], by rw [hU]; exact hP1, va_K.moved hW.alike hK, hNW.warm hW⟩⟩
    rfl hn hls rfl (lv_room hrest) hdg ⟨Nat.le_of_ble_eq_true rfl, Nat.le_of_ble_eq_true rfl⟩
  have hA : ∀ q, pm_A a1 N1 H.size q → s.heap.size ≤ q := fun q hq => by
    rcases hq with ⟨i, hi, rfl⟩ | hq
    · exact hA1 i hi
    · exact Nat.le_trans hS.1 hq
  intro T1 hT X
  obtain ⟨v, st₀, t, T', L1, e0, X', hL, e1, e2, ⟨hv, hP1', hz, hk'⟩, st⟩ := hrun T1 hT X
  rw [e0] at hz hk'
  have e9 : v = some r := by
    cases hv
    show some (pm_vm a1 r) = some r
    rw [hrv]
  subst e9
  have hP2' : va_P D cls9 (pm_ws a2 cA g) T'.heap := by
    refine hP2.kept (fun k q hq => ?_)
    obtain ⟨q1, q2⟩ := pm_ws_of hq
    have hlt : q.1 < H.size := (hP2 k q hq).lt
    rw [e1]
    refine hk' q.1 hlt (fun z => ?_)
    rcases z with ⟨i, hi, hq1⟩ | z
    · exact dis i k hi (by rw [← hN2]; exact q1) (by rw [← hq1, q2])
    · omega
  obtain ⟨t2, a9, b9⟩ := kk T'.heap (locs ++ L1) (by rw [e1]; exact hP1') hP2'
    ⟨Nat.le_trans hS.1 (by rw [e1]; exact hz), fun q z1 z2 => by rw [e1, hk' q (Nat.lt_of_lt_of_le z1 hS.1) (fun z => z2 (hA q z))]; exact hS.2.1 q z1 z2, fun q hq => by
      rcases List.mem_append.mp hq with z | z
      · exact hS.2.2 q z
      · exact hA _ (hL q z)⟩ T' rfl X'
  exact ⟨t2, st t2 a9, b9⟩
theorem lw_cX {aX aY : Nat → Nat} {k idx pc n : Nat} {K : pm_M} {as : List Value} {I I2 : Nat → Int32} {F F2 : Nat → Nat → Int32} {sd sd2 : Int64} {g : pm_HP} {r : Value}
    (C0 : lw_At p s m meth c b L xs) (C : LwC s D cA aX aY) (M : LwM k idx n K) (hcl : K.1.cls = RX7) (hrun : pm_run mt 10 k (.ref 0 :: as) (hX I F sd) = some (some r, hX I2 F2 sd2)) (hn : as.length = n) (hg : g.length = 14)
    (hav : as.map (pm_vm aX) = as) (hrv : pm_vm aX r = r) (hls : ls.size = 4) (hrest : (rest.map fun v => v.category).sum ≤ 8) (hdg : decode code pc = .ok (.invokevirtual idx, 3))
    (hP1 : va_P D cls9 (pm_ws aX cA (hX I F sd)) H) (hP2 : va_P D cls9 (pm_ws aY cA g) H) (hS : va_S (fun q => s.heap.size ≤ q) s.heap H locs)
    (kk : ∀ (H1 : Heap) (locs1 : List Loc), va_P D cls9 (pm_ws aX cA (hX I2 F2 sd2)) H1 → va_P D cls9 (pm_ws aY cA g) H1 → va_S (fun q => s.heap.size ≤ q) s.heap H1 locs1 → W p l e room_1 s m #[Value.ref b] below meth c H1 locs1 600000 7302250 Q (F0 m (pc + 3) ls (r :: rest))) :
    W p l e room_1 s m #[Value.ref b] below meth c H locs 600000 7302250 Q (F0 m pc ls (as.reverse ++ .ref (aX 0) :: rest)) :=
  lw_call (N1 := 15) (N2 := 14) (ci := 7) (T := TX7) (nf := 10) C0 C.1 C.2.1 C.2.2.1 C.2.2.2.2.1 C.2.2.2.2.2.1 M hrun rfl hg rfl (by rw [hcl]; rfl) hn hav hrv hls hrest hdg hP1 hP2 hS kk
theorem lw_cY {aX aY : Nat → Nat} {k idx pc n : Nat} {K : pm_M} {as : List Value} {J J2 : Nat → Int32} {G G2 : Nat → Nat → Int32} {sd sd2 : Int64} {g : pm_HP} {r : Value}
    (C0 : lw_At p s m meth c b L xs) (C : LwC s D cA aX aY) (M : LwM k idx n K) (hcl : K.1.cls = RX8) (hrun : pm_run mt 10 k (.ref 0 :: as) (hY J G sd) = some (some r, hY J2 G2 sd2)) (hn : as.length = n) (hg : g.length = 15)
    (hav : as.map (pm_vm aY) = as) (hrv : pm_vm aY r = r) (hls : ls.size = 4) (hrest : (rest.map fun v => v.category).sum ≤ 8) (hdg : decode code pc = .ok (.invokevirtual idx, 3))
    (hP1 : va_P D cls9 (pm_ws aY cA (hY J G sd)) H) (hP2 : va_P D cls9 (pm_ws aX cA g) H) (hS : va_S (fun q => s.heap.size ≤ q) s.heap H locs)
    (kk : ∀ (H1 : Heap) (locs1 : List Loc), va_P D cls9 (pm_ws aY cA (hY J2 G2 sd2)) H1 → va_P D cls9 (pm_ws aX cA g) H1 → va_S (fun q => s.heap.size ≤ q) s.heap H1 locs1 → W p l e room_1 s m #[Value.ref b] below meth c H1 locs1 600000 7302250 Q (F0 m (pc + 3) ls (r :: rest))) :
    W p l e room_1 s m #[Value.ref b] below meth c H locs 600000 7302250 Q (F0 m pc ls (as.reverse ++ .ref (aY 0) :: rest)) :=
  lw_call (N1 := 14) (N2 := 15) (ci := 8) (T := TX8) (nf := 32) C0 C.1 C.2.1 C.2.2.2.1 (fun i j hi hj z => C.2.2.2.2.1 j i hj hi z.symm) C.2.2.2.2.2.2 M hrun rfl hg rfl (by rw [hcl]; rfl) hn hav hrv hls hrest hdg hP1 hP2 hS kk
def okA (pc : Nat) (n : Int) : Bool := decide (decode code pc = .ok (.aload_n 0, 1)) && (decide (decode code (pc + 1) = .ok (.iload_n 3, 1)) && (decide (decode code (pc + 2) = .ok (.iconst n, 1)) && (decide (decode code (pc + 3) = .ok (.iadd, 1)) && decide (decode code (pc + 4) = .ok (.iaload, 1)))))
/-- the int of the script that stands k behind -/
theorem lw_arg {pc i k x1 x2 cells slots : Nat} {n : Int} (C0 : lw_At p s m meth c b L xs) (hL : L ≤ 2048) (hik : i + k < L) (hn : Int32.ofInt n = nI k) (hd : okA pc n = true) (hl : lv_has ls 4 [(0, .ref b), (1, .ref x1), (2, .ref x2), (3, .int (nI i))]) (hS : va_S (fun q => s.heap.size ≤ q) s.heap H locs)
    (kk : W p l e room_1 s m #[Value.ref b] below meth c H locs cells slots Q (F0 m (pc + 5) ls (.int (xs (i + k)) :: rest))) : W p l e room_1 s m #[Value.ref b] below meth c H locs cells slots Q (F0 m pc ls rest) := by
  obtain ⟨hx, hb, hr, hml, hown, hts, hX, hbl, hlocks, hgv⟩ := C0
  unfold okA at hd
  simp only [Bool.and_eq_true, decide_eq_true_eq] at hd
  obtain ⟨d0, d1, d2, d3, d4⟩ := hd
  have hbA : ¬ (fun q : Nat => s.heap.size ≤ q) b := Nat.not_le.mpr hbl
  refine lv_aload_n hx hb d0 rfl (lv_at hl 0 rfl) ?_
  refine lv_iload_n hx hb d1 rfl (lv_at hl 3 rfl) ?_
  refine lv_iconst (v := nI k) hx hb d2 hn ?_
  refine lv_iadd hx hb d3 ?_
  rw [nI_add]
  refine va_sld hx hb hX hbl hbA hS (vp_in_nI hik (by omega)) d4 ?_
  rw [nI_clamp (by omega)]
  exact kk
def okB (pc : Nat) : Bool := decide (decode code pc = .ok (.ifCond .eq 7, 3)) && (decide (decode code (pc + 3) = .ok (.iconst 1, 1)) && (decide (decode code (pc + 4) = .ok (.goto 4, 3)) && decide (decode code (pc + 7) = .ok (.iconst 0, 1))))
def bz (x : Int32) : Int32 := if x = 0 then 0 else 1
theorem lw_bool {pc cells slots : Nat} {x : Int32} (C0 : lw_At p s m meth c b L xs) (hd : okB pc = true)
    (kk : W p l e room_1 s m #[Value.ref b] below meth c H locs cells slots Q (F0 m (pc + 8) ls (.int (bz x) :: rest))) : W p l e room_1 s m #[Value.ref b] below meth c H locs cells slots Q (F0 m pc ls (.int x :: rest)) := by
  have hx := C0.1
  have hb := C0.2.1
  unfold okB at hd
  simp only [Bool.and_eq_true, decide_eq_true_eq] at hd
  obtain ⟨d0, d1, d2, d3⟩ := hd
  refine lv_if_eq (tgt := pc + 7) hx hb d0 (by omega) (fun h => ?_) (fun h => ?_)
  · refine lv_iconst (v := 0) hx hb d3 (by decide) ?_
    rw [bz, if_pos h] at kk
    exact kk
  · refine lv_iconst (v := 1) hx hb d1 (by decide) ?_
    refine lv_goto (tgt := pc + 8) hx hb d2 (by omega) ?_
    rw [bz, if_neg h] at kk
    exact kk
def rw64 (x y : Int32) : Int64 := (x.toInt64 <<< ((32 : Int32).toInt64 &&& 63)) ||| (y.toInt64 &&& 4294967295)
def okR (pc : Nat) (n n2 : Int) : Bool := okA pc n && (decide (decode code (pc + 5) = .ok (.i2l, 1)) && (decide (decode code (pc + 6) = .ok (.bipush 32, 2)) && (decide (decode code (pc + 8) = .ok (.lshl, 1)) && (okA (pc + 9) n2 && (decide (decode code (pc + 14) = .ok (.i2l, 1)) && (decide (decode code (pc + 15) = .ok (.ldc2_w 80, 3)) && (decide (decode code (pc + 18) = .ok (.land, 1)) && decide (decode code (pc + 19) = .ok (.lor, 1)))))))))
theorem lw_wc : Cond.constantLong R_law 80 4294967295 ∈ lw_tbl := List.mem_of_getElem? (i := 980) (by decide +kernel)
theorem lw_row {pc i k k2 x1 x2 cells slots : Nat} {n n2 : Int} (C0 : lw_At p s m meth c b L xs) (hL : L ≤ 2048) (hik : i + k < L) (hik2 : i + k2 < L) (hn : Int32.ofInt n = nI k) (hn2 : Int32.ofInt n2 = nI k2) (hd : okR pc n n2 = true) (hl : lv_has ls 4 [(0, .ref b), (1, .ref x1), (2, .ref x2), (3, .int (nI i))]) (hS : va_S (fun q => s.heap.size ≤ q) s.heap H locs)
    (kk : W p l e room_1 s m #[Value.ref b] below meth c H locs cells slots Q (F0 m (pc + 20) ls (.long (rw64 (xs (i + k)) (xs (i + k2))) :: rest))) : W p l e room_1 s m #[Value.ref b] below meth c H locs cells slots Q (F0 m pc ls rest) := by
  have hx := C0.1
  have hb := C0.2.1
  have hown := C0.2.2.2.2.1
  have hts := C0.2.2.2.2.2.1
  unfold okR at hd
  simp only [Bool.and_eq_true, decide_eq_true_eq] at hd
  obtain ⟨d0, d1, d2, d3, d4, d5, d6, d7, d8⟩ := hd
  refine lw_arg (k := k) C0 hL hik hn d0 hl hS ?_
  refine lv_i2l hx hb d1 rfl ?_
  refine lv_bipush (v := 32) hx hb d2 (by decide) ?_
  refine lv_lshl hx hb d3 rfl ?_
  refine lw_arg (k := k2) C0 hL hik2 hn2 d4 hl hS ?_
  refine lv_i2l hx hb d5 rfl ?_
  refine lv_ldc2 hx hb hown (hts _ lw_wc) d6 ?_
  refine lv_land hx hb d7 ?_
  refine lv_lor hx hb d8 ?_
  exact kk
end
theorem lg_cmp_s (x : Int64) : lg_cmp x x = 0 := by simp [lg_cmp]
theorem lw_31 (x : Int32) : ∃ o, o < 32 ∧ x &&& 31 = nI o := by
  refine ⟨(x &&& 31).toBitVec.toNat, ?_, ?_⟩
  · have h : (x &&& 31).toBitVec = x.toBitVec &&& 31#32 := rfl
    rw [h, BitVec.toNat_and]
    exact Nat.lt_of_le_of_lt Nat.and_le_right (by decide)
  · apply Int32.toBitVec_inj.mp
    show (x &&& 31).toBitVec = BitVec.ofNat 32 (x &&& 31).toBitVec.toNat
    rw [BitVec.ofNat_toNat, BitVec.setWidth_eq]
theorem lw_s4 : ∀ L, L < 4 → ∀ i, i < 4 → i ≤ L → nI L - 4 < nI i := by decide +kernel
theorem lw_lt {L i : Nat} (hL : L ≤ 2048) (hi : i ≤ L) (h : ¬ nI L - 4 < nI i) : i + 4 ≤ L := by
  rcases Nat.lt_or_ge L (i + 4) with q | q
  · exfalso
    apply h
    rcases Nat.lt_or_ge L 4 with z | z
    · exact lw_s4 L z i (by omega) hi
    · obtain ⟨k, rfl⟩ : ∃ k, L = k + 4 := ⟨L - 4, by omega⟩
      have e4 : nI (k + 4) = nI k + 4 := (nI_add k 4).symm
      rw [e4, Int32.add_sub_cancel]
      exact nI_lt (by omega) (by omega)
  · exact q
