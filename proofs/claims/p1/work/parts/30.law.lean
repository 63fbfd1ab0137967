/-! THE CLAIM OUT OF ONE WALK OF THE LAW'S BODY. Your part is whole_start (and what it stands on); all else here is the same for every law, but numbers. -/
def R_law : String := "PromiseTreesLaw"
def lw_P (b : Addr) (xs : List Int32) (args : Array Value) (s : State) : Prop := args = #[.ref b] ∧ s.IntsAt b xs ∧ xs.length ≤ 6 ∧ (Jvm.Cond.and given_1 narrow_1).before args s = true
def lw_Q (_ : Array Value) (s : State) (o : Outcome) (t : State) : Prop := o = .returned (some (.int 1)) ∧ Framed s o t [] 600002 7302232
def lw_Z (below : List Frame) (a : Array Value) (s : State) : State → Prop := fun t => ∃ o, t.status = .running ∧ Ended t below o ∧ lw_Q a s o t
/-- the law's own end, with 1 on the stack, nothing written that was there before, its room as the claim has it -/
theorem lw_ret {p : Program} {l : Launch} {e : Env} {s : State} {m : MethodId} {below : List Frame} {meth : Method} {c : Code} {b : Nat} (hx : p.tables.exec = Jvm.exec) (hb : c.code = code) (hr : meth.sig.returnType = ret) (hlocks : meth.locks = false) {pc : Nat} {H : Heap} {ls : Array Slot} (hdg : decode code pc = .ok (.ireturn, 1)) : W p l e room_1 s m #[Value.ref b] below meth c H [] 600002 7302232 (lw_Z below #[Value.ref b] s) (F0 m pc ls [.int 1]) := by
  intro T hT X
  obtain ⟨fs, hret, hrun, hended, hW, hframe⟩ := X.leave (v := some (.int 1)) (hlocks := hlocks) (fun h => by rw [hr] at h; cases h)
  have hmeth' : T.vm.method? m = some meth := X.method'
  refine ⟨T.setFrames fs, ?_, .returned (some (.int 1)), hrun, hended, rfl, ⟨_, rfl⟩, hW, hframe⟩
  jvm_step X.here [X.here.top, hx, hb, hdg, hmeth', hr, ret, narrow_b1]
  (try refine ⟨rfl, ?_⟩); (try refine ⟨rfl, ?_⟩)
  first | (intro acts; rw [hret _ acts rfl rfl rfl]) | rw [hret _ _ rfl rfl rfl]
  exact Steps.refl _
/-- what holds at the law's entry: the machine, the code, the tables' words (any of lw_tbl by 'hts w (by decide +kernel)'), the script of L ints xs at the cell b, what the Statement gives of the start (any of its parts by flat_of_before) -/
def lw_At (p : Program) (s : State) (m : MethodId) (meth : Method) (c : Code) (b L : Nat) (xs : Nat → Int32) : Prop :=
  p.tables.exec = Jvm.exec ∧ c.code = code ∧ meth.sig.returnType = ret ∧ c.maxLocals = 7 ∧ s.vm.findClass R_law = some m.cls ∧ (∀ w ∈ lw_tbl, w.before #[Value.ref b] s = true) ∧ va_X b L xs s s.heap ∧ b < s.heap.size ∧ meth.locks = false ∧ (Jvm.Cond.and given_1 narrow_1).before #[Value.ref b] s = true ∧ meth.name = x.name
def lw_tg : List Nat := [224, 297, 322, 335, 348, 416, 484, 521, 546, 571, 596, 621, 646, 671, 684, 709, 734, 759, 784, 821, 858, 871, 884, 897, 922, 935, 948, 961, 998, 1011, 1024, 1061, 1074, 1099, 1136, 1185, 1210, 1235, 1248, 1273, 1298, 1323]
def lw_t (j : Nat) : Nat := lw_tg.getD j 1348
def lw_offs : Array Int := #[184, 257, 282, 295, 308, 376, 444, 481, 506, 531, 556, 581, 606, 631, 644, 669, 694, 719, 744, 781, 818, 831, 844, 857, 882, 895, 908, 921, 958, 971, 984, 1021, 1034, 1059, 1096, 1145, 1170, 1195, 1208, 1233, 1258, 1283]
theorem lw_d39 : decode code 39 = .ok (.iand, 1) := by decide +kernel
theorem lw_d40 : decode code 40 = .ok (.tableswitch 1308 0 41 lw_offs, 184) := by decide +kernel
theorem lw_d4 : decode code 362 = .ok (.invokestatic 41, 3) := by decide +kernel
theorem lw_d5 : decode code 430 = .ok (.invokestatic 50, 3) := by decide +kernel
theorem lw_sw : ∀ j, j < 42 → ¬ (nI j).toInt < 0 ∧ ¬ 41 < (nI j).toInt ∧ lw_offs[((nI j).toInt - 0).toNat]? = some ((lw_t j : Int) - 40) := by decide +kernel
theorem lw_so : ∀ j, j < 64 → ¬ j < 42 → 41 < (nI j).toInt ∧ lw_t j = 1348 := by decide +kernel
theorem lw_rep {α : Type} {v w : α} (n : Nat) : ∀ k, eg_nth (eg_rep v n) k = some w → w = v := by
  induction n with
  | zero => intro k h; cases h
  | succ n ih =>
    intro k h
    cases k with
    | zero => cases h; rfl
    | succ k => exact ih k h
theorem lw_repl {α : Type} {v : α} (n : Nat) : (eg_rep v n).length = n := by
  induction n with
  | zero => rfl
  | succ n ih => simp [eg_rep, ih]
theorem lw_h0 {a : Nat} {c : eg_C} (h : eg_get eg_h0 a = some c) : c = .inl (99, []) := by
  unfold eg_get eg_h0 at h
  split at h
  next r hr =>
    rw [lw_rep _ _ hr] at h
    exact lw_rep _ _ h
  next => cases h
theorem lw_ph : ∀ L, L < 6 → eg_req (eg_run [] (eg_rep (.float 0) L) 9999 23 20000 9999 12 20 600002 7302232 0 (eg_pg 9999) [(0, .float 1)] [] 0 eg_h0) 9 23 eg_ls23 [] eg_hn23 eg_h23 = true
  | 0, _ => ph_0
  | 1, _ => ph_1
  | 2, _ => ph_2
  | 3, _ => ph_3
  | 4, _ => ph_4
  | 5, _ => ph_5
  | n + 6, h => absurd h (by omega)
/-- beyond eg_T, at the entry -/
theorem lw_xc {s : State} {b : Nat} {E : eg_X} (hE1 : E.1 = s.heap.size) (hgv : (Jvm.Cond.and given_1 narrow_1).before #[Value.ref b] s = true) (hts : ∀ w ∈ lw_tbl, w.before #[Value.ref b] s = true) : xc_T E s s.heap := by
  have hs : ∀ (i : Nat) (w : Cond), st_fl[i]? = some w → w.before #[Value.ref b] s = true := fun i w h => flat_of_before _ hgv w (List.mem_of_getElem? h)
  have hA : ∀ a : Nat, a < s.heap.size → ¬ eg_A E a := fun a h => by unfold eg_A; rw [hE1]; exact Nat.not_le.mpr h
  refine ⟨fun w hw hd => va_Nw.of ?_ (hts w hw), vx_Zqof (hts _ (List.mem_of_getElem? (i := 1395) (by decide +kernel))) (hts _ (List.mem_of_getElem? (i := 137) (by decide +kernel))) (hs 9 _ (by decide +kernel)) hA, vx_Zqof (hts _ (List.mem_of_getElem? (i := 1397) (by decide +kernel))) (hts _ (List.mem_of_getElem? (i := 137) (by decide +kernel))) (hs 10 _ (by decide +kernel)) hA⟩
  cases w with
  | castable C T => rfl
  | declares y => rfl
  | _ => cases hd
set_option maxHeartbeats 4000000 in
/-- a run of the engine that comes to the law's true -/
theorem lw_go {l : Launch} {p : Program} {e : Env} {s : State} {m : MethodId} {below : List Frame} {meth : Method} {c : Code} {b : Nat} {E : eg_X} {D : va_G} {dT : Nat → ClassId} {sc : List Value} {en : List (Int × Int)} (hE1 : E.1 = s.heap.size) (hX : eg_ctx E D dT sc p s m #[Value.ref b] meth c 9999 12) (hr : meth.sig.returnType = ret) (hlocks : meth.locks = false) (hEn : eg_en E en) {R2 : Room} (hR2 : R2.cells ≤ room_1.cells ∧ R2.slots ≤ room_1.slots) {t : Nat} {ls : eg_L} {st : List Value} {hn : Nat} {h : eg_H} {H : Heap} {locs : List Loc} {cells slots : Nat} {lsA : Array Slot} {stc : List Value} (hI : eg_I E D dT 9999 R2 s H locs cells slots lsA stc ls st hn h 0 0)
    (hrun : ∃ (pc' : Nat) (ls' : eg_L) (hn' : Nat) (h' : eg_H), eg_run en sc 99999 0 20000 9999 12 20 0 0 t (eg_seek t (eg_pg 9999)) ls st hn h = some (3, pc', ls', [.int 1], hn', h')) : W p l e room_1 s m #[Value.ref b] below meth c H locs cells slots (lw_Z below #[Value.ref b] s) (F0 m t lsA stc) := by
  obtain ⟨pc', ls', hn', h', hrun⟩ := hrun
  refine (eg_run_ok eg_pg_ok 20000) 9999 12 20 0 0 t _ _ _ _ _ _ _ _ _ _ _ hrun (fun q hq => eg_pg_ok 9999 q (eg_seek_mem hq)) E D dT p l e room_1 R2 hR2 s m _ below meth c H locs cells slots _ lsA stc hX hEn hI (by show 20 ≤ 2048; decide) (by show 64 * 20 ≤ 84000; decide) ?_
  intro H' locs' cells' slots' lsA' stc' hI' hend
  obtain ⟨gH, gS, gL, gst, gc1, gc2⟩ := hI'
  obtain ⟨w, _, rfl, hw, rfl⟩ := gst
  obtain rfl : w = .int 1 := hw
  rcases hend with ⟨e3, -⟩ | ⟨-, hd⟩ | ⟨e3, -⟩ | ⟨e3, -⟩
  · omega
  · refine va_forget (fun q hq => by rw [← hE1]; exact gS.2.2 q hq) ?_
    have hc9 : room_1.cells = 600002 ∧ room_1.slots = 7302232 := ⟨rfl, rfl⟩
    refine W.widen (k := 600002) (n := 7302232) (by omega) (by omega) ?_
    exact lw_ret hX.1 hX.2.1 hr hlocks hd
  · omega
  · omega
/-- of one helper: what the law's call asks -/
def lw_hp (t sp ix u : Nat) (yH : MethodName) (bH : ByteArray) : Prop := ∀ (l : Launch), l.stackTraces = false → ∀ (E : eg_X) (D : va_G) (dT : Nat → ClassId) (en : List (Int × Int)), en ∈ eg_prod pt_4 → eg_en E en → ∀ H : Heap, eg_h E D dT eg_hn23 eg_h23 H → Met l yH (Cond.codeWith yH bH 5 (some .int) hp_hh :: eg_ws) { frames := 13, cells := 1, slots := 6, locals := 832 } (xc_Pc E D dT (eg_mks 0 en) [.ref E.1, .int (E.2.2.2.2 1), .int (E.2.2.2.2 2), .ref (E.1 + 204)] H) (eg_Qc E D dT (some (.int 1)) 999 eg_h23) 1 6 (eg_A E)
theorem xe_ra : ∀ en ∈ eg_prod pt_4, (eg_mks 0 en).getD 1 .null = .retAddr 1 ∧ (eg_mks 0 en).getD 2 .null = .retAddr 2 := by decide +kernel
theorem lw_hp4 : lw_hp 348 362 41 1367 hp_y4 method_3_code := fun l hl E D dT en hen hEn H hH => by
  obtain ⟨e1, e2⟩ := xe_ra en hen
  exact hp_met ⟨by decide +kernel, rfl⟩ hp_u4 hp_w4 hp_d4 rfl hp_s4 hH (xc_met hp_u4 (by decide +kernel) rfl xd_4 (tg := 21) (by decide) xt_4 (xr_4 en hen) hl hEn hH (by rw [e1]; rfl) (by rw [e2]; rfl))
theorem lw_hp5 : lw_hp 416 430 50 1436 hp_y5 method_4_code := fun l hl E D dT en hen hEn H hH => by
  obtain ⟨e1, e2⟩ := xe_ra en hen
  exact hp_met ⟨by decide +kernel, rfl⟩ hp_u5 hp_w5 hp_d5 rfl hp_s5 hH (xc_met hp_u5 (by decide +kernel) rfl xd_5 (tg := 20) (by decide) xt_5 (xr_5 en hen) hl hEn hH (by rw [e1]; rfl) (by rw [e2]; rfl))
theorem lw_g4 : GoodIn eg_ws (va_wsS hp_L 41 hp_y4 (Cond.codeWith hp_y4 method_3_code 5 (some .int) hp_hh :: eg_ws)) := by
  intro w hw
  have hin : w ∈ eg_ws := by
    rcases List.mem_append.mp hw with hw | hw
    · simp only [List.mem_cons, List.not_mem_nil, or_false] at hw
      rcases hw with rfl | rfl | rfl
      · exact eg_tb_in (p := 1360) (by decide +kernel) rfl
      · exact eg_tb_in (p := 1361) (by decide +kernel) rfl
      · exact eg_tb_in (p := 119) (by decide +kernel) rfl
    · rcases List.mem_cons.mp hw with rfl | hw
      · exact eg_tb_in hp_k4 rfl
      · exact hw
  exact ⟨hin, good_of_word (List.mem_filter.mp hin).2⟩
theorem lw_g5 : GoodIn eg_ws (va_wsS hp_L 50 hp_y5 (Cond.codeWith hp_y5 method_4_code 5 (some .int) hp_hh :: eg_ws)) := by
  intro w hw
  have hin : w ∈ eg_ws := by
    rcases List.mem_append.mp hw with hw | hw
    · simp only [List.mem_cons, List.not_mem_nil, or_false] at hw
      rcases hw with rfl | rfl | rfl
      · exact eg_tb_in (p := 1430) (by decide +kernel) rfl
      · exact eg_tb_in (p := 1431) (by decide +kernel) rfl
      · exact eg_tb_in (p := 119) (by decide +kernel) rfl
    · rcases List.mem_cons.mp hw with rfl | hw
      · exact eg_tb_in hp_k5 rfl
      · exact hw
  exact ⟨hin, good_of_word (List.mem_filter.mp hin).2⟩
theorem lw_n4 : hp_y4.cls ≠ "java/lang/invoke/MethodHandle" ∧ hp_y4.cls ≠ "java/lang/invoke/VarHandle" ∧ (parseMethodDescriptor hp_y4.desc).map (fun d => d.parameters.length) = some 4 := by decide +kernel
theorem lw_n5 : hp_y5.cls ≠ "java/lang/invoke/MethodHandle" ∧ hp_y5.cls ≠ "java/lang/invoke/VarHandle" ∧ (parseMethodDescriptor hp_y5.desc).map (fun d => d.parameters.length) = some 4 := by decide +kernel
set_option maxHeartbeats 4000000 in
/-- an op that goes through a helper -/
theorem lw_op4 {t sp ix u : Nat} {yH : MethodName} {bH : ByteArray} (hH : lw_hp t sp ix u yH bH) (hg : GoodIn eg_ws (va_wsS hp_L ix yH (Cond.codeWith yH bH 5 (some .int) hp_hh :: eg_ws))) (hn4 : yH.cls ≠ "java/lang/invoke/MethodHandle" ∧ yH.cls ≠ "java/lang/invoke/VarHandle" ∧ (parseMethodDescriptor yH.desc).map (fun d => d.parameters.length) = some 4) (hd : decode code sp = .ok (.invokestatic ix, 3)) (hq : ∀ en ∈ eg_prod pt_4, xq_run t sp en = true) (he : ∀ en ∈ eg_prod pt_4, xe_case (sp + 3) en = true)
    {l : Launch} (hl : l.stackTraces = false) {p : Program} {e : Env} {s : State} {m : MethodId} {below : List Frame} {meth : Method} {c : Code} {b : Nat} {E : eg_X} {D : va_G} {dT : Nat → ClassId} (hE1 : E.1 = s.heap.size) (hX : ∀ sc : List Value, sc.length = 6 → (∀ k v, eg_nth sc k = some v → eg_v E v (.int (E.2.2.2.2 k))) → eg_ctx E D dT sc p s m #[Value.ref b] meth c 9999 12) (hown : s.vm.findClass hp_L = some m.cls) (hr : meth.sig.returnType = ret) (hlocks : meth.locks = false) (hxc : xc_T E s s.heap) {H : Heap} {locs : List Loc} {cells slots : Nat} {lsA : Array Slot} (hI : eg_I E D dT 9999 { frames := 2048, cells := 600001, slots := 7302226, locals := 84000 } s H locs cells slots lsA [] eg_ls23 [] eg_hn23 eg_h23 0 0) :
    W p l e room_1 s m #[Value.ref b] below meth c H locs cells slots (lw_Z below #[Value.ref b] s) (F0 m t lsA []) := by
  obtain ⟨en, hen, hEn, hlen, hv⟩ := cv_of E cv_4
  have hC := hX (eg_mks 0 en) hlen hv
  obtain ⟨e1, e2⟩ := xe_ra en hen
  have hq9 := hq en hen
  unfold xq_run at hq9
  rw [e1, e2] at hq9
  refine (eg_run_ok eg_pg_ok 200) 9999 12 20 0 0 t _ _ _ _ _ _ _ _ _ _ _ (eg_req_v hq9) (fun q hq => eg_pg_ok 9999 q (eg_seek_mem hq)) E D dT p l e room_1 { frames := 2048, cells := 600001, slots := 7302226, locals := 84000 } ⟨by decide, by decide⟩ s m _ below meth c H locs cells slots _ lsA [] hC hEn hI (by show 20 ≤ 2048; decide) (by show 64 * 20 ≤ 84000; decide) ?_
  intro H' locs' cells' slots' lsA' stc' hI' hend
  obtain ⟨gH, gS, ⟨lvc, gL, gLv⟩, gst, gc1, gc2⟩ := hI'
  obtain ⟨w4, _, rfl, h4, w3, _, rfl, h3, w2, _, rfl, h2, w1, _, rfl, h1, rfl⟩ := gst
  obtain rfl : w4 = .ref (E.1 + 204) := h4
  obtain rfl : w3 = .int (E.2.2.2.2 2) := h3
  obtain rfl : w2 = .int (E.2.2.2.2 1) := h2
  obtain rfl : w1 = .ref E.1 := h1
  have hc1 : cells' ≤ 600001 := gc1
  have hc2 : slots' ≤ 7302226 := gc2
  have hts : ∀ w ∈ eg_ws, w.before #[Value.ref b] s = true := hC.2.2.2.2.1
  have hrn := vx_runSW (p := p) (l := l) (e := e) (R := room_1) (s := s) (m := m) (args := #[Value.ref b]) (below := below) (meth := meth) (c := c) (H := H') (locs := locs') (cells := cells') (slots := slots') (g := F0 m sp lsA' [.ref (E.1 + 204), .int (E.2.2.2.2 2), .int (E.2.2.2.2 1), .ref E.1]) (As := [.ref E.1, .int (E.2.2.2.2 1), .int (E.2.2.2.2 2), .ref (E.1 + 204)]) (rest := []) (cc := code) (nL := 7) (own := hp_L) (Ts := eg_ws) (index := ix) ⟨hC.1, hC.2.1, hC.2.2.1, hown, hts⟩ (hH l hl E D dT en hen hEn H' gH)
    (vx_cwSW 4 hts hg rfl rfl rfl hn4 ⟨by show 13 + 1 ≤ 2048; decide, by show 8 + (5 + 11) + 832 ≤ 84000; decide⟩) ⟨xc_Pc_blind, fun U hU hW => ⟨rfl, hU, by rw [hU]; exact hC.2.2.2.2.2.1.move hW gS.1 gS.2.1, by rw [hU]; exact hxc.move hW gS.2.1⟩⟩ rfl rfl gLv.1 rfl (lv_room (by show 0 ≤ 8; decide)) hd ⟨by show cells' + 1 ≤ 600002; omega, by show slots' + 6 ≤ 7302232; omega⟩
  refine eg_behind hrn gS (fun v H1 locs1 hv1 hH1 hS1 => ?_)
  obtain ⟨w, rfl, hw⟩ := hv1
  obtain rfl : w = .int 1 := hw
  exact lw_go (R2 := room_1) (t := sp + 3) (ls := eg_ls23) (st := [.int 1]) (hn := 999) (h := eg_h23) hE1 hC hr hlocks hEn ⟨Nat.le_refl _, Nat.le_refl _⟩ ⟨hH1, hS1, ⟨lvc, gL, gLv⟩, ⟨_, _, rfl, rfl, rfl⟩, by show cells' + 1 + 0 ≤ 600002; omega, by show slots' + 6 + 0 ≤ 7302232; omega⟩ (xe_v (he en hen))
set_option maxHeartbeats 8000000 in
theorem whole_start {p : Program} {e : Env} {s : State} {m : MethodId} {below : List Frame} {meth : Method} {c : Code} (l : Launch) (hl : l.stackTraces = false) {b L : Nat} {xs : Nat → Int32} (hL : L ≤ 6) (C0 : lw_At p s m meth c b L xs) : W p l e room_1 s m #[Value.ref b] below meth c s.heap [] 0 0 (lw_Z below #[Value.ref b] s) (entryFrame m ([Value.ref b] : List Value).toArray 7) := by
  obtain ⟨hexec, hcode, hret, hml, hown, hts, hXs, hbl, hlocks, hgv, hname⟩ := C0
  obtain ⟨ka, kv, D, dT, hT⟩ := st_T hgv hts hXs hbl
  obtain ⟨E, hE⟩ : ∃ E : eg_X, E = (s.heap.size, b, ka, kv, xs) := ⟨_, rfl⟩
  rw [← hE] at hT
  have hE1 : E.1 = s.heap.size := by rw [hE]
  have hE2 : E.2.1 = b := by rw [hE]
  have hE5 : E.2.2.2.2 = xs := by rw [hE]
  have hctx : ∀ sc : List Value, sc.length = L → (∀ k v, eg_nth sc k = some v → eg_v E v (.int (E.2.2.2.2 k))) → eg_ctx E D dT sc p s m #[Value.ref b] meth c 9999 12 := fun sc h1 h2 => ⟨hexec, hcode, hml, ⟨R_law, rfl, hown⟩, fun w hw => hts w (List.mem_filter.mp hw).1, hT sc h1 (by rw [← hE5]; exact h2), hname⟩
  have hfl : ∀ n k v, eg_nth (eg_rep (.float 0) n) k = some v → eg_v E v (.int (E.2.2.2.2 k)) := fun n k v h => by
    rw [lw_rep n k h]
    simp [eg_v]
  have hl9 := lv_entry [Value.ref b] (n := 7) (Nat.le_of_ble_eq_true rfl)
  have hls : eg_ls E [(0, .float 1)] (lv_args 0 [.ref b]) := by
    refine ⟨.ref b, [], rfl, ?_, rfl⟩
    simp [eg_v, hE2]
  have hh0 : eg_h E D dT 0 eg_h0 s.heap := ⟨Or.inl hE1.symm, fun a c hc => by rw [lw_h0 hc]; exact Or.inl ⟨rfl, rfl⟩⟩
  have first : ∀ bc bs : Nat, bc ≤ 600002 → bs ≤ 7302232 → eg_req (eg_run [] (eg_rep (.float 0) L) 9999 23 20000 9999 12 20 bc bs 0 (eg_pg 9999) [(0, .float 1)] [] 0 eg_h0) 9 23 eg_ls23 [] eg_hn23 eg_h23 = true → (∀ H' locs' cells' slots' lsA', eg_I E D dT 9999 { frames := 2048, cells := bc, slots := bs, locals := 84000 } s H' locs' cells' slots' lsA' [] eg_ls23 [] eg_hn23 eg_h23 0 0 → W p l e room_1 s m #[Value.ref b] below meth c H' locs' cells' slots' (lw_Z below #[Value.ref b] s) (F0 m 23 lsA' [])) → W p l e room_1 s m #[Value.ref b] below meth c s.heap [] 0 0 (lw_Z below #[Value.ref b] s) (entryFrame m ([Value.ref b] : List Value).toArray 7) := by
    intro bc bs hb1 hb2 hreq K
    rw [lg_entry_eq]
    refine (eg_run_ok eg_pg_ok 20000) 9999 12 20 bc bs 0 _ _ _ _ _ _ _ _ _ _ _ (eg_req_v hreq) (eg_pg_ok 9999) E D dT p l e room_1 { frames := 2048, cells := bc, slots := bs, locals := 84000 } ⟨hb1, hb2⟩ s m _ below meth c s.heap [] 0 0 _ _ [] (hctx _ (lw_repl L) (hfl L)) (fun j r hj => by cases hj) ⟨hh0, va_S.rf, ⟨_, hls, hl9⟩, rfl, Nat.le_of_eq (Nat.zero_add bc), Nat.le_of_eq (Nat.zero_add bs)⟩ (by show 20 ≤ 2048; decide) (by show 64 * 20 ≤ 84000; decide) ?_
    intro H' locs' cells' slots' lsA' stc' hI hend
    obtain rfl : stc' = [] := hI.2.2.2.1
    exact K H' locs' cells' slots' lsA' hI
  by_cases h6 : L = 6
  · subst h6
    refine first 600001 7302226 (by decide) (by decide) ph_6x (fun H locs cells slots lsA hI => ?_)
    obtain ⟨en0, hen0, hEn0, hlen0, hv0⟩ := cv_of E cv_0
    rw [lf_in] at hen0
    obtain rfl : en0 = lf_en := by simpa using hen0
    refine (eg_run_ok eg_pg_ok 200) 9999 12 20 0 0 23 _ _ _ _ _ _ _ _ _ _ _ (eg_req_v lf_6) (fun q hq => eg_pg_ok 9999 q (eg_seek_mem hq)) E D dT p l e room_1 { frames := 2048, cells := 600001, slots := 7302226, locals := 84000 } ⟨by decide, by decide⟩ s m _ below meth c H locs cells slots _ lsA [] (hctx _ hlen0 hv0) hEn0 hI (by show 20 ≤ 2048; decide) (by show 64 * 20 ≤ 84000; decide) ?_
    intro H1 locs1 cells1 slots1 lsA1 stc1 hI1 hend
    obtain ⟨gH, gS, gL, gst, gc1, gc2⟩ := hI1
    obtain ⟨w1, _, rfl, g1, w2, _, rfl, g2, rfl⟩ := gst
    obtain rfl : w1 = .int 63 := g1
    obtain rfl : w2 = .int (E.2.2.2.2 0) := g2
    refine lv_iand hexec hcode lw_d39 ?_
    obtain ⟨j, hj, ej⟩ := pk_andE (E.2.2.2.2 0) (m := 63) 6 (by decide)
    rw [ej]
    have hI2 : eg_I E D dT 9999 { frames := 2048, cells := 600001, slots := 7302226, locals := 84000 } s H1 locs1 cells1 slots1 lsA1 [] eg_ls23 [] eg_hn23 eg_h23 0 0 := ⟨gH, gS, gL, rfl, gc1, gc2⟩
    have op : ∀ {t : Nat} {pt : List (List (Int × Int))}, (pt.all eg_cov = true ∧ pt.length = 6) → (∀ en ∈ eg_prod pt, eg_case t en = true) → W p l e room_1 s m #[Value.ref b] below meth c H1 locs1 cells1 slots1 (lw_Z below #[Value.ref b] s) (F0 m t lsA1 []) := fun hpt hcs => by
      obtain ⟨en, hen, hEn, hlen, hv⟩ := cv_of E hpt
      exact lw_go (R2 := { frames := 2048, cells := 600001, slots := 7302226, locals := 84000 }) hE1 (hctx _ hlen hv) hret hlocks hEn ⟨by decide, by decide⟩ hI2 (cv_case (hcs en hen))
    have goal : ∀ j, j < 64 → W p l e room_1 s m #[Value.ref b] below meth c H1 locs1 cells1 slots1 (lw_Z below #[Value.ref b] s) (F0 m (lw_t j) lsA1 []) := fun j hj => by
      match j, hj with
      | 0, _ => exact op cv_0 cs_0
      | 1, _ => exact op cv_1 cs_1
      | 2, _ => exact op cv_2 cs_2
      | 3, _ => exact op cv_3 cs_3
      | 4, _ => exact lw_op4 lw_hp4 lw_g4 lw_n4 lw_d4 xq_4 xe_4 hl hE1 hctx hown hret hlocks (lw_xc hE1 hgv hts) hI2
      | 5, _ => exact lw_op4 lw_hp5 lw_g5 lw_n5 lw_d5 xq_5 xe_5 hl hE1 hctx hown hret hlocks (lw_xc hE1 hgv hts) hI2
      | 6, _ => exact op cv_6 cs_6
      | 7, _ => exact op cv_7 cs_7
      | 8, _ => exact op cv_8 cs_8
      | 9, _ => exact op cv_9 cs_9
      | 10, _ => exact op cv_10 cs_10
      | 11, _ => exact op cv_11 cs_11
      | 12, _ => exact op cv_12 cs_12
      | 13, _ => exact op cv_13 cs_13
      | 14, _ => exact op cv_14 cs_14
      | 15, _ => exact op cv_15 cs_15
      | 16, _ => exact op cv_16 cs_16
      | 17, _ => exact op cv_17 cs_17
      | 18, _ => exact op cv_18 cs_18
      | 19, _ => exact op cv_19 cs_19
      | 20, _ => exact op cv_20 cs_20
      | 21, _ => exact op cv_21 cs_21
      | 22, _ => exact op cv_22 cs_22
      | 23, _ => exact op cv_23 cs_23
      | 24, _ => exact op cv_24 cs_24
      | 25, _ => exact op cv_25 cs_25
      | 26, _ => exact op cv_26 cs_26
      | 27, _ => exact op cv_27 cs_27
      | 28, _ => exact op cv_28 cs_28
      | 29, _ => exact op cv_29 cs_29
      | 30, _ => exact op cv_30 cs_30
      | 31, _ => exact op cv_31 cs_31
      | 32, _ => exact op cv_32 cs_32
      | 33, _ => exact op cv_33 cs_33
      | 34, _ => exact op cv_34 cs_34
      | 35, _ => exact op cv_35 cs_35
      | 36, _ => exact op cv_36 cs_36
      | 37, _ => exact op cv_37 cs_37
      | 38, _ => exact op cv_38 cs_38
      | 39, _ => exact op cv_39 cs_39
      | 40, _ => exact op cv_40 cs_40
      | 41, _ => exact op cv_41 cs_41
      | n + 42, h9 =>
        rw [(lw_so (n + 42) h9 (by omega)).2]
        exact op cv_42 cs_42
    by_cases h42 : j < 42
    · obtain ⟨s1, s2, s3⟩ := lw_sw j h42
      exact lv_tableIn hexec hcode lw_d40 s1 s2 s3 (by show (40 : Int) + ((lw_t j : Int) - 40) = _; omega) (goal j hj)
    · obtain ⟨s1, s2⟩ := lw_so j hj h42
      have h9 := goal j hj
      rw [s2] at h9
      exact lv_tableOut hexec hcode lw_d40 (Or.inr s1) (by decide) h9
  · refine first 600002 7302232 (Nat.le_refl _) (Nat.le_refl _) (lw_ph L (by omega)) (fun H locs cells slots lsA hI => ?_)
    exact lw_go (R2 := { frames := 2048, cells := 600002, slots := 7302232, locals := 84000 }) hE1 (hctx _ (lw_repl L) (hfl L)) hret hlocks (fun j r hj => by cases hj) ⟨by decide, by decide⟩ hI (lf_v (lf_ok L (by omega)))
set_option maxHeartbeats 4000000 in
theorem lw_walk (l : Launch) (hl : l.stackTraces = false) (b : Addr) (xs : List Int32) : MetFree l x (headSpec (Jvm.Cond.code x code maxLocals ret :: tables_1) room_1) (lw_P b xs) (fun _ _ _ _ _ => True) lw_Q := by
  refine MetFree.of_bodyS (code := code) (maxLocals := maxLocals) (ret := ret) (by decide) ?_ ?_
  · intro args s m h hn
    obtain ⟨meth, c, h1, h2, h3, h4, h5, h6, -, -⟩ := Cond.code_spec hn (atoms_spec (ws := Jvm.Cond.code x code maxLocals ret :: tables_1) h _ List.mem_cons_self)
    exact ⟨meth, c, h1, h2, h3, h4, h5, h6⟩
  · intro p e s m args below meth c s₁ B hml0 hP _
    obtain ⟨rfl, hx, hbd, hgv⟩ := hP
    obtain ⟨scr, harrAt, hlist, hof, hsmall⟩ := hx
    obtain ⟨hcb, hkn, -, -⟩ := State.arrayAt?_spec harrAt
    have hown : s.vm.findClass R_law = some m.cls := findClass_of_methodNamed B.named
    have hts0 : ∀ c ∈ (Jvm.Cond.code x code maxLocals ret :: tables_1), c.before #[Value.ref b] s = true := atoms_spec (ws := Jvm.Cond.code x code maxLocals ret :: tables_1) B.pre
    have hts : ∀ w ∈ lw_tbl, w.before #[Value.ref b] s = true := k2_hts_sels lw_privs (fun w hw => hts0 w (List.mem_cons_of_mem _ hw)) lw_privs_ok
    have hml : c.maxLocals = 7 := B.maxLocals_eq (hts0 _ List.mem_cons_self)
    have X₀ : Stand p l e room_1 s m #[Value.ref b] below meth c s₁ [] 0 0 := Stand.of_body B
    have hh0 : s₁.heap = s.heap := by rw [B.state]; rfl
    have hsz : scr.slots.size = xs.length := by rw [← Array.length_toList, hlist, List.length_map]
    have hval : ∀ j : Nat, j < xs.length → scr.slots[j]? = some (.int (xs.getD j 0)) := fun j hj => by
      rw [← Array.getElem?_toList, hlist]
      simp [hj]
    have hbl : b < s.heap.size := (Array.getElem?_eq_some_iff.mp hcb).1
    have hX : va_X b xs.length (fun j => xs.getD j 0) s s.heap := ⟨scr, hcb, hof, hkn, hsz, hval⟩
    have K : W p l e room_1 s m #[Value.ref b] below meth c s₁.heap [] 0 0 (lw_Z below #[Value.ref b] s) (entryFrame m ([Value.ref b] : List Value).toArray 7) := by
      rw [hh0]
      exact whole_start l hl hbd ⟨B.exec, B.bytes, B.returns, hml, hown, hts, hX, hbl, B.notSynchronized, hgv, (name_of_methodNamed B.named B.method).1⟩
    obtain ⟨t, a1, o, b1, b2, b3⟩ := K s₁ rfl X₀
    exact ⟨t, o, a1, b1, b2, b3⟩
theorem lw_pre_spec {args : Array Value} {s : State} (h : (Jvm.Cond.and given_1 narrow_1).before args s = true) (hr : rest_1_c.before args s = true) : ∃ (b : Addr) (xs : List Int32), lw_P b xs args s := by
  have hs := flat_of_before _ h
  have hq := flat_of_before _ hr
  have hc : (Cond.count 1).before args s = true := hs _ (by decide +kernel)
  have harr : (Cond.arrayOf (.arg 0) .int).before args s = true := hs _ (by decide +kernel)
  have hle : (Cond.le (.length (.arg 0)) (.int 6)).before args s = true := hs _ (by decide +kernel)
  have hlen : (Cond.isInt (.length (.arg 0))).before args s = true := hq _ (by decide +kernel)
  have hall : (Cond.all (.arg 0) (.isInt (.elem (.arg 0) (.index 0)))).before args s = true := hq _ (by decide +kernel)
  obtain ⟨b, xs, hb, hx⟩ := State.ints_of_pre rfl harr hlen hall
  have hsm : xs.length < 2 ^ 31 := hx.choose_spec.2.2.2
  have hev : (Term.length (.arg 0)).eval args s none [] s = some (.int xs.length.toInt32) := hx.length_eval hb
  have hv := Cond.le_ints hev (show (Term.int 6).eval args s none [] s = some (.int 6) from rfl)
  have hd : xs.length.toInt32 ≤ 6 := by
    simpa [Cond.before, Cond.holds, hv] using hle
  have hN : xs.length ≤ 6 := (Int32.ofNat_le_ofNat hsm (by decide)).mp (show Int32.ofNat xs.length ≤ Int32.ofNat 6 from hd)
  exact ⟨b, xs, Cond.one_arg hc (show args[0]? = some (.ref b) from hb), hx, hN, h⟩
theorem lw_comes (l : Launch) (hl : l.stackTraces = false) : Comes l x (Jvm.Cond.code x code maxLocals ret :: tables_1) room_1 (fun tb e args s => Calls_1 tb e args s ∧ rest_1 tb e args s ∧ Pre_1 tb e args s)
    (fun _ _ args s o t => lw_Q args s o t) := by
  intro p e ha hc hk s m args below hf hfit hheap happ hpre
  obtain ⟨b, xs, hP⟩ := lw_pre_spec hpre.2.2 hpre.2.1
  obtain ⟨k, o, h1, h2, h3, hQ⟩ := lw_walk l hl b xs p e ha hc hk s m args below hf ((Spec.applies_iff_loose hf).mp happ).1 hP trivial
  exact ⟨k, o, h1, h2, h3, hQ⟩
theorem lw_frame {s t : State} {o : Outcome} {args : Array Value} (h : Framed s o t [] 600002 7302232) :
    Framed s o t (fieldLocs frame_1_writes args s ++ arrayLocs frame_1_arrays args s ++ staticLocs frame_1_statics s) 600002 7302232 := h
theorem lw_limb (L : Cond) (hL : ∀ (args : Array Value) (s t : State), L.after args s (.returned (some (.int 1))) t = true) :
    ArmFor flags0 classFile x code maxLocals ret World_1 tables_1 room_1 Calls_1 rest_1 Pre_1
      (fun tb e a s o t => postC L tb e a s o t ∧ Framed s o t (fieldLocs frame_1_writes a s ++ arrayLocs frame_1_arrays a s ++ staticLocs frame_1_statics s) 600002 7302232) := by
  intro l hfl _ _ p e ha hc hk s m args below hf hfit hheap happ hpre
  obtain ⟨k, o, h1, h2, h3, rfl, hF⟩ := lw_comes l (by unfold Launch.stackTraces; rw [hfl]; decide) p e ha hc hk s m args below hf hfit hheap happ hpre
  exact ⟨k, _, h1, h2, h3, hL args s _, lw_frame hF⟩
theorem i_vc : Claimed_1_1 ∧ Claimed_1_2 := ⟨lw_limb limb_1_1 (fun args s t => by simp [limb_1_1, Cond.after, Cond.holds, Cond.value]), lw_limb limb_1_2 (fun args s t => Cond.after_iff.mpr (by
  first | (rw [show limb_1_2 = Cond.eq .result (.int 1) from rfl, Cond.eq_ints (x := 1) (y := 1) rfl rfl]; simp; done) | (simp [limb_1_2, Cond.value, Term.eval]; done)))⟩
