/-! the calls that throw: promise and man on a new object -/
def xc_N : String := "java/util/NoSuchElementException"
def xc_at : List Cond := vx_at0 RX10 153 xc_N ["java/lang/RuntimeException", "java/lang/Exception"]
def xc_dc : Cond → Bool
  | .castable _ _ => true
  | .declares _ => true
  | _ => false
/-- beyond eg_T: what a throw asks of the tables and of two statics -/
def xc_T (E : eg_X) (U : State) (H : Heap) : Prop := (∀ w ∈ lw_tbl, xc_dc w = true → va_Nw w U) ∧ vx_Zq Bundle.tN "UNASSIGNED_STACK" Bundle.steD (eg_A E) U H ∧ vx_Zq Bundle.tN "SUPPRESSED_SENTINEL" Bundle.listD (eg_A E) U H
theorem xc_T.move {E : eg_X} {s U : State} {H H1 : Heap} (h : xc_T E s H) (hW : s.WarmedH U.vm) (hq : ∀ a : Nat, a < H.size → ¬ eg_A E a → H1[a]? = H[a]?) : xc_T E U H1 := by
  obtain ⟨h1, h2, h3⟩ := h
  refine ⟨fun w hw hd => ?_, (vx_Zq.moved hW.alike h2).kept hq, (vx_Zq.moved hW.alike h3).kept hq⟩
  have h9 := h1 w hw hd
  cases w with
  | castable C T => exact va_Nw.warmC hW h9
  | declares x => exact va_Nw.warmD hW h9
  | _ => cases hd
theorem xc_in : ∀ w ∈ xc_at, w ∈ lw_tbl ∧ (goodWord w = true ∨ xc_dc w = true) := by decide +kernel
theorem xc_ot : ∀ w ∈ Cond.classLink RX10 151 xc_N :: Cond.initialized xc_N :: xc_at, vx_ot w = true := by decide +kernel
theorem xc_w1 : Cond.classLink RX10 151 xc_N ∈ eg_ws := eg_tb_in (p := 1368) (by decide +kernel) rfl
theorem xc_w2 : Cond.initialized xc_N ∈ eg_ws := eg_tb_in (p := 140) (by decide +kernel) rfl
theorem xc_w3 : Cond.classLink "PromiseTreesLaw" 13 xc_N ∈ eg_ws := eg_tb_in (p := 1363) (by decide +kernel) rfl
theorem xc_w4 : Cond.castable xc_N xc_N ∈ lw_tbl := List.mem_of_getElem? (i := 1370) (by decide +kernel)
theorem xc_f1 : Bundle.fit xc_N = true := by decide +kernel
theorem xc_f2 : ∀ n ∈ ["java/lang/RuntimeException", "java/lang/Exception"], Bundle.fit n = true := by decide +kernel
theorem xc_g9 : eg_get eg_h23 999 = none := by decide +kernel
/-- the heap with something more that isn't known -/
theorem xc_more {E : eg_X} {D : va_G} {dT : Nat → ClassId} {H H1 : Heap} (h : eg_h E D dT eg_hn23 eg_h23 H) (h2 : ∀ q : Nat, q < H.size → H1[q]? = H[q]?) : eg_h E D dT 999 eg_h23 H1 := by
  refine ⟨Or.inr ⟨rfl, xc_g9⟩, fun a c hc => ?_⟩
  have h3 := h.2 a c hc
  cases c with
  | inl q =>
    rcases h3 with h3 | ⟨g1, f, g2, g3⟩
    · exact Or.inl h3
    · exact Or.inr ⟨g1, f, (h2 _ (Array.getElem?_eq_some_iff.mp g2).1).trans g2, g3⟩
  | inr q =>
    obtain ⟨r, V, g1, g2, ⟨cell, k1, k2⟩, g4⟩ := h3
    exact ⟨r, V, g1, g2, ⟨cell, (h2 _ (Array.getElem?_eq_some_iff.mp k1).1).trans k1, k2⟩, g4⟩
def xc_Pc (E : eg_X) (D : va_G) (dT : Nat → ClassId) (sc asC : List Value) (H : Heap) : Array Value → State → Prop := fun v U => v = asC.toArray ∧ U.heap = H ∧ eg_T E D dT sc U U.heap ∧ xc_T E U U.heap
theorem xc_Pc_blind {E : eg_X} {D : va_G} {dT : Nat → ClassId} {sc asC : List Value} {H : Heap} : FrameBlind (xc_Pc E D dT sc asC H) := fun a U g mk h => ⟨h.1, h.2.1, eg_T.same h.2.2.1 rfl, h.2.2.2.move (State.WarmedH.refl U) (fun _ _ _ => rfl)⟩
def xc_X (E : eg_X) (D : va_G) (dT : Nat → ClassId) : String → State → State → Prop := fun N st t => N = xc_N ∧ eg_h E D dT 999 eg_h23 t.heap ∧ va_F (eg_A E) st t
def xc_rows (k : Nat) (off : Int) : eg_W := [(0, .aload_n 0, 1), (1, .getfield 28, 3), (4, .iload_n 1, 1), (5, .invokevirtual k, 3), (8, .ifCond .eq off, 3)]
/-- the run up to the question -/
noncomputable def xc_run (u k : Nat) (off : Int) (en : List (Int × Int)) : Bool := eg_req (eg_run en (eg_mks 0 en) u 8 200 u 10 12 0 0 0 (xc_rows k off) (eg_args 0 [.ref 0, (eg_mks 0 en).getD 1 .null, (eg_mks 0 en).getD 2 .null]) [] eg_hn23 eg_h23) 9 8 (eg_args 0 [.ref 0, (eg_mks 0 en).getD 1 .null, (eg_mks 0 en).getD 2 .null]) [.int 0] eg_hn23 eg_h23
def pt_4 : List (List (Int × Int)) := [[(-2147483648, 2147483647)], [(-2147483648, -1), (0, 2147483647)], [(-2147483648, 2147483647)], [(-2147483648, 2147483647)], [(-2147483648, 2147483647)], [(-2147483648, 2147483647)]]
theorem cv_4 : pt_4.all eg_cov = true ∧ pt_4.length = 6 := by decide +kernel
theorem xr_4 : ∀ en ∈ eg_prod pt_4, xc_run 1367 147 13 en = true := List.all_eq_true.mp (by decide +kernel)
theorem xr_5 : ∀ en ∈ eg_prod pt_4, xc_run 1436 182 12 en = true := List.all_eq_true.mp (by decide +kernel)
theorem xd_4 : ∀ q ∈ xc_rows 147 13, decode (eg_md 1367).2.1 q.1 = .ok q.2 := by decide +kernel
theorem xd_5 : ∀ q ∈ xc_rows 182 12, decode (eg_md 1436).2.1 q.1 = .ok q.2 := by decide +kernel
theorem xt_4 : decode (eg_md 1367).2.1 21 = .ok (.new 151, 3) ∧ decode (eg_md 1367).2.1 24 = .ok (.dup, 1) ∧ decode (eg_md 1367).2.1 25 = .ok (.invokespecial 153, 3) ∧ decode (eg_md 1367).2.1 28 = .ok (.athrow, 1) := by decide +kernel
theorem xt_5 : decode (eg_md 1436).2.1 20 = .ok (.new 151, 3) ∧ decode (eg_md 1436).2.1 23 = .ok (.dup, 1) ∧ decode (eg_md 1436).2.1 24 = .ok (.invokespecial 153, 3) ∧ decode (eg_md 1436).2.1 27 = .ok (.athrow, 1) := by decide +kernel
set_option maxHeartbeats 4000000 in
/-- promise() and man() throw -/
theorem xc_met {u k tg : Nat} {off : Int} {y : MethodName} {b : ByteArray} (hcode : lw_tbl[u]? = some (.code y b 3 (some .int))) (hpl : plainName y.cls = true) (hcl : y.cls = RX10) (hrows : ∀ q ∈ xc_rows k off, decode (eg_md u).2.1 q.1 = .ok q.2) (htg : (8 : Int) + off = (tg : Int))
    (hthr : decode (eg_md u).2.1 tg = .ok (.new 151, 3) ∧ decode (eg_md u).2.1 (tg + 3) = .ok (.dup, 1) ∧ decode (eg_md u).2.1 (tg + 4) = .ok (.invokespecial 153, 3) ∧ decode (eg_md u).2.1 (tg + 7) = .ok (.athrow, 1)) {en : List (Int × Int)} (hrun : xc_run u k off en = true)
    {l : Launch} (hl : l.stackTraces = false) {E : eg_X} {D : va_G} {dT : Nat → ClassId} (hE : eg_en E en) {H : Heap} (hH : eg_h E D dT eg_hn23 eg_h23 H) {a1 a2 : Int32} (h1 : eg_v E ((eg_mks 0 en).getD 1 .null) (.int a1)) (h2 : eg_v E ((eg_mks 0 en).getD 2 .null) (.int a2)) :
    vx_Met l y (Cond.code y b 3 (some .int) :: eg_ws) { frames := 12, cells := 1, slots := 6, locals := 768 } (xc_Pc E D dT (eg_mks 0 en) [.ref E.1, .int a1, .int a2] H) (fun _ _ _ _ => False) (xc_X E D dT) 1 6 (eg_A E) := by
  have hmd := eg_md_v hcode
  refine vx_ofW (cc := b) (maxL := 3) (ret := some .int) hpl rfl ?_
  intro p e s m args below meth c s₁ B hml hex hP
  obtain ⟨rfl, hh, hT, hXT⟩ := hP
  have hts := atoms_spec (ws := Cond.code y b 3 (some .int) :: eg_ws) B.pre
  have hlocks := B.notSynchronized
  have hname : meth.name = y.name := (name_of_methodNamed B.named B.method).1
  have hown' : s.vm.findClass y.cls = some m.cls := findClass_of_methodNamed B.named
  have hown2 : s.vm.findClass RX10 = some m.cls := by rw [← hcl]; exact hown'
  have hX : eg_ctx E D dT (eg_mks 0 en) p s m ([.ref E.1, .int a1, .int a2] : List Value).toArray meth c u 10 := ⟨B.exec, by rw [hmd]; exact B.bytes, by rw [hmd]; exact hml, ⟨RX10, rfl, hown2⟩, fun w hw => hts w (List.mem_cons_of_mem _ hw), hT, by rw [hmd]; exact hname⟩
  have has : eg_vs E [.ref 0, (eg_mks 0 en).getD 1 .null, (eg_mks 0 en).getD 2 .null] [.ref E.1, .int a1, .int a2] := ⟨_, _, rfl, rfl, _, _, rfl, h1, _, _, rfl, h2, rfl⟩
  have hl9 := lv_entry ([.ref E.1, .int a1, .int a2]) (n := 3) (Nat.le_of_ble_eq_true rfl)
  rw [lg_entry_eq]
  refine (eg_run_ok eg_pg_ok 200) u 10 12 0 0 0 _ _ _ _ _ _ _ _ _ _ _ (eg_req_v hrun) hrows E D dT p l e _ { frames := 12, cells := 0, slots := 0, locals := 768 } ⟨Nat.zero_le _, Nat.zero_le _⟩ s m _ below meth c s.heap [] 0 0 _ _ [] hX hE ⟨by rw [hh]; exact hH, va_S.rf, ⟨_, eg_ls_args _ _ has 0, by rw [hmd]; exact hl9⟩, rfl, Nat.zero_le _, Nat.zero_le _⟩ (Nat.le_refl _) (Nat.le_refl _) ?_
  intro H' locs' cells' slots' lsA' stc' hI hend
  obtain ⟨gH, gS, ⟨lvc, gL, gLv⟩, gst, gc1, gc2⟩ := hI
  obtain ⟨w, _, rfl, hw, rfl⟩ := gst
  obtain rfl : w = .int 0 := hw
  have hd8 : decode (eg_md u).2.1 8 = .ok (.ifCond .eq off, 3) := hrows (8, .ifCond .eq off, 3) (by simp [xc_rows])
  have hmd2 : (eg_md u).2.1 = b := by rw [hmd]
  have hsz : lsA'.size = c.maxLocals := by rw [hml]; rw [hmd] at gLv; exact gLv.1
  refine rw_if B.exec hX.2.1 hd8 htg (fun _ => ?_) (fun hn => (hn rfl).elim)
  have hg0 : cells' = 0 := by simpa using gc1
  have hg1 : slots' = 0 := by simpa using gc2
  refine vx_throw0 B.exec hX.2.1 hl (own := RX10) (cls := xc_N) (names := ["java/lang/RuntimeException", "java/lang/Exception"]) (ik := 151) (ic := 153) (A := eg_A E) hown2 xc_f1 xc_f2 (hX.2.2.2.2.1 _ xc_w1) (hX.2.2.2.2.1 _ xc_w2) ?_ xc_ot hXT.2.1 hXT.2.2 gS hsz hthr.1 hthr.2.1 hthr.2.2.1 hthr.2.2.2 (fun x hx => (hex x hx).elim) (by show 2 + 3 < 12; decide) (by show 0 + (13 * 3 + 42) ≤ 768; decide) (by rw [hg0]; show 0 + 1 ≤ 1; decide) (by rw [hg1]; show 0 + 6 ≤ 6; decide) hlocks ?_ gS.2.2 (by rw [hg0]; decide) (by rw [hg1]; decide)
  · intro w hw
    obtain ⟨h3, h4⟩ := xc_in w hw
    rcases h4 with h4 | h4
    · exact hX.2.2.2.2.1 w (eg_ws_in h3 h4)
    · refine va_Nw.use ?_ (hXT.1 w h3 h4)
      cases w with
      | castable C T => rfl
      | declares x => rfl
      | _ => cases h4
  · intro t ha hz hq
    refine ⟨rfl, xc_more gH hq, Nat.le_trans gS.1 hz, fun q h5 h6 => ?_⟩
    rw [hq q (Nat.lt_of_lt_of_le h5 gS.1)]
    exact gS.2.1 q h5 h6
