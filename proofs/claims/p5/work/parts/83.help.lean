/-! the law's two helpers: what is answered is written down, what is thrown is caught -/
def hp_L : String := "PromiseTreesLaw"
def hp_y4 : MethodName := ⟨"PromiseTreesLaw", "promise", "(LPromiseTrees;II[J)I"⟩
def hp_y5 : MethodName := ⟨"PromiseTreesLaw", "man", "(LPromiseTrees;II[J)I"⟩
def hp_c4 : MethodName := ⟨RX10, "promise", "(II)I"⟩
def hp_c5 : MethodName := ⟨RX10, "man", "(II)I"⟩
def hp_hh : List (Nat × Nat × Nat × Nat) := [(0, 10, 13, 13)]
theorem hp_k4 : lw_tbl[1362]? = some (.codeWith hp_y4 method_3_code 5 (some .int) hp_hh) := by decide +kernel
theorem hp_k5 : lw_tbl[1432]? = some (.codeWith hp_y5 method_4_code 5 (some .int) hp_hh) := by decide +kernel
theorem hp_u4 : lw_tbl[1367]? = some (.code hp_c4 (eg_md 1367).2.1 3 (some .int)) := by decide +kernel
theorem hp_u5 : lw_tbl[1436]? = some (.code hp_c5 (eg_md 1436).2.1 3 (some .int)) := by decide +kernel
theorem hp_w4 : Cond.methodLink hp_L 7 hp_c4 ∈ eg_ws ∧ Cond.instanceMethod hp_c4 ∈ eg_ws ∧ Cond.selects RX10 hp_c4 hp_c4 ∈ eg_ws ∧ Cond.initialized RX10 ∈ eg_ws := ⟨eg_tb_in (p := 1364) (by decide +kernel) rfl, eg_tb_in (p := 1365) (by decide +kernel) rfl, eg_tb_in (p := 1366) (by decide +kernel) rfl, eg_tb_in (p := 120) (by decide +kernel) rfl⟩
theorem hp_w5 : Cond.methodLink hp_L 15 hp_c5 ∈ eg_ws ∧ Cond.instanceMethod hp_c5 ∈ eg_ws ∧ Cond.selects RX10 hp_c5 hp_c5 ∈ eg_ws ∧ Cond.initialized RX10 ∈ eg_ws := ⟨eg_tb_in (p := 1433) (by decide +kernel) rfl, eg_tb_in (p := 1434) (by decide +kernel) rfl, eg_tb_in (p := 1435) (by decide +kernel) rfl, eg_tb_in (p := 120) (by decide +kernel) rfl⟩
def hp_rows (ix : Nat) : List (Nat × Instr × Nat) := [(0, .aload_n 3, 1), (1, .iconst 0, 1), (2, .aload_n 0, 1), (3, .iload_n 1, 1), (4, .iload_n 2, 1), (5, .invokevirtual ix, 3), (13, .astore 4, 2), (15, .iconst 1, 1), (16, .ireturn, 1), (8, .i2l, 1), (9, .lastore, 1), (10, .goto 7, 3), (17, .iconst 0, 1), (18, .ireturn, 1)]
theorem hp_d4 : ∀ q ∈ hp_rows 7, decode method_3_code q.1 = .ok q.2 := by decide +kernel
theorem hp_d5 : ∀ q ∈ hp_rows 15, decode method_4_code q.1 = .ok q.2 := by decide +kernel
theorem hp_n : hp_c4.cls ≠ "java/lang/invoke/MethodHandle" ∧ hp_c4.cls ≠ "java/lang/invoke/VarHandle" := by decide +kernel
theorem hp_s4 : (parseMethodDescriptor hp_c4.desc).map (fun d => d.parameters.length) = some 2 := by decide +kernel
theorem hp_s5 : (parseMethodDescriptor hp_c5.desc).map (fun d => d.parameters.length) = some 2 := by decide +kernel
def hp_ck : Bool := match ab_get 204 with
  | some (tag, rg) => Nat.beq tag 1 && decide (ab_sl rg 0 = some (.inr 0)) && Nat.blt 0 (ab_len rg)
  | none => false
theorem hp_ck_ok : hp_ck = true := by decide +kernel
theorem hp_ob : ck_ob 0 10 = true := by decide +kernel
theorem hp_rc {h : eg_H} (hp : ab_hp h) : ∃ fs, eg_get h 0 = some (.inr (10, fs)) := by
  have c := hp_ob
  unfold ck_ob at c
  cases hg : ab_get 0 with
  | none => rw [hg] at c; cases c
  | some cc =>
    obtain ⟨tag, rg⟩ := cc
    rw [hg] at c
    obtain rfl := Nat.eq_of_beq_eq_true (show Nat.beq tag (100 + 10) = true from c)
    obtain ⟨⟨xs, s1, -⟩, -⟩ := hp.1 0 _ hg
    exact ⟨xs, ab_sh_obj s1⟩
/-- one long in the cell of the answers -/
theorem hq_set {h : eg_H} (hp : ab_hp h) (z : Int64) : ∃ xs, eg_get h 204 = some (.inl (1, xs)) ∧ 0 < xs.length ∧ ab_hp (eg_set h 204 (.inl (1, eg_put xs 0 (.long z)))) ∧ ab_fr [(204, 0, 0)] (eg_set h 204 (.inl (1, eg_put xs 0 (.long z)))) h := by
  have c := hp_ck_ok
  unfold hp_ck at c
  cases hg : ab_get 204 with
  | none => rw [hg] at c; cases c
  | some cc =>
    obtain ⟨tag, rg⟩ := cc
    rw [hg] at c
    have c1 := Bool.and_eq_true_iff.mp c
    have c2 := Bool.and_eq_true_iff.mp c1.1
    obtain rfl := Nat.eq_of_beq_eq_true c2.1
    have c3 := of_decide_eq_true c2.2
    obtain ⟨⟨xs, s1, s2⟩, -⟩ := hp.1 204 _ hg
    have e1 := ab_sh_arr (t := 1) (by decide) s1
    have hlen : 0 < xs.length := by rw [s2]; exact Nat.blt_eq.mp c1.2
    have hg2 := fun b => eg_get_set (c := (.inl (1, eg_put xs 0 (.long z)) : eg_C)) e1 b
    have hc : ab_sh (eg_set h 204 (.inl (1, eg_put xs 0 (.long z)))) 204 1 (eg_put xs 0 (.long z)) := Or.inl ⟨by decide, by rw [hg2, if_pos rfl]⟩
    refine ⟨xs, e1, hlen, ⟨ab_hp_set hp.1 hg s1 c3 ⟨z, rfl⟩ hc hg2 hlen, hp.2.set (a := 204) (k := 0) (by decide) (fun b m => ab_slot_set s1 hlen hc hg2 b m)⟩, fun b m hb => ?_⟩
    rw [ab_slot_set s1 hlen hc hg2 b m, if_neg]
    rintro ⟨rfl, rfl⟩
    cases hb
set_option maxHeartbeats 4000000 in
theorem hq_met {u ix : Nat} {yH y : MethodName} {bH : ByteArray} (hk : plainName yH.cls = true ∧ yH.cls = hp_L) (hu : lw_tbl[u]? = some (.code y (eg_md u).2.1 3 (some .int))) (hw : Cond.methodLink hp_L ix y ∈ eg_ws ∧ Cond.instanceMethod y ∈ eg_ws ∧ Cond.selects RX10 y y ∈ eg_ws ∧ Cond.initialized RX10 ∈ eg_ws) (hd : ∀ q ∈ hp_rows ix, decode bH q.1 = .ok q.2) (hyc : y.cls = RX10) (hsg : (parseMethodDescriptor y.desc).map (fun d => d.parameters.length) = some 2)
    {l : Launch} {E : eg_X} {D : va_G} {dT : Nat → ClassId} {sc : List Value} {h : eg_H} (hp : ab_hp h) {H : Heap} (hH : eg_h E D dT 999 h H) {a1 a2 : Int32}
    (hM : vx_Met l y (Cond.code y (eg_md u).2.1 3 (some .int) :: eg_ws) { frames := 12, cells := 1, slots := 6, locals := 768 } (xc_Pc E D dT sc [.ref E.1, .int a1, .int a2] H) (pm_Q E D dT h) (pm_X E D dT h) 1 6 (eg_A E)) :
    Met l yH (Cond.codeWith yH bH 5 (some .int) hp_hh :: eg_ws) { frames := 13, cells := 1, slots := 6, locals := 832 } (xc_Pc E D dT sc [.ref E.1, .int a1, .int a2, .ref (E.1 + 204)] H) (pm_Q E D dT h) 1 6 (eg_A E) := by
  refine va_MetW (cc := bH) (maxL := 5) (ret := some .int) (hh := hp_hh) hk.1 rfl ?_
  intro p e s m args below meth c s₁ B hml hP
  obtain ⟨rfl, hh, hT, hXT⟩ := hP
  have hts0 := atoms_spec (ws := Cond.codeWith yH bH 5 (some .int) hp_hh :: eg_ws) B.pre
  have hts : ∀ w ∈ eg_ws, w.before _ s = true := fun w hw => hts0 w (List.mem_cons_of_mem _ hw)
  have htab := vx_table (x := yH) B (hts0 _ List.mem_cons_self)
  have hret := B.returns
  have hown : s.vm.findClass hp_L = some m.cls := by rw [← hk.2]; exact findClass_of_methodNamed B.named
  have hl9 := lv_entry ([.ref E.1, .int a1, .int a2, .ref (E.1 + 204)]) (n := 5) (Nat.le_of_ble_eq_true rfl)
  rw [lg_entry_eq]
  revert hl9
  generalize (lg_sl [Value.ref E.1, .int a1, .int a2, .ref (E.1 + 204)] ++ List.replicate (5 - (lg_sl [Value.ref E.1, .int a1, .int a2, .ref (E.1 + 204)]).length) Slot.unset).toArray = lsA
  intro hl9
  have hb := B.bytes
  have g : ∀ i v, (i, v) ∈ lv_args 0 [Value.ref E.1, .int a1, .int a2, .ref (E.1 + 204)] → lsA[i]? = some (.val v) := fun i v h => hl9.2.2 (i, v) h
  have dd : ∀ q, q ∈ hp_rows ix → decode bH q.1 = .ok q.2 := hd
  refine lv_aload_n B.exec hb (dd (0, .aload_n 3, 1) (by simp [hp_rows])) rfl (g 3 (.ref (E.1 + 204)) (by simp [lv_args, Value.category])) ?_
  refine lv_iconst B.exec hb (dd (1, .iconst 0, 1) (by simp [hp_rows])) (v := 0) rfl ?_
  refine lv_aload_n B.exec hb (dd (2, .aload_n 0, 1) (by simp [hp_rows])) rfl (g 0 (.ref E.1) (by simp [lv_args, Value.category])) ?_
  refine lv_iload_n B.exec hb (dd (3, .iload_n 1, 1) (by simp [hp_rows])) rfl (g 1 (.int a1) (by simp [lv_args, Value.category])) ?_
  refine lv_iload_n B.exec hb (dd (4, .iload_n 2, 1) (by simp [hp_rows])) rfl (g 2 (.int a2) (by simp [lv_args, Value.category])) ?_
  have hrecv : ∃ cellB : Cell, s.heap[E.1]? = some cellB ∧ cellB.vm.isStatics = false ∧ s.vm.findClass RX10 = some cellB.cls := by
    obtain ⟨fs, hget⟩ := hp_rc hp
    rw [hh]
    obtain ⟨q, V, y1, y2, ⟨cell, z1, z2, z3, -⟩, -⟩ := hH.2 0 _ hget
    obtain ⟨e9, -⟩ := eg_own_cl y1 (show eg_own[10]? = some RX10 from rfl)
    refine ⟨cell, z1, by rw [z3]; rfl, ?_⟩
    rw [e9, z2]
    exact (hT.1.1 10 q y1).2.1
  have hsig2 : ∀ sig, parseMethodDescriptor y.desc = some sig → 2 = sig.parameters.length := fun sig hs => by
    rw [hs] at hsg
    exact (Option.some.inj hsg).symm
  have hn9 : y.cls ≠ "java/lang/invoke/MethodHandle" ∧ y.cls ≠ "java/lang/invoke/VarHandle" := by rw [hyc]; exact hp_n
  have hr := vx_runV (p := p) (e := e) (below := below) (meth := meth) (H := s.heap) (locs := []) (cells := 0) (slots := 0) (R := (headSpec (Cond.codeWith yH bH 5 (some .int) hp_hh :: eg_ws) { frames := 13, cells := 1, slots := 6, locals := 832 }).room) (g := F0 m 5 lsA [.int a2, .int a1, .ref E.1, .int 0, .ref (E.1 + 204)]) (C := RX10) (b := E.1) (As := [.int a1, .int a2]) (rest := [.int 0, .ref (E.1 + 204)]) (n := 2) (index := ix) (cc := bH) (nL := 5) (own := hp_L) (Ts := eg_ws) ⟨B.exec, hb, hml, hown, hts⟩ hM
    ⟨⟨rfl, rfl, Nat.le_refl _, (by show 8 + (3 + 11) + 768 ≤ 832; decide), pay_in hts (eg_good hu), List.mem_cons_self, hts _ (eg_tb_in hu rfl), hts _ (by rw [hyc]; exact hw.2.2.2), hn9, hsig2, hts _ hw.1⟩, hts _ hw.2.1, hts _ hw.2.2.1⟩ ⟨xc_Pc_blind, hrecv, fun U hU hW => ⟨rfl, by rw [hU]; exact hh, by rw [hU]; exact hT.move hW (Nat.le_refl _) (fun _ _ _ => rfl), by rw [hU]; exact hXT.move hW (fun _ _ _ => rfl)⟩⟩ rfl rfl hl9.1 rfl (lv_room (by show 1 + (1 + 0) ≤ 8; decide)) (dd (5, .invokevirtual ix, 3) (by simp [hp_rows])) ⟨Nat.le_refl _, Nat.le_refl _⟩
  intro T hT2 X
  rcases hr T hT2 X with ⟨v, st₀, t, T', L, h0, X', hL, e1, e2, ⟨r, h2, hv2, ⟨hp2, hw2⟩, hh2, hF⟩, st⟩ | ⟨q, st₀, t, T', L, N, ce, h0, X', hL, e1, e2, ⟨rfl, h2, ⟨hp2, hw2⟩, hx1, hx2⟩, hce, hcv, hcl, st⟩
  · cases hv2
    have hS1 : va_S (eg_A E) s.heap T'.heap ([] ++ L) := ⟨by rw [e1, ← h0]; exact hF.1, fun q h1 h2 => by rw [e1, hF.2 q (by rw [h0]; exact h1) h2, h0], fun z hz => hL z hz⟩
    have hh3 : eg_h E D dT 999 h2 T'.heap := by rw [e1]; exact hh2
    obtain ⟨xs, x1, x2, x3, x4⟩ := hq_set hp2 r.toInt64
    have kk : W p l e (headSpec (Cond.codeWith yH bH 5 (some .int) hp_hh :: eg_ws) { frames := 13, cells := 1, slots := 6, locals := 832 }).room s m ([.ref E.1, .int a1, .int a2, .ref (E.1 + 204)] : List Value).toArray below meth c T'.heap ([] ++ L) (0 + 1) (0 + 6) (MQ below (pm_Q E D dT h) ([.ref E.1, .int a1, .int a2, .ref (E.1 + 204)] : List Value).toArray s 1 6 (eg_A E)) (F0 m 8 lsA [.int r, .int 0, .ref (E.1 + 204)]) := by
      refine lv_i2l B.exec hb (dd (8, .i2l, 1) (by simp [hp_rows])) rfl ?_
      rcases hh3.2 204 _ x1 with e9 | ⟨g1, f, g2, g3⟩
      · exact absurd (show (1 : Nat) = 99 from e9.1) (by decide)
      have g2 : T'.heap[E.1 + 204]? = some (arrV (dT 1) xs.length f) := g2
      refine W.last B.exec hb g2 ((hT.1.2 1 _ rfl).1 _ _) (fun q => by cases q) (by
        rw [arrV_size]
        exact fun q => q.elim (by decide) (fun q => absurd q (Nat.not_le.mpr x2))) rfl rfl (dd (9, .lastore, 1) (by simp [hp_rows])) (fun H' f1 f2 f3 => ?_)
      have hh4 : eg_h E D dT 999 (eg_set h2 204 (.inl (1, eg_put xs 0 (.long r.toInt64)))) H' := by
        refine hh3.set x1 f2 f3 (Or.inr ⟨g1, updV f 0 (.long r.toInt64), ?_, eg_put_v g3 rfl⟩)
        show H'[E.1 + 204]? = some (arrV (dT 1) (eg_put xs 0 (.long r.toInt64)).length (updV f 0 (.long r.toInt64)))
        rw [eg_put_len, f1, show (0 : Int32).toNatClampNeg = 0 from rfl, arrV_store]
      have hS2 := hS1.put (k := (0 : Int32).toNatClampNeg) f2 f3 (show eg_A E (E.1 + 204) from Nat.le_add_right _ _)
      refine lv_goto B.exec hb (dd (10, .goto 7, 3) (by simp [hp_rows])) (tgt := 17) rfl ?_
      refine lv_iconst B.exec hb (dd (17, .iconst 0, 1) (by simp [hp_rows])) (v := 0) rfl ?_
      exact W.iret B.exec hb hret (fun t ht _ => (⟨0, _, rfl, ⟨x3, x4.tr hw2⟩, by rw [ht]; exact hh4, hS2.F ht⟩ : pm_Q E D dT h ([.ref E.1, .int a1, .int a2, .ref (E.1 + 204)] : List Value).toArray s (.returned (some (.int 0))) t)) hS2.2.2 (dd (18, .ireturn, 1) (by simp [hp_rows]))
    obtain ⟨t2, b1, b2⟩ := kk T' rfl X'
    exact ⟨t2, st t2 b1, b2⟩
  · have hS1 : va_S (eg_A E) s.heap T'.heap ([] ++ L) := ⟨by rw [e1, ← h0]; exact hx2.1, fun q h1 h2 => by rw [e1, hx2.2 q (by rw [h0]; exact h1) h2, h0], fun z hz => hL z hz⟩
    have kk : vx_W p l e (headSpec (Cond.codeWith yH bH 5 (some .int) hp_hh :: eg_ws) { frames := 13, cells := 1, slots := 6, locals := 832 }).room s m ([.ref E.1, .int a1, .int a2, .ref (E.1 + 204)] : List Value).toArray below meth c T'.heap ([] ++ L) (0 + 1) (0 + 6) (MQ below (pm_Q E D dT h) ([.ref E.1, .int a1, .int a2, .ref (E.1 + 204)] : List Value).toArray s 1 6 (eg_A E)) (F0 m 5 lsA [.int 0, .ref (E.1 + 204)]) q :=
      vx_catch hown ⟨0, 10, 13, 13⟩ (htab.trans rfl) rfl (by decide) (hts _ xc_w3) (va_Nw.use rfl (hXT.1 _ xc_w4 rfl)) (by rw [e1]; exact hce) hcv hcl
        (lv_astore B.exec hb (dd (13, .astore 4, 2) (by simp [hp_rows])) hl9 (by decide) rfl (fun ls' hls' => lv_iconst B.exec hb (dd (15, .iconst 1, 1) (by simp [hp_rows])) (v := 1) rfl
          (W.iret B.exec hb hret (fun t ht _ => (⟨1, h2, rfl, ⟨hp2, hw2⟩, by rw [ht, e1]; exact hx1, hS1.F ht⟩ : pm_Q E D dT h ([.ref E.1, .int a1, .int a2, .ref (E.1 + 204)] : List Value).toArray s (.returned (some (.int 1))) t)) hS1.2.2 (dd (16, .ireturn, 1) (by simp [hp_rows])))))
    obtain ⟨t2, b1, b2⟩ := kk T' rfl X'
    exact ⟨t2, st.trans b1, b2⟩
