/-! the calls that may throw: promise and man of the class, from any heap -/
def xc_N : String := "java/util/NoSuchElementException"
def xc_at : List Cond := vx_at0 RX10 153 xc_N ["java/lang/RuntimeException", "java/lang/Exception"]
def xc_dc : Cond → Bool
  | .castable _ _ => true
  | .declares _ => true
  | _ => false
/-- beyond eg_T: what a throw asks of the tables and of two statics -/
def xc_T (E : eg_X) (U : State) (H : Heap) : Prop := (∀ w ∈ lw_tbl, xc_dc w = true → va_Nw w U) ∧ vx_Zq Bundle.tN "UNASSIGNED_STACK" Bundle.steD (eg_A E) U H ∧ vx_Zq Bundle.tN "SUPPRESSED_SENTINEL" Bundle.listD (eg_A E) U H
theorem xc_T.move {E : eg_X} {s U : State} {H H1 : Heap} (h : xc_T E s H) (hW : s.WarmedH U.vm) (hq : ∀ a : Nat, a < H.size → ¬ eg_A E a → H1[a]? = H[a]?) : xc_T E U H1 := by
  obtain ⟨h1, h2, h3⟩ := h
  refine ⟨fun w hw hd => ?_, (vx_Zq.moved hW.alike h2).kept hq, (vx_Zq.moved hW.alike h3).kept hq⟩
  have h9 := h1 w hw hd
  cases w with
  | castable C T => exact va_Nw.warmC hW h9
  | declares x => exact va_Nw.warmD hW h9
  | _ => cases hd
theorem xc_in : ∀ w ∈ xc_at, w ∈ lw_tbl ∧ (goodWord w = true ∨ xc_dc w = true) := by decide +kernel
theorem xc_ot : ∀ w ∈ Cond.classLink RX10 151 xc_N :: Cond.initialized xc_N :: xc_at, vx_ot w = true := by decide +kernel
theorem xc_w1 : Cond.classLink RX10 151 xc_N ∈ eg_ws := eg_tb_in (p := 1368) (by decide +kernel) rfl
theorem xc_w2 : Cond.initialized xc_N ∈ eg_ws := eg_tb_in (p := 140) (by decide +kernel) rfl
theorem xc_w3 : Cond.classLink "PromiseTreesLaw" 13 xc_N ∈ eg_ws := eg_tb_in (p := 1363) (by decide +kernel) rfl
theorem xc_w4 : Cond.castable xc_N xc_N ∈ lw_tbl := List.mem_of_getElem? (i := 1370) (by decide +kernel)
theorem xc_f1 : Bundle.fit xc_N = true := by decide +kernel
theorem xc_f2 : ∀ n ∈ ["java/lang/RuntimeException", "java/lang/Exception"], Bundle.fit n = true := by decide +kernel
/-- the heap with something more that isn't known -/
theorem xc_more {E : eg_X} {D : va_G} {dT : Nat → ClassId} {h : eg_H} {H H1 : Heap} (hh : eg_h E D dT 999 h H) (h2 : ∀ q : Nat, q < H.size → H1[q]? = H[q]?) : eg_h E D dT 999 h H1 := by
  refine ⟨⟨Or.inr rfl, hh.1.2⟩, fun a c hc => ?_⟩
  have h3 := hh.2 a c hc
  cases c with
  | inl q =>
    rcases h3 with h3 | ⟨g1, f, g2, g3⟩
    · exact Or.inl h3
    · exact Or.inr ⟨g1, f, (h2 _ (Array.getElem?_eq_some_iff.mp g2).1).trans g2, g3⟩
  | inr q =>
    obtain ⟨r, V, g1, g2, ⟨cell, k1, k2⟩, g4⟩ := h3
    exact ⟨r, V, g1, g2, ⟨cell, (h2 _ (Array.getElem?_eq_some_iff.mp k1).1).trans k1, k2⟩, g4⟩
def xc_Pc (E : eg_X) (D : va_G) (dT : Nat → ClassId) (sc asC : List Value) (H : Heap) : Array Value → State → Prop := fun v U => v = asC.toArray ∧ U.heap = H ∧ eg_T E D dT sc U U.heap ∧ xc_T E U U.heap
theorem xc_Pc_blind {E : eg_X} {D : va_G} {dT : Nat → ClassId} {sc asC : List Value} {H : Heap} : FrameBlind (xc_Pc E D dT sc asC H) := fun a U g mk h => ⟨h.1, h.2.1, eg_T.same h.2.2.1 rfl, h.2.2.2.move (State.WarmedH.refl U) (fun _ _ _ => rfl)⟩
/-- what is thrown; what is answered -/
def pm_X (E : eg_X) (D : va_G) (dT : Nat → ClassId) (h : eg_H) : String → State → State → Prop := fun N st t => N = xc_N ∧ ∃ h2 : eg_H, (ab_hp h2 ∧ ab_fr [(204, 0, 0)] h2 h) ∧ eg_h E D dT 999 h2 t.heap ∧ va_F (eg_A E) st t
def pm_Q (E : eg_X) (D : va_G) (dT : Nat → ClassId) (h : eg_H) : Array Value → State → Outcome → State → Prop := fun _ st ou t => ∃ (r : Int32) (h2 : eg_H), ou = .returned (some (.int r)) ∧ (ab_hp h2 ∧ ab_fr [(204, 0, 0)] h2 h) ∧ eg_h E D dT 999 h2 t.heap ∧ va_F (eg_A E) st t
/-! the engine that stops in a method, behind a call -/
noncomputable def xf (sc : List Value) (n u0 p0 : Nat) : eg_F := fun u o dp bc bs pc cs ls st hn h => match Nat.beq pc p0 && Nat.beq u u0 with
  | true => some (9, pc, ls, st, hn, h)
  | false => match eg_run [] sc 9999 0 n u o dp bc bs pc cs ls st hn h with
    | some (ik, r) => (match Nat.beq ik 9 with
      | true => none
      | false => some (ik, r))
    | none => none
theorem xf_ok {sc : List Value} {n u0 p0 : Nat} : eg_S [] sc u0 p0 (xf sc n u0 p0) := by
  intro u o dp bc bs pc cs ls st hn h ik' pc' ls' st' hn' h' hr hcs E D dT p l e R R2 hRR s m args below meth c H locs cells slots Q lsA stc hX hE hI hR1 hR2 K
  unfold xf at hr
  cases hb : (Nat.beq pc p0 && Nat.beq u u0) with
  | true =>
    rw [hb] at hr
    cases hr
    have c1 := Bool.and_eq_true_iff.mp hb
    obtain ⟨i1, i2, i3, i4, i5, i6⟩ := hI
    exact K H locs cells slots lsA stc ⟨i1, i2, i3, i4, by omega, by omega⟩ (Or.inl ⟨rfl, Nat.eq_of_beq_eq_true c1.2, Nat.eq_of_beq_eq_true c1.1⟩)
  | false =>
    rw [hb] at hr
    simp only at hr
    split at hr
    next ik r hrun =>
      obtain ⟨pc1, ls1, st1, hn1, h1⟩ := r
      cases hb9 : Nat.beq ik 9 with
      | true => rw [hb9] at hr; cases hr
      | false =>
        rw [hb9] at hr
        cases hr
        exact (eg_run_ok eg_pg_ok n) u o dp bc bs pc cs ls st hn h _ _ _ _ _ _ hrun hcs E D dT p l e R R2 hRR s m args below meth c H locs cells slots Q lsA stc hX hE hI hR1 hR2 (fun H' l' c' s' a' t' hI' hend => K H' l' c' s' a' t' hI' (by
          rcases hend with ⟨e9, -⟩ | hend
          · exact absurd hb9 (by rw [e9]; decide)
          · exact Or.inr hend))
    next => cases hr
theorem xs_s {sc : List Value} {f : eg_F} {u0 p0 u o dp pc : Nat} {i : Instr} {len : Nat} {G : eg_O} {ls ls' : eg_L} {st st' : List Value} {h h' : eg_H} {r : eg_R} (c : ab_at u pc i len = true) (hst : (Nat.beq pc p0 && Nat.beq u u0) = false) (hG : eg_hd [] sc u o pc i len = some G) (hg : G ls st 999 h 0 0 = some (0, ls', st', 999, h', 0, 0)) (n : f u o dp 0 0 (pc + len) (eg_seek (pc + len) (eg_pg u)) ls' st' 999 h' = some r) : eg_step [] sc u0 p0 f u o dp 0 0 pc (eg_seek pc (eg_pg u)) ls st 999 h = some r := by
  rw [(ab_at_v c).2]
  simp only [eg_step, Nat.beq_refl, hst, hG, hg]
  exact n
set_option maxHeartbeats 1000000 in
theorem xs_c {sc : List Value} {u o d pc : Nat} {ls : eg_L} {st0 as st1 as2 st2 : List Value} {h : eg_H} {i : Instr} {ik k mu o' np : Nat} {Post : Option Value → eg_H → Prop} (c : ab_at u pc i 3 = true) (hks : eg_ks i 3 = some (ik, k)) (hG : eg_hd [] sc u o pc i 3 = none) (hcx : ck_cl o k ik mu o' np = true) (hpop : eg_pop np st0 [] = some (as, st1)) (hrcv : eg_rcv ik o' h as st1 = some (as2, st2)) (hcat : (Nat.ble (eg_cat st2) 8 && Nat.ble (eg_cat as2) (eg_md mu).2.2.1) = true) (hmu0 : Nat.beq mu u = false) (m : mc sc 0 mu o' d as2 h Post) : ∃ n vo h', Post vo h' ∧ eg_step [] sc u (pc + 3) (xf sc n u (pc + 3)) u o (d + 1) 0 0 pc (eg_seek pc (eg_pg u)) ls st0 999 h = some (9, pc + 3, ls, vo.toList ++ st2, 999, h') := by
  obtain ⟨hu, hs0⟩ := ab_at_v c
  obtain ⟨pc1, ls1, st3, h1, g1, ir, vo, hir, hrv, hpost⟩ := m
  unfold ck_cl at hcx
  have c1 := Bool.and_eq_true_iff.mp hcx
  have c2 := Bool.and_eq_true_iff.mp c1.1
  have c3 := Bool.and_eq_true_iff.mp c2.1
  have c4 := Bool.and_eq_true_iff.mp c3.1
  have c5 := Bool.and_eq_true_iff.mp c4.1
  have hb1 := Nat.eq_of_beq_eq_true c3.2
  have hb2 := Nat.eq_of_beq_eq_true c2.2
  have hmu : Nat.beq mu 9999 = false := by
    have := c4.2
    cases hb : Nat.beq mu 9999 with
    | false => rfl
    | true => rw [hb] at this; cases this
  cases ha : eg_at o eg_cx k with
  | none => have := c5.1; rw [ha] at this; cases this
  | some e =>
    obtain ⟨kd, pl, m', oo, n', pa, pb, pi⟩ := e
    have c6 := c5.1
    rw [ha] at c6
    simp only at c6
    have d1 := Bool.and_eq_true_iff.mp c6
    have d2 := Bool.and_eq_true_iff.mp d1.1
    have d3 := Bool.and_eq_true_iff.mp d2.1
    obtain rfl := Nat.eq_of_beq_eq_true d3.1
    obtain rfl := Nat.eq_of_beq_eq_true d3.2
    obtain rfl := Nat.eq_of_beq_eq_true d2.2
    obtain rfl := Nat.eq_of_beq_eq_true d1.2
    have hk02 : kd = 0 ∨ kd = 2 := by
      rcases Bool.or_eq_true_iff.mp c5.2 with e | e
      · exact Or.inl (Nat.eq_of_beq_eq_true e)
      · exact Or.inr (Nat.eq_of_beq_eq_true e)
    have hik : Nat.ble 3 kd = false := by rcases hk02 with rfl | rfl <;> rfl
    have hk4 : Nat.ble 4 kd = false := by rcases hk02 with rfl | rfl <;> rfl
    have hkb : (bif Nat.beq kd 3 then Nat.beq kd 1 else Nat.beq kd kd) = true := by rcases hk02 with rfl | rfl <;> rfl
    have hk13 : (Nat.beq kd 1 || Nat.beq kd 3) = false := by rcases hk02 with rfl | rfl <;> rfl
    obtain ⟨m1, hm1⟩ := g1 _ (ab_ret_v hmu hir)
    have hpg : eg_seek 0 (eg_pg m') = eg_pg m' := by
      have := c1.2
      split at this
      next p i0 l0 cs0 hpg =>
        rw [hpg]
        unfold eg_seek
        rw [this]
      next => cases this
    rw [hpg] at hm1
    have hcat2 := Bool.and_eq_true_iff.mp hcat
    have hcc : (!(Nat.beq m' u) && Nat.ble (eg_cat st2) 8 && Nat.ble (eg_cat as2) (eg_md m').2.2.1 && Nat.ble 0 0 && Nat.ble 0 0) = true := by rw [hmu0, hcat2.1, hcat2.2]; rfl
    have h9 : Nat.beq ir 9 = false := by
      rcases eg_rv_v hrv with ⟨rfl, -⟩ | ⟨rfl, -⟩ | ⟨rfl, -⟩ <;> rfl
    have w1 : xf sc m1 u (pc + 3) m' oo d 0 0 0 (eg_pg m') (eg_args 0 as2) [] 999 h = some (ir, pc1, ls1, st3, 999, h1) := by
      unfold xf
      rw [hmu0, Bool.and_false]
      simp only [hm1, h9]
    have hst : Nat.beq pc (pc + 3) = false := by
      cases hb : Nat.beq pc (pc + 3) with
      | false => rfl
      | true => have := Nat.eq_of_beq_eq_true hb; omega
    have w2 : ∀ st, xf sc m1 u (pc + 3) u o (d + 1) 0 0 (pc + 3) (eg_seek (pc + 3) (eg_pg u)) ls st 999 h1 = some (9, pc + 3, ls, st, 999, h1) := fun st => by
      unfold xf
      rw [Nat.beq_refl, Nat.beq_refl]
      rfl
    refine ⟨m1, vo, h1, hpost, ?_⟩
    rw [hs0]
    simp only [eg_step, Nat.beq_refl, hst, Bool.false_and, hG, hks, hik]
    simp only [eg_call, ha, hk4, hkb, cond_true, hpop, hrcv, hb1, hb2, hcc, w1, hrv]
    cases vo with
    | none => exact w2 st2
    | some z =>
      simp only [hk13, cond_false]
      exact w2 (z :: st2)
theorem xg_r {k a b fk : Nat} {o : Nat} {sc : List Value} {u pc : Nat} {ls : eg_L} {st : List Value} {h : eg_H} (ck : ck_gr o k a fk b = true) (hp : ab_hp0 h) : ∃ G, eg_hd [] sc u o pc (.getfield k) 3 = some G ∧ G ls (.ref a :: st) 999 h 0 0 = some (0, ls, .ref b :: st, 999, h, 0, 0) := by
  unfold ck_gr at ck
  cases hx : eg_at o eg_fx k with
  | none => rw [hx] at ck; cases ck
  | some e =>
    obtain ⟨ci, f, p⟩ := e
    rw [hx] at ck
    simp only at ck
    have c1 := Bool.and_eq_true_iff.mp ck
    obtain rfl := Nat.eq_of_beq_eq_true c1.1
    have c2 := c1.2
    cases hg : ab_get a with
    | none => rw [hg] at c2; cases c2
    | some cc =>
      obtain ⟨tag, rg⟩ := cc
      rw [hg] at c2
      simp only at c2
      have c3 := Bool.and_eq_true_iff.mp c2
      obtain rfl := Nat.eq_of_beq_eq_true c3.1
      have c4 := c3.2
      split at c4
      next b' hq =>
        obtain rfl := Nat.eq_of_beq_eq_true c4
        obtain ⟨⟨xs, s1, -⟩, s3⟩ := hp a _ hg
        obtain ⟨v, e1, e3⟩ := s3 _ _ hq
        obtain rfl : v = .ref b' := e3
        rw [ab_sh_slot s1] at e1
        have e2 := ab_sh_obj s1
        refine ⟨eg_gf ci f, by simp only [eg_hd, eg_lok, Nat.beq_refl, eg_hd0, hx], ?_⟩
        simp only [eg_gf, eg_obj, e2, Nat.beq_refl, e1]
      next => cases c4
/-- up to the question's answer -/
def pm_a (a1 a2 : Int32) : eg_L := eg_args 0 [.ref 0, .int a1, .int a2]
def pm_W (sc : List Value) (u : Nat) (hi : Int) (h : eg_H) (a1 a2 : Int32) : Prop := ∃ (F : eg_F) (r : Int32) (h1 : eg_H), eg_S [] sc u 8 F ∧ (ab_hp h1 ∧ ab_fr [] h1 h) ∧ ((r.toInt = 1 ∧ 0 ≤ a1.toInt ∧ a1.toInt ≤ hi) ∨ r.toInt = 0) ∧ F u 10 2 0 0 0 (eg_seek 0 (eg_pg u)) (pm_a a1 a2) [] 999 h = some (9, 8, pm_a a1 a2, [.int r], 999, h1)
theorem pm_w {q : ab_Q} {k u : Nat} {hi : Int} (hq : ab_Tr q) (ck : (Nat.beq q.2.2.1 0 && Nat.blt 2 q.2.2.2.2.1.1 && ck_ei q.1 0 hi q.2.2.2.2.2.2.1) = true) (hn : q.2.2.2.1 = 1) (ho : q.2.1 = 1) (hM : q.2.2.2.2.2.1 = []) (hP : q.2.2.2.2.1 = (3, [(2, .negSucc 2147483647, .ofNat 2147483647, false, none)], [(0, .inr 10), (1, .inl (2, .ofNat 0))], [], []))
    (c0 : ab_at u 0 (.aload_n 0) 1 = true) (c1 : ab_at u 1 (.getfield 28) 3 = true) (c4 : ab_at u 4 (.iload_n 1) 1 = true) (c5 : ab_at u 5 (.invokevirtual k) 3 = true) (cg : ck_gr 10 28 0 2 8 = true) (cx : ck_cl 10 k 0 q.1 1 1 = true) (cob : ck_ob 8 1 = true) (cm : (Nat.ble 0 8 && Nat.ble 2 (eg_md q.1).2.2.1) = true) (hmu : Nat.beq q.1 u = false)
    {sc : List Value} (hs : ab_osc sc) {h : eg_H} (hp : ab_hp h) (a1 a2 : Int32) : pm_W sc u hi h a1 a2 := by
  have hr : ab_r sc.length (ar_n sc.length [a1]) q.2.2.2.2.1 (eg_args 0 [.ref 8, .int a1]) [] h := by
    rw [hP]
    exact ar_1 (a := 8) hp (Int32.le_toInt a1) (Int32.toInt_le a1)
  have hm := mc_qi hq (lo := 0) (hi := hi) ck (sp := 0) hs (d := 1) (by rw [hn]; exact Nat.le_refl 1) hr
  rw [ho] at hm
  obtain ⟨n, vo, h1, ⟨p1, f1, r, rfl, p3⟩, hrun⟩ := xs_c (ls := pm_a a1 a2) (st0 := [.int a1, .ref 8]) (as := [.int a1]) (st1 := [.ref 8]) (as2 := [.ref 8, .int a1]) (st2 := []) c5 rfl rfl cx rfl (ck_ob_v hp.1 cob _ _) cm hmu hm
  obtain ⟨G, hG, hg⟩ := xg_r (sc := sc) (u := u) (pc := 1) (ls := pm_a a1 a2) (st := []) cg hp.1
  refine ⟨eg_step [] sc u 8 (eg_step [] sc u 8 (eg_step [] sc u 8 (eg_step [] sc u 8 (xf sc n u 8)))), r, h1, eg_step_ok (eg_step_ok (eg_step_ok (eg_step_ok xf_ok eg_pg_ok) eg_pg_ok) eg_pg_ok) eg_pg_ok, ⟨p1, by rw [hM] at f1; exact f1⟩, p3, ?_⟩
  refine xs_s c0 rfl (G := eg_ld eg_isA 0) rfl (ls' := pm_a a1 a2) (st' := [.ref 0]) (h' := h) rfl ?_
  refine xs_s c1 rfl hG hg ?_
  refine xs_s c4 rfl (G := eg_ld eg_isI 1) rfl (ls' := pm_a a1 a2) (st' := [.int a1, .ref 8]) (h' := h) rfl ?_
  exact hrun
/-- what it answers -/
def ck_ri (u : Nat) (ends : List (Nat × ab_S)) : Bool := ends.all (fun e => match ab_ret u e.1 with
  | some ik => Nat.beq ik 3 && (match e.2.2.2.2.1 with
    | [.inl _] => true
    | _ => false)
  | none => false)
def pm_R (sc : List Value) (u p29 : Nat) (hi hi2 : Int) (a1 a2 : Int32) : Prop := ∀ h1, ab_hp h1 → 0 ≤ a1.toInt → a1.toInt ≤ hi → 0 ≤ a2.toInt → a2.toInt ≤ hi2 → ∃ (n pc' : Nat) (ls' : eg_L) (r : Int32) (h2 : eg_H), (ab_hp h2 ∧ ab_fr [] h2 h1) ∧ eg_run [] sc 9999 0 n u 10 12 0 0 p29 (eg_seek p29 (eg_pg u)) (pm_a a1 a2) [] 999 h1 = some (3, pc', ls', [.int r], 999, h2)
theorem pm_r {q : ab_Q} {u p29 : Nat} {hi hi2 : Int} (hq : ab_Tr q) (e1 : q.1 = u) (e2 : q.2.1 = 10) (e3 : q.2.2.1 = p29) (hn : q.2.2.2.1 ≤ 12) (hM : q.2.2.2.2.2.1 = []) (hP : q.2.2.2.2.1 = (4, [(2, 0, hi, false, none), (3, 0, hi2, false, none)], [(0, .inr 2), (1, .inl (2, .ofNat 0)), (2, .inl (3, .ofNat 0))], [], [])) (ck : ck_ri u q.2.2.2.2.2.2.1 = true) (hu : Nat.beq u 9999 = false)
    {sc : List Value} (hs : ab_osc sc) (a1 a2 : Int32) : pm_R sc u p29 hi hi2 a1 a2 := by
  intro h1 hp h3 h4 h5 h6
  obtain ⟨-, -, ht⟩ := hq sc 0 hs
  obtain ⟨e, he, ν', ls', st', h2, g1, g2, g3, g4, g5⟩ := ht 12 hn (ar_n sc.length [a1, a2]) (eg_args 0 [.ref 0, .int a1, .int a2]) [] h1 (by
    rw [hP]
    exact ar_2 (a := 0) hp h3 h4 h5 h6)
  rw [e1, e2, e3] at g5
  have c2 := List.all_eq_true.mp ck e he
  split at c2
  next ik hik =>
    have c3 := Bool.and_eq_true_iff.mp c2
    obtain rfl := Nat.eq_of_beq_eq_true c3.1
    have c4 := c3.2
    obtain ⟨n, hrun⟩ := g5 _ (ab_ret_v hu hik)
    split at c4
    next x hx =>
      have g7 := g1.2.2.2.1
      rw [hx] at g7
      obtain ⟨v, t, e4, ⟨y, rfl, -, -⟩, e5⟩ := g7
      obtain rfl : t = [] := e5
      rw [e4] at hrun
      exact ⟨n, e.1, ls', y, h2, ⟨g1.2.2.2.2.2, by rw [hM] at g4; exact g4⟩, hrun⟩
    next => cases c4
  next => cases c2
/-- the rows between the question and the answer, or what is thrown -/
def pm_B (u tg p29 : Nat) (hi2 : Int) : Prop := ∀ (p : Program) (l : Launch) (e : Env) (R : Room) (s : State) (m : MethodId) (args : Array Value) (below : List Frame) (meth : Method) (c : Code) (H : Heap) (locs : List Loc) (cells slots : Nat) (Q : State → Prop) (lsA : Array Slot) (r a2 : Int32), p.tables.exec = Jvm.exec → c.code = (eg_md u).2.1 → lsA[2]? = some (.val (.int a2)) →
  W p l e R s m args below meth c H locs cells slots Q (F0 m tg lsA []) → (r.toInt ≠ 0 → 0 ≤ a2.toInt → a2.toInt ≤ hi2 → W p l e R s m args below meth c H locs cells slots Q (F0 m p29 lsA [])) → W p l e R s m args below meth c H locs cells slots Q (F0 m 8 lsA [.int r])
theorem pm_b4 : pm_B 1367 21 29 8 := by
  intro p l e R s m args below meth c H locs cells slots Q lsA r a2 hx hb hl k1 k2
  refine rw_if hx hb (show decode (eg_md 1367).2.1 8 = .ok (.ifCond .eq 13, 3) by decide +kernel) (tgt := 21) (by decide) (fun _ => k1) (fun h8 => ?_)
  refine lv_iload_n hx hb (show decode (eg_md 1367).2.1 11 = .ok (.iload_n 2, 1) by decide +kernel) rfl hl ?_
  refine rw_if hx hb (show decode (eg_md 1367).2.1 12 = .ok (.ifCond .lt 9, 3) by decide +kernel) (tgt := 21) (by decide) (fun _ => k1) (fun h12 => ?_)
  refine lv_iload_n hx hb (show decode (eg_md 1367).2.1 15 = .ok (.iload_n 2, 1) by decide +kernel) rfl hl ?_
  refine lv_bipush hx hb (show decode (eg_md 1367).2.1 16 = .ok (.bipush 8, 2) by decide +kernel) (v := 8) (by decide) ?_
  refine rw_ic hx hb (show decode (eg_md 1367).2.1 18 = .ok (.if_icmp .le 11, 3) by decide +kernel) (tgt := 29) (by decide) (fun h18 => k2 (fun e0 => h8 ?_) ?_ ?_) (fun _ => k1)
  · exact Int32.toInt_inj.mp e0
  · have h13 : ¬ a2.toInt < (0 : Int32).toInt := fun q => h12 (Int32.lt_iff_toInt_lt.mpr q)
    exact Int.not_lt.mp h13
  · exact Int32.le_iff_toInt_le.mp h18
theorem pm_b5 : pm_B 1436 20 28 5 := by
  intro p l e R s m args below meth c H locs cells slots Q lsA r a2 hx hb hl k1 k2
  refine rw_if hx hb (show decode (eg_md 1436).2.1 8 = .ok (.ifCond .eq 12, 3) by decide +kernel) (tgt := 20) (by decide) (fun _ => k1) (fun h8 => ?_)
  refine lv_iload_n hx hb (show decode (eg_md 1436).2.1 11 = .ok (.iload_n 2, 1) by decide +kernel) rfl hl ?_
  refine rw_if hx hb (show decode (eg_md 1436).2.1 12 = .ok (.ifCond .lt 8, 3) by decide +kernel) (tgt := 20) (by decide) (fun _ => k1) (fun h12 => ?_)
  refine lv_iload_n hx hb (show decode (eg_md 1436).2.1 15 = .ok (.iload_n 2, 1) by decide +kernel) rfl hl ?_
  refine lv_iconst hx hb (show decode (eg_md 1436).2.1 16 = .ok (.iconst 5, 1) by decide +kernel) (v := 5) rfl ?_
  refine rw_ic hx hb (show decode (eg_md 1436).2.1 17 = .ok (.if_icmp .le 11, 3) by decide +kernel) (tgt := 28) (by decide) (fun h18 => k2 (fun e0 => h8 ?_) ?_ ?_) (fun _ => k1)
  · exact Int32.toInt_inj.mp e0
  · have h13 : ¬ a2.toInt < (0 : Int32).toInt := fun q => h12 (Int32.lt_iff_toInt_lt.mpr q)
    exact Int.not_lt.mp h13
  · exact Int32.le_iff_toInt_le.mp h18
theorem xt_4 : decode (eg_md 1367).2.1 21 = .ok (.new 151, 3) ∧ decode (eg_md 1367).2.1 24 = .ok (.dup, 1) ∧ decode (eg_md 1367).2.1 25 = .ok (.invokespecial 153, 3) ∧ decode (eg_md 1367).2.1 28 = .ok (.athrow, 1) := by decide +kernel
theorem xt_5 : decode (eg_md 1436).2.1 20 = .ok (.new 151, 3) ∧ decode (eg_md 1436).2.1 23 = .ok (.dup, 1) ∧ decode (eg_md 1436).2.1 24 = .ok (.invokespecial 153, 3) ∧ decode (eg_md 1436).2.1 27 = .ok (.athrow, 1) := by decide +kernel
set_option maxHeartbeats 4000000 in
/-- promise() and man() answer, or throw -/
theorem pm_met {u tg p29 : Nat} {hi hi2 : Int} {y : MethodName} {b : ByteArray} (hcode : lw_tbl[u]? = some (.code y b 3 (some .int))) (hpl : plainName y.cls = true) (hcl : y.cls = RX10) (hB : pm_B u tg p29 hi2)
    (hthr : decode (eg_md u).2.1 tg = .ok (.new 151, 3) ∧ decode (eg_md u).2.1 (tg + 3) = .ok (.dup, 1) ∧ decode (eg_md u).2.1 (tg + 4) = .ok (.invokespecial 153, 3) ∧ decode (eg_md u).2.1 (tg + 7) = .ok (.athrow, 1))
    {l : Launch} (hl : l.stackTraces = false) {E : eg_X} {D : va_G} {dT : Nat → ClassId} {sc : List Value} {h : eg_H} {H : Heap} (hH : eg_h E D dT 999 h H) {a1 a2 : Int32} (hQ : pm_W sc u hi h a1 a2) (hA : pm_R sc u p29 hi hi2 a1 a2) :
    vx_Met l y (Cond.code y b 3 (some .int) :: eg_ws) { frames := 12, cells := 1, slots := 6, locals := 768 } (xc_Pc E D dT sc [.ref E.1, .int a1, .int a2] H) (pm_Q E D dT h) (pm_X E D dT h) 1 6 (eg_A E) := by
  have hmd := eg_md_v hcode
  refine vx_ofW (cc := b) (maxL := 3) (ret := some .int) hpl rfl ?_
  intro p e s m args below meth c s₁ B hml hex hP
  obtain ⟨rfl, hh, hT, hXT⟩ := hP
  have hts := atoms_spec (ws := Cond.code y b 3 (some .int) :: eg_ws) B.pre
  have hlocks := B.notSynchronized
  have hret := B.returns
  have hname : meth.name = y.name := (name_of_methodNamed B.named B.method).1
  have hown' : s.vm.findClass y.cls = some m.cls := findClass_of_methodNamed B.named
  have hown2 : s.vm.findClass RX10 = some m.cls := by rw [← hcl]; exact hown'
  have hX : eg_ctx E D dT sc p s m ([.ref E.1, .int a1, .int a2] : List Value).toArray meth c u 10 := ⟨B.exec, by rw [hmd]; exact B.bytes, by rw [hmd]; exact hml, ⟨RX10, rfl, hown2⟩, fun w hw => hts w (List.mem_cons_of_mem _ hw), hT, by rw [hmd]; exact hname⟩
  have has : eg_vs E [.ref 0, .int a1, .int a2] [.ref E.1, .int a1, .int a2] := ⟨_, _, rfl, rfl, _, _, rfl, rfl, _, _, rfl, rfl, rfl⟩
  have hl9 := lv_entry ([.ref E.1, .int a1, .int a2]) (n := 3) (Nat.le_of_ble_eq_true rfl)
  have hen : eg_en E [] := fun j r hj => by cases hj
  obtain ⟨F, r, h1, hF, ⟨hp1, hf1⟩, hr1, hrun⟩ := hQ
  have hw1 : ab_fr [(204, 0, 0)] h1 h := fr_sub (by decide +kernel) hf1
  rw [lg_entry_eq]
  refine hF u 10 2 0 0 0 _ _ _ _ _ _ _ _ _ _ _ hrun (fun q hq => eg_pg_ok u q (eg_seek_mem hq)) E D dT p l e _ { frames := 12, cells := 0, slots := 0, locals := 768 } ⟨Nat.zero_le _, Nat.zero_le _⟩ s m _ below meth c s.heap [] 0 0 _ _ [] hX hen ⟨by rw [hh]; exact hH, va_S.rf, ⟨_, eg_ls_args _ _ has 0, by rw [hmd]; exact hl9⟩, rfl, Nat.zero_le _, Nat.zero_le _⟩ (by show 2 ≤ 12; decide) (by show 64 * 2 ≤ 768; decide) ?_
  intro H' locs' cells' slots' lsA' stc' hI hend
  obtain ⟨gH, gS, ⟨lvc, gL, gLv⟩, gst, gc1, gc2⟩ := hI
  obtain ⟨w, _, rfl, hw, rfl⟩ := gst
  obtain rfl : w = .int r := hw
  have hl2 : lsA'[2]? = some (.val (.int a2)) := by
    obtain ⟨v, v1, v2⟩ := eg_ls_find gL (k := 2) (a := .int a2) (List.mem_cons_of_mem _ (List.mem_cons_of_mem _ List.mem_cons_self))
    obtain rfl : v = .int a2 := v2
    exact gLv.2.2 (2, _) v1
  have hsz : lsA'.size = c.maxLocals := by rw [hml]; rw [hmd] at gLv; exact gLv.1
  have hg0 : cells' = 0 := by simpa using gc1
  have hg1 : slots' = 0 := by simpa using gc2
  refine hB _ _ _ _ _ _ _ _ _ _ _ _ _ _ _ _ r a2 hX.1 hX.2.1 hl2 ?_ (fun hr0 h3 h4 => ?_)
  · refine vx_throw0 B.exec hX.2.1 hl (own := RX10) (cls := xc_N) (names := ["java/lang/RuntimeException", "java/lang/Exception"]) (ik := 151) (ic := 153) (A := eg_A E) hown2 xc_f1 xc_f2 (hX.2.2.2.2.1 _ xc_w1) (hX.2.2.2.2.1 _ xc_w2) ?_ xc_ot hXT.2.1 hXT.2.2 gS hsz hthr.1 hthr.2.1 hthr.2.2.1 hthr.2.2.2 (fun x hx => (hex x hx).elim) (by show 2 + 3 < 12; decide) (by show 0 + (13 * 3 + 42) ≤ 768; decide) (by rw [hg0]; show 0 + 1 ≤ 1; decide) (by rw [hg1]; show 0 + 6 ≤ 6; decide) hlocks ?_ gS.2.2 (by rw [hg0]; decide) (by rw [hg1]; decide)
    · intro w hw
      obtain ⟨h3, h4⟩ := xc_in w hw
      rcases h4 with h4 | h4
      · exact hX.2.2.2.2.1 w (eg_ws_in h3 h4)
      · refine va_Nw.use ?_ (hXT.1 w h3 h4)
        cases w with
        | castable C T => rfl
        | declares x => rfl
        | _ => cases h4
    · intro t ha hz hq
      refine ⟨rfl, h1, ⟨hp1, hw1⟩, xc_more gH hq, Nat.le_trans gS.1 hz, fun q h5 h6 => ?_⟩
      rw [hq q (Nat.lt_of_lt_of_le h5 gS.1)]
      exact gS.2.1 q h5 h6
  · have ha1 : 0 ≤ a1.toInt ∧ a1.toInt ≤ hi := by
      rcases hr1 with q | q
      · exact q.2
      · exact absurd q hr0
    obtain ⟨n, pc', ls', r2, h2, ⟨hp2, hf2⟩, hrun2⟩ := hA h1 hp1 ha1.1 ha1.2 h3 h4
    refine (eg_run_ok eg_pg_ok n) u 10 12 0 0 p29 _ _ _ _ _ _ _ _ _ _ _ hrun2 (fun q hq => eg_pg_ok u q (eg_seek_mem hq)) E D dT p l e _ { frames := 12, cells := 0, slots := 0, locals := 768 } ⟨Nat.zero_le _, Nat.zero_le _⟩ s m _ below meth c H' locs' cells' slots' _ lsA' [] hX hen ⟨gH, gS, ⟨lvc, gL, gLv⟩, rfl, gc1, gc2⟩ (Nat.le_refl _) (Nat.le_refl _) ?_
    intro H2 locs2 cells2 slots2 lsA2 stc2 hI2 hend2
    obtain ⟨kH, kS, kL, kst, kc1, kc2⟩ := hI2
    obtain ⟨w2, _, rfl, hw2, rfl⟩ := kst
    obtain rfl : w2 = .int r2 := hw2
    rcases hend2 with ⟨e3, -⟩ | ⟨-, hd⟩ | ⟨e3, -⟩ | ⟨e3, -⟩
    · omega
    · refine vx_ret (W.widen (k := 1) (n := 6) (by have : cells2 ≤ 0 := kc1; omega) (by have : slots2 ≤ 0 := kc2; omega) ?_)
      exact W.iret B.exec hX.2.1 hret (fun t ht _ => (⟨r2, h2, rfl, ⟨hp2, (fr_sub (M := [(204, 0, 0)]) (by decide +kernel) hf2).tr hw1⟩, by rw [ht]; exact kH, kS.F ht⟩ : pm_Q E D dT h ([.ref E.1, .int a1, .int a2] : List Value).toArray s (.returned (some (.int r2))) t)) kS.2.2 hd
    · omega
    · omega
