/-! the engine's steps are the machine's -/
theorem eg_mon {m : MethodId} {pc : Nat} {ls : Array Slot} {st : List Value} : (F0 m pc ls st).monitorRoom = 0 := rfl
set_option maxHeartbeats 4000000 in
theorem eg_call_ok {en : List (Int × Int)} {sc : List Value} {sm sp : Nat} {f : eg_F} (hf : eg_S en sc sm sp f) (hpg : eg_pgok) {u o dp bc bs pc : Nat} {cs : eg_W} {ls : eg_L} {st : List Value} {hn : Nat} {h : eg_H} {ik k : Nat} {i : Instr} {ik' pc' : Nat} {ls' : eg_L} {st' : List Value} {hn' : Nat} {h' : eg_H}
    (hr : eg_call sm f u o dp bc bs pc cs ls st hn h ik k = some (ik', pc', ls', st', hn', h')) (hd : decode (eg_md u).2.1 pc = .ok (i, 3)) (hi : (ik = 0 ∧ i = .invokevirtual k) ∨ (ik = 1 ∧ i = .invokespecial k) ∨ (ik = 2 ∧ i = .invokestatic k)) (hcs : ∀ q ∈ cs, decode (eg_md u).2.1 q.1 = .ok q.2)
    {E : eg_X} {D : va_G} {dT : Nat → ClassId} {p : Program} {l : Launch} {e : Env} {R R2 : Room} (hRR : R2.cells ≤ R.cells ∧ R2.slots ≤ R.slots) {s : State} {m : MethodId} {args : Array Value} {below : List Frame} {meth : Method} {c : Code} {H : Heap} {locs : List Loc} {cells slots : Nat} {Q : State → Prop} {lsA : Array Slot} {stc : List Value}
    (hX : eg_ctx E D dT sc p s m args meth c u o) (hE : eg_en E en) (hI : eg_I E D dT u R2 s H locs cells slots lsA stc ls st hn h bc bs) (hR1 : dp ≤ R.frames) (hR2 : 64 * dp ≤ R.locals)
    (K : ∀ H' locs' cells' slots' lsA' stc', eg_I E D dT u R2 s H' locs' cells' slots' lsA' stc' ls' st' hn' h' 0 0 → eg_end sm sp u ik' pc' → W p l e R s m args below meth c H' locs' cells' slots' Q (F0 m pc' lsA' stc')) : W p l e R s m args below meth c H locs cells slots Q (F0 m pc lsA stc) := by
  obtain ⟨hH, hS, ⟨lvc, hl, hlv⟩, hst, hc1, hc2⟩ := id hI
  obtain ⟨hx, hb, hml, ⟨own, hown1, hown⟩, hts, hT, hnm⟩ := id hX
  have hml2 : c.maxLocals = lsA.size := hml.trans hlv.1.symm
  have cont : ∀ (bc2 bs2 hn2 : Nat) (st2 : List Value) (h2 : eg_H), f u o dp bc2 bs2 (pc + 3) cs ls st2 hn2 h2 = some (ik', pc', ls', st', hn', h') → ∀ (H2 : Heap) (locs2 : List Loc) (cells2 slots2 : Nat) (stc2 : List Value), eg_h E D dT hn2 h2 H2 → va_S (eg_A E) s.heap H2 locs2 → eg_vs E st2 stc2 → cells2 + bc2 ≤ R2.cells → slots2 + bs2 ≤ R2.slots → W p l e R s m args below meth c H2 locs2 cells2 slots2 Q (F0 m (pc + 3) lsA stc2) := fun bc2 bs2 hn2 st2 h2 h9 H2 locs2 cells2 slots2 stc2 g1 g2 g3 g4 g5 =>
    hf u o dp bc2 bs2 (pc + 3) cs ls st2 hn2 h2 _ _ _ _ _ _ h9 hcs E D dT p l e R R2 hRR s m args below meth c H2 locs2 cells2 slots2 Q lsA stc2 hX hE ⟨g1, g2, ⟨lvc, hl, hlv⟩, g3, g4, g5⟩ hR1 hR2 K
  unfold eg_call at hr
  cases ha : eg_at o eg_cx k with
  | none => rw [ha] at hr; cases hr
  | some en0 =>
    obtain ⟨kind, pl, mu, o', np, pa, pb, pi⟩ := en0
    rw [ha] at hr
    simp only at hr
    obtain ⟨n, hn1, hcx⟩ := eg_cx_v ha
    obtain rfl : n = own := Option.some.inj (hn1.symm.trans hown1)
    cases hk4 : Nat.ble 4 kind with
    | true =>
      have hk4' := Nat.le_of_ble_eq_true hk4
      rw [hk4] at hr
      simp only at hr
      cases hcond : (Nat.ble 1 dp && Nat.ble (eg_cat st) 8) with
      | false => rw [hcond] at hr; cases hr
      | true =>
        rw [hcond] at hr
        have h9 := Bool.and_eq_true_iff.mp hcond
        have hdp := Nat.le_of_ble_eq_true h9.1
        have hcat := Nat.le_of_ble_eq_true h9.2
        simp only [cond_true] at hr
        rcases hcx with ⟨-, hcx⟩ | ⟨hlt, -⟩
        · rcases hcx with ⟨rfl, w1, w2, w3, w4⟩ | ⟨rfl, w1, w2, w3, w4⟩ | ⟨rfl, w1, w2, w3, w4⟩ | ⟨n5, n6, n7, w1, w2, w3⟩
          · simp only at hr
            split at hr
            next y x st2 =>
              obtain ⟨_, _, rfl, hvy, _, rest, rfl, hvx, hrest⟩ := hst
              cases hvy; cases hvx
              cases hik : Nat.beq ik 2 with
              | false => rw [hik] at hr; cases hr
              | true =>
                rw [hik] at hr
                simp only [cond_true] at hr
                cases hni : eg_ni (if y < x then y else x) with
                | none => rw [hni] at hr; cases hr
                | some v =>
                  rw [hni] at hr
                  have hik := Nat.eq_of_beq_eq_true hik
                  rcases hi with ⟨e1, -⟩ | ⟨e1, -⟩ | ⟨-, rfl⟩
                  · omega
                  · omega
                  · have hsum := eg_cat_sum _ _ hrest
                    simp only [eg_cat, Value.category] at hcat
                    refine va_mmin hx hb hml2 hown (hts _ w1) (hts _ w2) (hts _ w4) (hts _ w3) (by omega) (by rw [hsum]; omega) (by omega) (by omega) hd ?_
                    exact cont _ _ _ _ _ hr H locs cells slots _ hH hS ⟨_, _, rfl, by rw [eg_ni_v hni]; rfl, hrest⟩ hc1 hc2
            next => cases hr
          · simp only at hr
            split at hr
            next y x st2 =>
              obtain ⟨_, _, rfl, hvy, _, rest, rfl, hvx, hrest⟩ := hst
              cases hvy; cases hvx
              cases hik : Nat.beq ik 2 with
              | false => rw [hik] at hr; cases hr
              | true =>
                rw [hik] at hr
                simp only [cond_true] at hr
                cases hni : eg_ni (if x < y then y else x) with
                | none => rw [hni] at hr; cases hr
                | some v =>
                  rw [hni] at hr
                  have hik := Nat.eq_of_beq_eq_true hik
                  rcases hi with ⟨e1, -⟩ | ⟨e1, -⟩ | ⟨-, rfl⟩
                  · omega
                  · omega
                  · have hsum := eg_cat_sum _ _ hrest
                    simp only [eg_cat, Value.category] at hcat
                    refine va_mmax hx hb hml2 hown (hts _ w1) (hts _ w2) (hts _ w4) (hts _ w3) (by omega) (by rw [hsum]; omega) (by omega) (by omega) hd ?_
                    exact cont _ _ _ _ _ hr H locs cells slots _ hH hS ⟨_, _, rfl, by rw [eg_ni_v hni]; rfl, hrest⟩ hc1 hc2
            next => cases hr
          · simp only at hr
            split at hr
            next x st2 =>
              obtain ⟨_, rest, rfl, hvx, hrest⟩ := hst
              cases hvx
              cases hik : Nat.beq ik 2 with
              | false => rw [hik] at hr; cases hr
              | true =>
                rw [hik] at hr
                simp only [cond_true] at hr
                cases hni : eg_ni (if 0 ≤ x then x else 0 - x) with
                | none => rw [hni] at hr; cases hr
                | some v =>
                  rw [hni] at hr
                  have hik := Nat.eq_of_beq_eq_true hik
                  rcases hi with ⟨e1, -⟩ | ⟨e1, -⟩ | ⟨-, rfl⟩
                  · omega
                  · omega
                  · have hsum := eg_cat_sum _ _ hrest
                    simp only [eg_cat, Value.category] at hcat
                    refine va_mabs hx hb hml2 hown (hts _ w1) (hts _ w2) (hts _ w4) (hts _ w3) (by omega) (by rw [hsum]; omega) (by omega) (by omega) hd ?_
                    exact cont _ _ _ _ _ hr H locs cells slots _ hH hS ⟨_, _, rfl, by rw [eg_ni_v hni]; rfl, hrest⟩ hc1 hc2
            next => cases hr
          · split at hr
            · split at hr
              next a st2 =>
                obtain ⟨_, rest, rfl, hvx, hrest⟩ := hst
                cases hvx
                cases hik : Nat.beq ik 1 with
                | false => rw [hik] at hr; cases hr
                | true =>
                  rw [hik] at hr
                  simp only [cond_true] at hr
                  have hik := Nat.eq_of_beq_eq_true hik
                  rcases hi with ⟨e1, -⟩ | ⟨-, rfl⟩ | ⟨e1, -⟩
                  · omega
                  · have hsum := eg_cat_sum _ _ hrest
                    simp only [eg_cat, Value.category] at hcat
                    refine W.objInit hx hb hown (hts _ w1) (hts _ w2) (hts _ w3) rfl hml2.symm rfl hd (by omega) (by rw [hsum, eg_mon]; omega) ?_
                    exact cont _ _ _ _ _ hr H locs cells slots _ hH hS hrest hc1 hc2
                  · omega
              next => cases hr
            · exact absurd rfl n5
            · exact absurd rfl n6
            · exact absurd rfl n7
            · cases hr
        · omega
    | false =>
      rw [hk4] at hr
      simp only at hr
      cases hik : (bif Nat.beq kind 3 then Nat.beq ik 1 else Nat.beq ik kind) with
      | false => rw [hik] at hr; cases hr
      | true =>
        rw [hik] at hr
        simp only [cond_true] at hr
        cases hpop : eg_pop np st [] with
        | none => rw [hpop] at hr; cases hr
        | some q1 =>
          obtain ⟨as0, st1⟩ := q1
          rw [hpop] at hr
          simp only at hr
          cases hrcv : eg_rcv kind o' h as0 st1 with
          | none => rw [hrcv] at hr; cases hr
          | some q2 =>
            obtain ⟨as, st2⟩ := q2
            rw [hrcv] at hr
            simp only at hr
            cases dp with
            | zero => cases hr
            | succ d =>
              simp only at hr
              cases hcond : (!(Nat.beq mu sm) && Nat.ble (eg_cat st2) 8 && Nat.ble (eg_cat as) (eg_md mu).2.2.1 && Nat.ble (eg_bud mu).1 bc && Nat.ble (eg_bud mu).2 bs) with
              | false => rw [hcond] at hr; cases hr
              | true =>
                rw [hcond] at hr
                simp only [cond_true] at hr
                simp only [Bool.and_eq_true, Bool.not_eq_true'] at hcond
                obtain ⟨⟨⟨⟨hsm0, hcat2⟩, hcat1⟩, hbc⟩, hbs⟩ := hcond
                have hsm : mu ≠ sm := fun e9 => by rw [e9, Nat.beq_refl] at hsm0; cases hsm0
                have hcat2 := Nat.le_of_ble_eq_true hcat2
                have hcat1 := Nat.le_of_ble_eq_true hcat1
                have hbc := Nat.le_of_ble_eq_true hbc
                have hbs := Nat.le_of_ble_eq_true hbs
                cases hcall : f mu o' d (eg_bud mu).1 (eg_bud mu).2 0 (eg_pg mu) (eg_args 0 as) [] hn h with
                | none => rw [hcall] at hr; cases hr
                | some r9 =>
                  obtain ⟨ik9, pc9, ls9, st9, hn9, h9⟩ := r9
                  rw [hcall] at hr
                  simp only at hr
                  cases hrv : eg_rv (eg_md mu).2.2.2 ik9 st9 with
                  | none => rw [hrv] at hr; cases hr
                  | some vo =>
                    rw [hrv] at hr
                    rcases hcx with ⟨h4, -⟩ | ⟨hlt, y, b, kk, r, ho', hcode, hkk, hpl, hy1, hy2, hsig, hini, hkind⟩
                    · have := Nat.ble_eq.mpr h4
                      rw [hk4] at this
                      cases this
                    · have hmd := eg_md_v hcode
                      rw [hmd] at hcat1 hrv
                      have hsig2 : ∀ sig, parseMethodDescriptor y.desc = some sig → np = sig.parameters.length := fun sig hs => by
                        rw [hs] at hsig
                        exact (Option.some.inj hsig).symm
                      obtain ⟨asC0, restC0, g1, g2, g3, g4⟩ := eg_pop_v np st [] as0 st1 stc [] hpop hst rfl
                      simp only [List.reverse_nil, List.nil_append, List.length_nil, Nat.add_zero] at g3 g4
                      have hTU : ∀ U : State, U.heap = H → s.WarmedH U.vm → eg_T E D dT sc U U.heap := fun U hU hW => by
                        rw [hU]
                        exact hT.move hW hS.1 (fun a h1 h2 => hS.2.1 a h1 h2)
                      have hcells : cells + (eg_bud mu).1 ≤ R.cells ∧ slots + (eg_bud mu).2 ≤ R.slots := ⟨by omega, by omega⟩
                      have hroom : d + 1 ≤ R.frames ∧ 8 + (kk + 11) + 64 * d ≤ R.locals := ⟨hR1, by omega⟩
                      have fin : ∀ (restC : List Value) (a9 : Array Value), eg_vs E st2 restC → va_Run p l e R s m args below meth c H locs cells slots (eg_bud mu).1 (eg_bud mu).2 (F0 m pc lsA stc) restC (eg_Qc E D dT vo hn9 h9 a9) (eg_A E) → (kind = 1 ∨ kind = 3 → r = none) → W p l e R s m args below meth c H locs cells slots Q (F0 m pc lsA stc) := fun restC a9 hrestC hrun hinit => by
                        refine eg_behind hrun hS (fun v H1 locs1 hv1 hH1 hS1 => ?_)
                        cases vo with
                        | none =>
                          obtain rfl : v = none := hv1
                          simp only at hr
                          exact cont _ _ _ _ _ hr H1 locs1 _ _ _ hH1 hS1 hrestC (by omega) (by omega)
                        | some va =>
                          obtain ⟨w, rfl, hw⟩ := hv1
                          simp only at hr
                          cases hki : (Nat.beq kind 1 || Nat.beq kind 3) with
                          | true => rw [hki] at hr; cases hr
                          | false =>
                            rw [hki] at hr
                            exact cont _ _ _ _ _ hr H1 locs1 _ _ _ hH1 hS1 ⟨w, restC, rfl, hw, hrestC⟩ (by omega) (by omega)
                      have hinitr : kind = 1 ∨ kind = 3 → r = none := fun hk => by
                        rcases eg_rv_v hrv with ⟨-, v, -, rfl, -⟩ | ⟨-, v, -, rfl, -⟩ | ⟨-, -, -, e9⟩
                        · simp only at hr
                          rcases hk with rfl | rfl <;> simp at hr
                        · simp only at hr
                          rcases hk with rfl | rfl <;> simp at hr
                        · exact e9
                      rcases hkind with ⟨rfl, w1, w2, w3⟩ | ⟨rfl, w1, w2, w3⟩ | ⟨rfl, w1, w2⟩ | ⟨rfl, w1, w2, w3⟩
                      · have hik0 : ik = 0 := Nat.eq_of_beq_eq_true hik
                        rcases hi with ⟨-, rfl⟩ | ⟨e1, -⟩ | ⟨e1, -⟩
                        · rcases eg_rcv_v hrcv with ⟨e1, -⟩ | ⟨-, v, rfl, rfl, hv⟩
                          · omega
                          · obtain ⟨vc, restC, rfl, hvc, hrestC⟩ := g2
                            have hrecv : ∃ a : Nat, vc = .ref a ∧ ∃ cellB : Cell, H[a]? = some cellB ∧ cellB.vm.isStatics = false ∧ s.vm.findClass y.cls = some cellB.cls := by
                              rcases hv with ⟨a, rfl, ho9⟩ | ⟨-, rfl, rfl⟩
                              · obtain ⟨fs, hget⟩ := ho9 rfl
                                obtain ⟨q, V, y1, y2, ⟨cell, z1, z2, z3, -⟩, -⟩ := hH.2 a _ hget
                                obtain ⟨e9, -⟩ := eg_own_cl y1 ho'
                                refine ⟨_, hvc, cell, z1, by rw [z3]; rfl, ?_⟩
                                rw [e9, z2]
                                exact (hT.1.1 o' q y1).2.1
                              · have e9 : "java/lang/String" = y.cls := Option.some.inj (show some "java/lang/String" = some y.cls from ho')
                                rw [← e9]
                                refine ⟨E.2.2.1, by simpa [eg_v] using hvc, ?_⟩
                                exact vk_recv (i := 0) hT.2.2.2.2.1 (by decide) hS
                            obtain ⟨a, rfl, hrecv⟩ := hrecv
                            have hM := eg_met (l := l) hf hpg (mc := (eg_bud mu).1) (ms := (eg_bud mu).2) hcode hpl ho' hsm hcat1 hcall hrv hE (asC := .ref a :: asC0) ⟨_, _, rfl, hvc, g1⟩ hH
                            refine fin restC _ hrestC (va_runV (C := y.cls) (b := a) (As := asC0) (rest := restC) (Ts := eg_ws) ⟨hx, hb, hml, hown, hts⟩ hM ⟨⟨rfl, rfl, hroom.1, hroom.2, pay_in hts (eg_good hcode), List.mem_cons_self, hts _ (eg_tb_in hcode rfl), hts _ hini, ⟨hy1, hy2⟩, hsig2, hts _ w1⟩, hts _ w2, hts _ w3⟩ ⟨eg_Pc_blind, hrecv, fun U hU hW => ⟨rfl, hU, hTU U hU hW⟩⟩ rfl g4 hlv.1 g3 (lv_room (by rw [eg_cat_sum _ _ hrestC]; exact hcat2)) hd hcells) hinitr
                        · omega
                        · omega
                      · have hik0 : ik = 1 := Nat.eq_of_beq_eq_true hik
                        rcases hi with ⟨e1, -⟩ | ⟨-, rfl⟩ | ⟨e1, -⟩
                        · omega
                        · rcases eg_rcv_v hrcv with ⟨e1, -⟩ | ⟨-, v, rfl, rfl, hv⟩
                          · omega
                          · obtain ⟨vc, restC, rfl, hvc, hrestC⟩ := g2
                            rcases hv with ⟨a, rfl, -⟩ | ⟨e1, -⟩
                            · obtain rfl : vc = .ref (E.1 + a) := hvc
                              obtain rfl := hinitr (Or.inl rfl)
                              have hM := eg_met (l := l) hf hpg (mc := (eg_bud mu).1) (ms := (eg_bud mu).2) hcode hpl ho' hsm hcat1 hcall hrv hE (asC := .ref (E.1 + a) :: asC0) ⟨_, _, rfl, rfl, g1⟩ hH
                              refine fin restC _ hrestC (va_runI (b := E.1 + a) (As := asC0) (rest := restC) (Ts := eg_ws) ⟨hx, hb, hml, hown, hts⟩ hM ⟨⟨rfl, rfl, hroom.1, hroom.2, pay_in hts (eg_good hcode), List.mem_cons_self, hts _ (eg_tb_in hcode rfl), hts _ hini, ⟨hy1, hy2⟩, hsig2, hts _ w1⟩, w3, hts _ w2⟩ ⟨eg_Pc_blind, fun U hU hW => ⟨rfl, hU, hTU U hU hW⟩⟩ rfl g4 hlv.1 g3 (lv_room (by rw [eg_cat_sum _ _ hrestC]; exact hcat2)) hd hcells) hinitr
                            · omega
                        · omega
                      · have hik0 : ik = 2 := Nat.eq_of_beq_eq_true hik
                        rcases hi with ⟨e1, -⟩ | ⟨e1, -⟩ | ⟨-, rfl⟩
                        · omega
                        · omega
                        · rcases eg_rcv_v hrcv with ⟨-, rfl, rfl⟩ | ⟨e1, -⟩
                          · have hM := eg_met (l := l) hf hpg (mc := (eg_bud mu).1) (ms := (eg_bud mu).2) hcode hpl ho' hsm hcat1 hcall hrv hE (asC := asC0) g1 hH
                            refine fin restC0 _ g2 (va_runS (As := asC0) (rest := restC0) (Ts := eg_ws) ⟨hx, hb, hml, hown, hts⟩ hM ⟨⟨rfl, rfl, hroom.1, hroom.2, pay_in hts (eg_good hcode), List.mem_cons_self, hts _ (eg_tb_in hcode rfl), hts _ hini, ⟨hy1, hy2⟩, hsig2, hts _ w1⟩, hts _ w2⟩ ⟨eg_Pc_blind, fun U hU hW => ⟨rfl, hU, hTU U hU hW⟩⟩ rfl g4 hlv.1 g3 (lv_room (by rw [eg_cat_sum _ _ g2]; exact hcat2)) hd hcells) hinitr
                          · exact absurd rfl e1
                      · have hik0 : ik = 1 := Nat.eq_of_beq_eq_true hik
                        rcases hi with ⟨e1, -⟩ | ⟨-, rfl⟩ | ⟨e1, -⟩
                        · omega
                        · rcases eg_rcv_v hrcv with ⟨e1, -⟩ | ⟨-, v, rfl, rfl, hv⟩
                          · omega
                          · obtain ⟨vc, restC, rfl, hvc, hrestC⟩ := g2
                            rcases hv with ⟨a, rfl, -⟩ | ⟨e1, -⟩
                            · obtain rfl : vc = .ref (E.1 + a) := hvc
                              obtain rfl := hinitr (Or.inr rfl)
                              have hM := eg_met (l := l) hf hpg (mc := (eg_bud mu).1) (ms := (eg_bud mu).2) hcode hpl ho' hsm hcat1 hcall hrv hE (asC := .ref (E.1 + a) :: asC0) ⟨_, _, rfl, rfl, g1⟩ hH
                              refine fin restC _ hrestC (va_runIN (host := "PromiseTrees") (b := E.1 + a) (As := asC0) (rest := restC) (Ts := eg_ws) ⟨hx, hb, hml, hown, hts⟩ hM ⟨⟨⟨rfl, rfl, hroom.1, hroom.2, pay_in hts (eg_good hcode), List.mem_cons_self⟩, hts _ (eg_tb_in hcode rfl), hts _ hini, ⟨hy1, hy2⟩, hsig2, va_Nw.use rfl (hT.2.1 _ _ _ _ w1)⟩, w3, hts _ w2⟩ ⟨eg_Pc_blind, fun U hU hW => ⟨rfl, hU, hTU U hU hW⟩⟩ rfl g4 hlv.1 g3 (lv_room (by rw [eg_cat_sum _ _ hrestC]; exact hcat2)) hd hcells) hinitr
                            · omega
                        · omega
theorem eg_step_ok {en : List (Int × Int)} {sc : List Value} {sm sp : Nat} {f : eg_F} (hf : eg_S en sc sm sp f) (hpg : eg_pgok) : eg_S en sc sm sp (eg_step en sc sm sp f) := by
  intro u o dp bc bs pc cs ls st hn h ik' pc' ls' st' hn' h' hr hcs E D dT p l e R R2 hRR s m args below meth c H locs cells slots Q lsA stc hX hE hI hR1 hR2 K
  unfold eg_step at hr
  split at hr
  · cases hr
  next q0 p0 i len cs2 =>
    have hd := hcs (p0, i, len) List.mem_cons_self
    have hcs2 : ∀ q ∈ cs2, decode (eg_md u).2.1 q.1 = .ok q.2 := fun q hq => hcs q (List.mem_cons_of_mem _ hq)
    simp only at hd
    cases hp : Nat.beq p0 pc with
    | false => rw [hp] at hr; cases hr
    | true =>
      rw [hp] at hr
      simp only at hr
      obtain rfl := Nat.eq_of_beq_eq_true hp
      have hI0 : eg_I E D dT u R2 s H locs cells slots lsA stc ls st hn h 0 0 := ⟨hI.1, hI.2.1, hI.2.2.1, hI.2.2.2.1, by have := hI.2.2.2.2.1; omega, by have := hI.2.2.2.2.2; omega⟩
      cases hstop : (Nat.beq p0 sp && Nat.beq u sm) with
      | true =>
        rw [hstop] at hr
        cases hr
        have h9 := Bool.and_eq_true_iff.mp hstop
        exact K H locs cells slots lsA stc hI0 (Or.inl ⟨rfl, Nat.eq_of_beq_eq_true h9.2, Nat.eq_of_beq_eq_true h9.1⟩)
      | false =>
        rw [hstop] at hr
        simp only at hr
        cases hhd : eg_hd en sc u o p0 i len with
        | some g =>
          rw [hhd] at hr
          simp only at hr
          have hok := eg_hd_ok hhd hd
          cases hg : g ls st hn h bc bs with
          | none => rw [hg] at hr; cases hr
          | some q =>
            obtain ⟨t, ls2, st2, hn2, h2, bc2, bs2⟩ := q
            rw [hg] at hr
            refine hok E D dT p l e R R2 hRR s m args below meth c H locs cells slots Q lsA stc ls st hn h bc bs t ls2 st2 hn2 h2 bc2 bs2 hX hE hI hg ?_
            intro H' locs' cells' slots' lsA' stc' hI'
            cases t with
            | zero => exact hf u o dp bc2 bs2 (p0 + len) cs2 ls2 st2 hn2 h2 _ _ _ _ _ _ hr hcs2 E D dT p l e R R2 hRR s m args below meth c H' locs' cells' slots' Q lsA' stc' hX hE hI' hR1 hR2 K
            | succ t => exact hf u o dp bc2 bs2 t _ ls2 st2 hn2 h2 _ _ _ _ _ _ hr (fun q hq => hpg u q (eg_seek_mem hq)) E D dT p l e R R2 hRR s m args below meth c H' locs' cells' slots' Q lsA' stc' hX hE hI' hR1 hR2 K
        | none =>
          rw [hhd] at hr
          simp only at hr
          cases hks : eg_ks i len with
          | none => rw [hks] at hr; cases hr
          | some q =>
            obtain ⟨ik, k⟩ := q
            rw [hks] at hr
            simp only at hr
            unfold eg_ks at hks
            cases hlk : eg_lok i len with
            | false => rw [hlk] at hks; cases hks
            | true =>
              rw [hlk] at hks
              simp only at hks
              cases hb3 : Nat.ble 3 ik with
              | true =>
                rw [hb3] at hr
                cases hr
                refine K H locs cells slots lsA stc hI0 (Or.inr ?_)
                cases i with
                | invokevirtual j => cases hks; cases hb3
                | invokespecial j => cases hks; cases hb3
                | invokestatic j => cases hks; cases hb3
                | ireturn => cases hks; obtain rfl := Nat.eq_of_beq_eq_true (show Nat.beq len 1 = true from hlk); exact Or.inl ⟨rfl, hd⟩
                | lreturn => cases hks; obtain rfl := Nat.eq_of_beq_eq_true (show Nat.beq len 1 = true from hlk); exact Or.inr (Or.inl ⟨rfl, hd⟩)
                | return_ => cases hks; obtain rfl := Nat.eq_of_beq_eq_true (show Nat.beq len 1 = true from hlk); exact Or.inr (Or.inr ⟨rfl, hd⟩)
                | _ => cases (show (none : Option (Nat × Nat)) = some (ik', k) from hks)
              | false =>
                rw [hb3] at hr
                simp only at hr
                have hi : (ik = 0 ∧ i = .invokevirtual k) ∨ (ik = 1 ∧ i = .invokespecial k) ∨ (ik = 2 ∧ i = .invokestatic k) := by
                  cases i with
                  | invokevirtual j => cases hks; exact Or.inl ⟨rfl, rfl⟩
                  | invokespecial j => cases hks; exact Or.inr (Or.inl ⟨rfl, rfl⟩)
                  | invokestatic j => cases hks; exact Or.inr (Or.inr ⟨rfl, rfl⟩)
                  | ireturn => cases hks; cases hb3
                  | lreturn => cases hks; cases hb3
                  | return_ => cases hks; cases hb3
                  | _ => cases (show (none : Option (Nat × Nat)) = some (ik, k) from hks)
                have hlen : len = 3 := by
                  rcases hi with ⟨-, rfl⟩ | ⟨-, rfl⟩ | ⟨-, rfl⟩ <;> exact Nat.eq_of_beq_eq_true (show Nat.beq len 3 = true from hlk)
                subst hlen
                exact eg_call_ok hf hpg hr hd hi hcs2 hRR hX hE hI hR1 hR2 K
theorem eg_run_ok {en : List (Int × Int)} {sc : List Value} {sm sp : Nat} (hpg : eg_pgok) (n : Nat) : eg_S en sc sm sp (eg_run en sc sm sp n) := by
  induction n with
  | zero => intro u o dp bc bs pc cs ls st hn h ik' pc' ls' st' hn' h' hr; cases hr
  | succ n ih => exact eg_step_ok ih hpg
