/-! BY HAND: ops that read one int of the script twice -/
/-- the text is of one length in both -/
def jj (h : eg_H) : Prop := hv h 1 1 = hv h 182 2
def jj_sl : List (Nat × Nat) := [(1, 1), (182, 2)]
def jj_ck (M : ab_M) : Bool := jj_sl.all (fun q => !(ab_inr M q.1 q.2 q.2))
theorem jj_v {M : ab_M} (c : jj_ck M = true) {a k : Nat} (hm : (a, k) ∈ jj_sl) : ab_inr M a k k = false := by
  have := List.all_eq_true.mp c _ hm
  cases hb : ab_inr M a k k with
  | false => rfl
  | true => simp only [hb] at this; cases this
theorem jj_fr {M : ab_M} {h h' : eg_H} (c : jj_ck M = true) (f : ab_fr M h' h) (j : jj h) : jj h' := by
  unfold jj at j ⊢
  rw [hv_fr f (jj_v c (a := 1) (k := 1) (by decide)), hv_fr f (jj_v c (a := 182) (k := 2) (by decide))]
  exact j
theorem cl_297 : ab_atL 9999 297 (.aload_n 1) 1 = true := by decide +kernel
theorem cl_298 : ab_atL 9999 298 (.aload_n 0) 1 = true := by decide +kernel
theorem cl_299 : ab_atL 9999 299 (.iload 4) 2 = true := by decide +kernel
theorem cl_301 : ab_atL 9999 301 (.iconst 1) 1 = true := by decide +kernel
theorem cl_302 : ab_atL 9999 302 (.iadd) 1 = true := by decide +kernel
theorem cl_303 : ab_atL 9999 303 (.iaload) 1 = true := by decide +kernel
theorem cl_304 : ab_atL 9999 304 (.invokevirtual 27) 3 = true := by decide +kernel
theorem cl_307 : ab_atL 9999 307 (.pop) 1 = true := by decide +kernel
theorem cl_308 : ab_atL 9999 308 (.aload_n 2) 1 = true := by decide +kernel
theorem cl_309 : ab_atL 9999 309 (.aload_n 0) 1 = true := by decide +kernel
theorem cl_310 : ab_atL 9999 310 (.iload 4) 2 = true := by decide +kernel
theorem cl_312 : ab_atL 9999 312 (.iconst 1) 1 = true := by decide +kernel
theorem cl_313 : ab_atL 9999 313 (.iadd) 1 = true := by decide +kernel
theorem cl_314 : ab_atL 9999 314 (.iaload) 1 = true := by decide +kernel
theorem cl_315 : ab_atL 9999 315 (.invokevirtual 31) 3 = true := by decide +kernel
theorem cl_318 : ab_atL 9999 318 (.pop) 1 = true := by decide +kernel
theorem cl_319 : ab_atL 9999 319 (.goto 973) 3 = true := by decide +kernel
theorem cl_1129 : ab_atL 9999 1129 (.aload_n 1) 1 = true := by decide +kernel
theorem cl_1130 : ab_atL 9999 1130 (.aload_n 0) 1 = true := by decide +kernel
theorem cl_1131 : ab_atL 9999 1131 (.iload 4) 2 = true := by decide +kernel
theorem cl_1133 : ab_atL 9999 1133 (.iconst 1) 1 = true := by decide +kernel
theorem cl_1134 : ab_atL 9999 1134 (.iadd) 1 = true := by decide +kernel
theorem cl_1135 : ab_atL 9999 1135 (.iaload) 1 = true := by decide +kernel
theorem cl_1136 : ab_atL 9999 1136 (.invokevirtual 168) 3 = true := by decide +kernel
theorem cl_1139 : ab_atL 9999 1139 (.pop) 1 = true := by decide +kernel
theorem cl_1140 : ab_atL 9999 1140 (.aload_n 2) 1 = true := by decide +kernel
theorem cl_1141 : ab_atL 9999 1141 (.aload_n 0) 1 = true := by decide +kernel
theorem cl_1142 : ab_atL 9999 1142 (.iload 4) 2 = true := by decide +kernel
theorem cl_1144 : ab_atL 9999 1144 (.iconst 1) 1 = true := by decide +kernel
theorem cl_1145 : ab_atL 9999 1145 (.iadd) 1 = true := by decide +kernel
theorem cl_1146 : ab_atL 9999 1146 (.iaload) 1 = true := by decide +kernel
theorem cl_1147 : ab_atL 9999 1147 (.invokevirtual 171) 3 = true := by decide +kernel
theorem cl_1150 : ab_atL 9999 1150 (.pop) 1 = true := by decide +kernel
theorem cl_1151 : ab_atL 9999 1151 (.goto 141) 3 = true := by decide +kernel
set_option maxHeartbeats 1000000 in
theorem hl_call {sc : List Value} {sp u o d pc : Nat} {K : Nat → eg_L → List Value → eg_H → Prop} {ls : eg_L} {st0 as st1 as2 st2 : List Value} {h : eg_H} {i : Instr} {ik k mu o' np : Nat} {Post : Option Value → eg_H → Prop} (hst : (Nat.beq pc sp && Nat.beq u 9999) = false) (c : ab_atL u pc i 3 = true) (hks : eg_ks i 3 = some (ik, k)) (hG : eg_hd [] sc u o pc i 3 = none) (hcx : ck_cl o k ik mu o' np = true) (hpop : eg_pop np st0 [] = some (as, st1)) (hrcv : eg_rcv ik o' h as st1 = some (as2, st2)) (hcat : (Nat.ble (eg_cat st2) 8 && Nat.ble (eg_cat as2) (eg_md mu).2.2.1) = true) (m : mc sc sp mu o' d as2 h Post) (n : ∀ vo h', Post vo h' → hs sc sp u o (d + 1) K (pc + 3) ls (vo.toList ++ st2) h') : hs sc sp u o (d + 1) K pc ls st0 h := by
  have hs0 := ab_atL_v c
  obtain ⟨pc1, ls1, st3, h1, g1, ir, vo, hir, hrv, hpost⟩ := m
  refine (n vo h1 hpost).pre ?_
  intro r hr
  unfold ck_cl at hcx
  have c1 := Bool.and_eq_true_iff.mp hcx
  have c2 := Bool.and_eq_true_iff.mp c1.1
  have c3 := Bool.and_eq_true_iff.mp c2.1
  have c4 := Bool.and_eq_true_iff.mp c3.1
  have c5 := Bool.and_eq_true_iff.mp c4.1
  have hb1 := Nat.eq_of_beq_eq_true c3.2
  have hb2 := Nat.eq_of_beq_eq_true c2.2
  have hmu : Nat.beq mu 9999 = false := by
    have := c4.2
    cases hb : Nat.beq mu 9999 with
    | false => rfl
    | true => rw [hb] at this; cases this
  cases ha : eg_at o eg_cx k with
  | none => have := c5.1; rw [ha] at this; cases this
  | some e =>
    obtain ⟨kd, pl, m', oo, n', pa, pb, pi⟩ := e
    have c6 := c5.1
    rw [ha] at c6
    simp only at c6
    have d1 := Bool.and_eq_true_iff.mp c6
    have d2 := Bool.and_eq_true_iff.mp d1.1
    have d3 := Bool.and_eq_true_iff.mp d2.1
    obtain rfl := Nat.eq_of_beq_eq_true d3.1
    obtain rfl := Nat.eq_of_beq_eq_true d3.2
    obtain rfl := Nat.eq_of_beq_eq_true d2.2
    obtain rfl := Nat.eq_of_beq_eq_true d1.2
    have hk02 : kd = 0 ∨ kd = 2 := by
      rcases Bool.or_eq_true_iff.mp c5.2 with e | e
      · exact Or.inl (Nat.eq_of_beq_eq_true e)
      · exact Or.inr (Nat.eq_of_beq_eq_true e)
    have hik : Nat.ble 3 kd = false := by rcases hk02 with rfl | rfl <;> rfl
    have hk4 : Nat.ble 4 kd = false := by rcases hk02 with rfl | rfl <;> rfl
    have hkb : (bif Nat.beq kd 3 then Nat.beq kd 1 else Nat.beq kd kd) = true := by rcases hk02 with rfl | rfl <;> rfl
    have hk13 : (Nat.beq kd 1 || Nat.beq kd 3) = false := by rcases hk02 with rfl | rfl <;> rfl
    refine ab_Re_call hs0 hst hG hks hik ?_
    obtain ⟨m1, hm1⟩ := g1 _ (ab_ret_v hmu hir)
    obtain ⟨m2, hm2⟩ := hr
    refine ⟨m1 + m2, ?_⟩
    have w1 := eg_run_mo (Nat.le_add_right m1 m2) _ _ _ _ _ _ _ _ _ _ _ _ hm1
    have w2 := eg_run_mo (Nat.le_add_left m2 m1) _ _ _ _ _ _ _ _ _ _ _ _ hm2
    have hpg : eg_seek 0 (eg_pg m') = eg_pg m' := by
      have := c1.2
      split at this
      next p i0 l0 cs0 hpg =>
        rw [hpg]
        unfold eg_seek
        rw [this]
      next => cases this
    rw [hpg] at w1
    have hcat2 := Bool.and_eq_true_iff.mp hcat
    have hcc : (!(Nat.beq m' 9999) && Nat.ble (eg_cat st2) 8 && Nat.ble (eg_cat as2) (eg_md m').2.2.1 && Nat.ble 0 0 && Nat.ble 0 0) = true := by rw [hmu, hcat2.1, hcat2.2]; rfl
    simp only [eg_call, ha, hk4, hkb, cond_true, hpop, hrcv, hb1, hb2, hcc, w1, hrv]
    cases vo with
    | none => exact w2
    | some z =>
      simp only [hk13, cond_false]
      exact w2
theorem hl_pop {sc : List Value} {sp u o dq pc : Nat} {K : Nat → eg_L → List Value → eg_H → Prop} {ls : eg_L} {st : List Value} {h : eg_H} {v : Value} (hst : (Nat.beq pc sp && Nat.beq u 9999) = false) (c : ab_atL u pc .pop 1 = true) (hv : eg_is1 v = true) (n : hs sc sp u o dq K (pc + 1) ls st h) : hs sc sp u o dq K pc ls (v :: st) h := hl_s hst c rfl (by simp only [eg_pp, hv, cond_true]) n
theorem hl_goto {sc : List Value} {sp u o dq pc : Nat} {K : Nat → eg_L → List Value → eg_H → Prop} {ls : eg_L} {st : List Value} {h : eg_H} {off : Int} {t : Nat} (hst : (Nat.beq pc sp && Nat.beq u 9999) = false) (c : ab_atL u pc (.goto off) 3 = true) (ht : eg_tgt pc off = some t) (n : hs sc sp u o dq K t ls st h) : hs sc sp u o dq K pc ls st h := hl_j (G := eg_jp t) hst c (by simp only [eg_hd, eg_lok, Nat.beq_refl, eg_hd0, ht, Option.map]) rfl n
/-! the law's locals -/
def lg_ls : List (Nat × ab_A) := [(0, .inr 1), (1, .inr 2), (2, .inr 184), (3, .inr 206), (4, .inl (2, .ofNat 0))]
def lg_L (ls : eg_L) (i : Int) : Prop := eg_find 0 ls = some (.float 1) ∧ eg_find 1 ls = some (.ref 0) ∧ eg_find 2 ls = some (.ref 182) ∧ eg_find 3 ls = some (.ref 204) ∧ ∃ x : Int32, eg_find 4 ls = some (.int x) ∧ x.toInt = i
theorem lg_scr {sc : List Value} (hsc : ab_osc sc) {i : Int} (h0 : 0 ≤ i) (h1 : i + 6 ≤ sc.length) {xi : Int32} (hxi : xi.toInt = i) (hL : sc.length ≤ 3072) : ∃ (k : Nat) (x : Int32), (xi + Int32.ofInt 1).toInt = (k : Int) ∧ eg_nth sc k = some (.int x) := by
  obtain ⟨j, hj⟩ : ∃ j : Nat, xi.toInt = (j : Int) := ⟨xi.toInt.toNat, by omega⟩
  have hlt : j + 1 < sc.length := by omega
  have hk0 : eg_nth sc (j + 1) = some sc[j + 1] := by rw [eg_nth_eq, List.getElem?_eq_getElem hlt]
  obtain ⟨x, hx⟩ := hsc.1 _ _ hk0
  rw [hx] at hk0
  exact ⟨j + 1, x, (i32_add hj (b := 1) rfl (by omega) (by omega)).trans (by omega), hk0⟩
theorem hl_1 {sc : List Value} (hsc : ab_osc sc) (hL : sc.length ≤ 3072) {d : Nat} {i : Int} (h0 : 0 ≤ i) (h1 : i + 6 ≤ sc.length) {ls : eg_L} {h : eg_H} (hl : lg_L ls i) (hp : ab_hp h) (hj : jj h) : hs sc 1292 9999 12 (d + 14 + 1) (fun pc' ls' st' h' => pc' = 1292 ∧ ls' = ls ∧ st' = [] ∧ ab_hp h' ∧ jj h') 297 ls [] h := by
  obtain ⟨l0, l1, l2, l3, xi, l4, hxi⟩ := hl
  obtain ⟨k, x, ei, hk0⟩ := lg_scr hsc h0 h1 hxi hL
  refine hl_ld rfl cl_297 rfl l1 rfl ?_
  refine hl_ld rfl cl_298 rfl l0 rfl ?_
  refine hl_ld rfl cl_299 rfl l4 rfl ?_
  refine hl_iconst rfl cl_301 ?_
  refine hl_iadd rfl cl_302 ?_
  refine hl_scr rfl cl_303 ei hk0 ?_
  refine hl_call (np := 1) rfl cl_304 rfl rfl (by decide +kernel) rfl (ck_ob_v hp.1 (by decide +kernel) _ _) (by rw [ml_enX]; rfl) (c_enX x hp) ?_
  rintro v9 h2 ⟨hp2, f2, r1, e8, a0, a1⟩
  rw [e8]
  clear e8 v9
  simp only [Option.toList, List.cons_append, List.nil_append]
  refine hl_pop rfl cl_307 rfl ?_
  refine hl_ld rfl cl_308 rfl l2 rfl ?_
  refine hl_ld rfl cl_309 rfl l0 rfl ?_
  refine hl_ld rfl cl_310 rfl l4 rfl ?_
  refine hl_iconst rfl cl_312 ?_
  refine hl_iadd rfl cl_313 ?_
  refine hl_scr rfl cl_314 ei hk0 ?_
  refine hl_call (np := 1) rfl cl_315 rfl rfl (by decide +kernel) rfl (ck_ob_v hp2.1 (by decide +kernel) _ _) (by rw [ml_enM]; rfl) (c_enM x hp2) ?_
  rintro v9 h3 ⟨hp3, f3, r2, e8, b0, b1⟩
  rw [e8]
  clear e8 v9
  simp only [Option.toList, List.cons_append, List.nil_append]
  refine hl_pop rfl cl_318 rfl ?_
  refine hl_goto (t := 1292) rfl cl_319 rfl ?_
  have q1 := hv_fr f3 (a := 1) (k := 1) (by decide +kernel)
  have q2 := hv_fr f2 (a := 182) (k := 2) (by decide +kernel)
  have hj : hv h 1 1 = hv h 182 2 := hj
  refine hs_k ⟨rfl, rfl, rfl, hp3, Int32.toInt_inj.mp ?_⟩
  rw [q1, a1, b1, q2, hj]
theorem hl_35 {sc : List Value} (hsc : ab_osc sc) (hL : sc.length ≤ 3072) {d : Nat} {i : Int} (h0 : 0 ≤ i) (h1 : i + 6 ≤ sc.length) {ls : eg_L} {h : eg_H} (hl : lg_L ls i) (hp : ab_hp h) (hj : jj h) : hs sc 1292 9999 12 (d + 14 + 1) (fun pc' ls' st' h' => pc' = 1292 ∧ ls' = ls ∧ st' = [] ∧ ab_hp h' ∧ jj h') 1129 ls [] h := by
  obtain ⟨l0, l1, l2, l3, xi, l4, hxi⟩ := hl
  obtain ⟨k, x, ei, hk0⟩ := lg_scr hsc h0 h1 hxi hL
  refine hl_ld rfl cl_1129 rfl l1 rfl ?_
  refine hl_ld rfl cl_1130 rfl l0 rfl ?_
  refine hl_ld rfl cl_1131 rfl l4 rfl ?_
  refine hl_iconst rfl cl_1133 ?_
  refine hl_iadd rfl cl_1134 ?_
  refine hl_scr rfl cl_1135 ei hk0 ?_
  refine hl_call (np := 1) rfl cl_1136 rfl rfl (by decide +kernel) rfl (ck_ob_v hp.1 (by decide +kernel) _ _) (by rw [ml_bkX]; rfl) (c_bkX hsc x hp) ?_
  rintro v9 h2 ⟨hp2, f2, ⟨r1, e8⟩, a1⟩
  rw [e8]
  clear e8 v9
  simp only [Option.toList, List.cons_append, List.nil_append]
  refine hl_pop rfl cl_1139 rfl ?_
  refine hl_ld rfl cl_1140 rfl l2 rfl ?_
  refine hl_ld rfl cl_1141 rfl l0 rfl ?_
  refine hl_ld rfl cl_1142 rfl l4 rfl ?_
  refine hl_iconst rfl cl_1144 ?_
  refine hl_iadd rfl cl_1145 ?_
  refine hl_scr rfl cl_1146 ei hk0 ?_
  refine hl_call (np := 1) rfl cl_1147 rfl rfl (by decide +kernel) rfl (ck_ob_v hp2.1 (by decide +kernel) _ _) (by rw [ml_bkM]; rfl) (c_bkM hsc x hp2) ?_
  rintro v9 h3 ⟨hp3, f3, ⟨r2, e8⟩, b1⟩
  rw [e8]
  clear e8 v9
  simp only [Option.toList, List.cons_append, List.nil_append]
  refine hl_pop rfl cl_1150 rfl ?_
  refine hl_goto (t := 1292) rfl cl_1151 rfl ?_
  have q1 := hv_fr f3 (a := 1) (k := 1) (by decide +kernel)
  have q2 := hv_fr f2 (a := 182) (k := 2) (by decide +kernel)
  have hj : hv h 1 1 = hv h 182 2 := hj
  refine hs_k ⟨rfl, rfl, rfl, hp3, Int32.toInt_inj.mp ?_⟩
  rw [q1, a1, b1, q2, hj]
