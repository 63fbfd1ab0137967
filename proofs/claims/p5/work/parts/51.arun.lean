/-! the run over intervals tells what the engine comes to -/
theorem ab_fr.tr {M : ab_M} {h h1 h2 : eg_H} (a : ab_fr M h2 h1) (b : ab_fr M h1 h) : ab_fr M h2 h := fun x k hk => (a x k hk).trans (b x k hk)
theorem ab_co.pre {sc : List Value} {sp : Nat} {M : ab_M} {u o dq pc pc1 : Nat} {ν ν1 : Nat → Int} {n n1 : Nat} {ls ls1 : eg_L} {st st1 : List Value} {h h1 : eg_H} {L : List (Nat × ab_S)} (hR : ab_Re sc sp u o dq pc ls st h pc1 ls1 st1 h1) (hx : ab_ext ν ν1 n) (hn : n ≤ n1) (hf : ab_fr M h1 h) (hc : ab_co sc sp M u o dq pc1 ν1 n1 ls1 st1 h1 L) : ab_co sc sp M u o dq pc ν n ls st h L := by
  obtain ⟨e, he, ν', ls', st', h', g1, g2, g3, g4, g5⟩ := hc
  exact ⟨e, he, ν', ls', st', h', g1, hx.tr g2 hn, Nat.le_trans hn g3, g4.tr hf, hR.tr g5⟩
theorem ab_co.sub {sc : List Value} {sp : Nat} {M : ab_M} {u o dq pc : Nat} {ν : Nat → Int} {n : Nat} {ls : eg_L} {st : List Value} {h : eg_H} {L L2 : List (Nat × ab_S)} (hc : ab_co sc sp M u o dq pc ν n ls st h L) (hs : ∀ e ∈ L, e ∈ L2) : ab_co sc sp M u o dq pc ν n ls st h L2 := by
  obtain ⟨e, he, r⟩ := hc
  exact ⟨e, hs e he, r⟩
/-- what a run says -/
def ab_So (sc : List Value) (sp : Nat) (M : ab_M) (n0 : Nat) (ν0 : Nat → Int) (f : ab_F) : Prop := ∀ (u o dp pc : Nat) (cs : eg_W) (σ : ab_S) (L : List (Nat × ab_S)), f u o dp pc cs σ = some L → cs = eg_seek pc (eg_pg u) → ∀ dq, dp ≤ dq → ∀ (ν : Nat → Int) (ls : eg_L) (st : List Value) (h : eg_H), ab_r sc.length ν σ ls st h → n0 ≤ σ.1 → ab_ext ν0 ν n0 → ab_co sc sp M u o dq pc ν σ.1 ls st h L
def ab_ordok : Prop := ∀ u, eg_ord (eg_pg u) = true
theorem eg_seek_hd {t p : Nat} {i : Instr} {n : Nat} {l cs : eg_W} (h : eg_seek t l = (p, i, n) :: cs) : p = t := by
  induction l with
  | nil => cases h
  | cons x l ih =>
    obtain ⟨a, b, c⟩ := x
    unfold eg_seek at h
    cases hb : Nat.beq a t with
    | true =>
      rw [hb] at h
      cases h
      exact Nat.eq_of_beq_eq_true hb
    | false =>
      rw [hb] at h
      exact ih h
/-- the engine doesn't stop there -/
theorem ab_stp_v {lw : Option Nat} {sp u p : Nat} (hlw : lw = none ∨ lw = some sp) (h : ab_stp lw u p = false) : (Nat.beq p sp && Nat.beq u 9999) = false := by
  unfold ab_stp at h
  cases hu : Nat.beq u 9999 with
  | false => rw [Bool.and_false]
  | true =>
    rw [hu] at h
    rcases hlw with rfl | rfl
    · cases h
    · simp only [Bool.true_and] at h
      rw [h]; rfl
theorem ab_hq_v (ho : ab_ordok) {u p : Nat} {i : Instr} {n q : Nat} {cs : eg_W} (h : eg_seek p (eg_pg u) = (p, i, n) :: cs) (hq : ab_hq cs q = true) : cs = eg_seek q (eg_pg u) := by
  match cs, h, hq with
  | (a, j, m) :: cs, h, hq =>
    obtain rfl := Nat.eq_of_beq_eq_true (show Nat.beq a q = true from hq)
    exact (eg_seek_tail (ho u) h).symm
  | [], _, hq => cases hq
/-- one instruction -/
theorem ab_Re_step {sc : List Value} {sp : Nat} {u o dq pc : Nat} {ls ls' : eg_L} {st st' : List Value} {h h' : eg_H} {i : Instr} {len t : Nat} {cs : eg_W} {G : eg_O} (hs : eg_seek pc (eg_pg u) = (pc, i, len) :: cs) (hst : (Nat.beq pc sp && Nat.beq u 9999) = false) (hG : eg_hd [] sc u o pc i len = some G) (hg : G ls st 999 h 0 0 = some (t, ls', st', 999, h', 0, 0)) {pc1 : Nat} (hpc : (t = 0 ∧ pc1 = pc + len ∧ cs = eg_seek (pc + len) (eg_pg u)) ∨ t = pc1 + 1) : ab_Re sc sp u o dq pc ls st h pc1 ls' st' h' := by
  intro r hr
  obtain ⟨n, hn⟩ := hr
  refine ⟨n + 1, ?_⟩
  show eg_step [] sc 9999 sp (eg_run [] sc 9999 sp n) u o dq 0 0 pc (eg_seek pc (eg_pg u)) ls st 999 h = some r
  rw [hs]
  simp only [eg_step, Nat.beq_refl, hst, hG, hg]
  rcases hpc with ⟨rfl, rfl, hc⟩ | rfl
  · simp only
    rw [hc]
    exact hn
  · simp only
    exact hn
/-- the return at a place -/
theorem ab_ret_v {sc : List Value} {sp : Nat} {u o dq pc ik : Nat} {ls : eg_L} {st : List Value} {h : eg_H} (hu : Nat.beq u 9999 = false) (hr : ab_ret u pc = some ik) : ab_Ev sc sp u o dq pc ls st h (ik, pc, ls, st, 999, h) := by
  unfold ab_ret at hr
  split at hr
  next p i len cs hs =>
    obtain rfl := eg_seek_hd hs
    split at hr
    next ik' k hk =>
      cases hb : Nat.ble 3 ik' with
      | false => rw [hb] at hr; cases hr
      | true =>
        rw [hb] at hr
        cases hr
        refine ⟨1, ?_⟩
        show eg_step [] sc 9999 sp (eg_run [] sc 9999 sp 0) u o dq 0 0 p (eg_seek p (eg_pg u)) ls st 999 h = _
        rw [hs]
        have hhd : eg_hd [] sc u o p i len = none := by
          unfold eg_ks at hk
          unfold eg_hd
          cases hl : eg_lok i len with
          | false => rfl
          | true =>
            rw [hl] at hk
            simp only at hk ⊢
            cases i with
            | invokevirtual j => cases hk; cases hb
            | invokespecial j => cases hk; cases hb
            | invokestatic j => cases hk; cases hb
            | ireturn => rfl
            | lreturn => rfl
            | return_ => rfl
            | _ => cases (show (none : Option (Nat × Nat)) = some (ik, k) from hk)
        simp only [eg_step, Nat.beq_refl, hu, Bool.and_false, hhd, hk, hb]
    next => cases hr
  next => cases hr
theorem ab_pops_ok {ν : Nat → Int} {n : Nat} (m : Nat) : ∀ (sa acc as sa2 : List ab_A) (st ac : List Value), ab_pops m sa acc = some (as, sa2) → ab_vs ν n sa st → ab_vs ν n acc ac → ∃ asC st2, eg_pop m st ac = some (asC, st2) ∧ ab_vs ν n as asC ∧ ab_vs ν n sa2 st2 := by
  induction m with
  | zero =>
    intro sa acc as sa2 st ac h hs ha
    cases h
    exact ⟨ac, st, rfl, ha, hs⟩
  | succ m ih =>
    intro sa acc as sa2 st ac h hs ha
    match sa, hs, h with
    | [], _, h => cases h
    | A :: sa, ⟨v, t, e, hv, ht⟩, h =>
      subst e
      obtain ⟨asC, st2, g1, g2, g3⟩ := ih sa (A :: acc) as sa2 t (v :: ac) h ht ⟨v, ac, rfl, hv, ha⟩
      exact ⟨asC, st2, g1, g2, g3⟩
theorem ab_cat_ok {ν : Nat → Int} {n : Nat} (l : List ab_A) : ∀ st : List Value, ab_vs ν n l st → eg_cat st = ab_cat l := by
  induction l with
  | nil =>
    intro st h
    rw [show st = [] from h]
    rfl
  | cons A l ih =>
    intro st h
    obtain ⟨v, t, rfl, hv, ht⟩ := h
    simp only [eg_cat, ab_cat]
    rw [ih t ht, (ab_is1_c hv).2]
theorem ab_args_lt (l : List ab_A) : ∀ (i : Nat) (k : Nat) (A : ab_A), (k, A) ∈ ab_args i l → i ≤ k := by
  induction l with
  | nil => intro i k A h; cases h
  | cons B l ih =>
    intro i k A h
    rcases List.mem_cons.mp h with e | e
    · cases e; exact Nat.le_refl _
    · have := ih _ k A e
      cases hb : ab_is1 B with
      | true => rw [hb] at this; simp only [cond_true] at this; omega
      | false => rw [hb] at this; simp only [cond_false] at this; omega
theorem ab_args_ok {ν : Nat → Int} {n : Nat} (l : List ab_A) : ∀ (i : Nat) (st : List Value), ab_vs ν n l st → ab_vl ν n (ab_args i l) (eg_args i st) := by
  induction l with
  | nil => intro i st h k A hm; cases hm
  | cons B l ih =>
    intro i st h k A hm
    obtain ⟨v, t, rfl, hv, ht⟩ := h
    have hc := (ab_is1_c hv).2
    have e9 : (bif Nat.beq v.category 2 then i + 2 else i + 1) = (bif ab_is1 B then i + 1 else i + 2) := by
      rw [hc]
      cases ab_is1 B <;> rfl
    simp only [eg_args]
    rw [ab_find_cons, e9]
    rcases List.mem_cons.mp hm with e | e
    · cases e
      rw [if_pos rfl]
      exact ⟨v, rfl, hv⟩
    · have h1 := ab_args_lt l _ k A e
      rw [if_neg]
      · exact ih _ t ht k A e
      · intro e2
        cases hb : ab_is1 B with
        | true => rw [hb] at h1; simp only [cond_true] at h1; omega
        | false => rw [hb] at h1; simp only [cond_false] at h1; omega
theorem ab_rcv_ok {ν : Nat → Int} {n kind o' : Nat} {as sa as2 sa2 : List ab_A} {ac st : List Value} {h : eg_H} (hh : ab_hp h) (hr : ab_rcv kind o' as sa = some (as2, sa2)) (ha : ab_vs ν n as ac) (hs : ab_vs ν n sa st) : ∃ ac2 st2, eg_rcv kind o' h ac st = some (ac2, st2) ∧ ab_vs ν n as2 ac2 ∧ ab_vs ν n sa2 st2 ∧ (kind = 0 ∨ kind = 2) := by
  unfold ab_rcv at hr
  split at hr
  · split at hr
    next a sa1 =>
      obtain ⟨_, t, rfl, hv, ht⟩ := hs
      obtain rfl : _ = Value.ref a := hv
      split at hr
      next tag rg hg =>
        cases hb : Nat.beq tag (100 + o') with
        | false => rw [hb] at hr; cases hr
        | true =>
          rw [hb] at hr
          cases hr
          obtain rfl := Nat.eq_of_beq_eq_true hb
          obtain ⟨⟨xs, h1, -⟩, -⟩ := hh.1 a _ hg
          have h6 := ab_sh_obj h1
          exact ⟨.ref a :: ac, t, by simp only [eg_rcv, eg_obj, h6, Nat.beq_refl, cond_true], ⟨_, _, rfl, rfl, ha⟩, ht, Or.inl rfl⟩
      next => cases hr
    next => cases hr
  · cases hr
    exact ⟨ac, st, rfl, ha, hs, Or.inr rfl⟩
  · cases hr
theorem ab_rv_ok {ν : Nat → Int} {n ik : Nat} {r : Option FieldType} {en : ab_E} {sa v : List ab_A} {st : List Value} (he : ab_e ν n en) (h0 : ν 0 = 0) (hs : ab_vs ν n sa st) (h : ab_rv r ik en sa = some v) : ∃ vo : Option Value, eg_rv r ik st = some vo ∧ ab_vs ν n v vo.toList := by
  unfold ab_rv at h
  split at h
  · split at h
    next j d =>
      obtain ⟨x, t, rfl, hx, ht⟩ := ab_top1 hs
      obtain rfl : t = [] := ht
      split at h
      next =>
        cases h
        exact ⟨some (.int x), rfl, ⟨_, _, rfl, ⟨x, rfl, hx.1, hx.2⟩, rfl⟩⟩
      next =>
        have hi := ab_iv_v he h0 hx.2
        generalize hq : ab_iv en j d = q at h hi
        obtain ⟨lo, hi2⟩ := q
        simp only at h hi
        cases hc : (decide (0 ≤ lo) && decide (hi2 ≤ 1)) with
        | false => rw [hc] at h; cases h
        | true =>
          rw [hc] at h
          cases h
          simp only [Bool.and_eq_true, decide_eq_true_eq] at hc
          have : x.toInt = 0 ∨ x.toInt = 1 := by omega
          refine ⟨some (.int x), ?_, ⟨_, _, rfl, ⟨x, rfl, hx.1, hx.2⟩, rfl⟩⟩
          rcases this with e | e
          · obtain rfl : x = 0 := Int32.toInt_inj.mp (by rw [e]; rfl)
            rfl
          · obtain rfl : x = 1 := Int32.toInt_inj.mp (by rw [e]; rfl)
            rfl
      next => cases h
    next => cases h
  · split at h
    next =>
      obtain ⟨_, t, rfl, ⟨x, rfl⟩, ht⟩ := hs
      obtain rfl : t = [] := ht
      split at h
      next =>
        cases h
        exact ⟨some (.long x), rfl, ⟨_, _, rfl, ⟨x, rfl⟩, rfl⟩⟩
      next => cases h
    next => cases h
  · split at h
    next =>
      obtain rfl : st = [] := hs
      split at h
      next =>
        cases h
        exact ⟨none, rfl, rfl⟩
      next => cases h
    next => cases h
  · cases h
theorem ab_vs_app {ν : Nat → Int} {n : Nat} (l : List ab_A) : ∀ (k : List ab_A) (s t : List Value), ab_vs ν n l s → ab_vs ν n k t → ab_vs ν n (ab_app l k) (s ++ t) := by
  induction l with
  | nil =>
    intro k s t hs ht
    rw [show s = [] from hs]
    exact ht
  | cons A l ih =>
    intro k s t hs ht
    obtain ⟨v, s2, rfl, hv, hs2⟩ := hs
    exact ⟨v, s2 ++ t, rfl, hv, ih k s2 t hs2 ht⟩
/-- a call, with steps enough for both -/
theorem ab_Re_call {sc : List Value} {sp : Nat} {u o dq pc : Nat} {ls : eg_L} {st : List Value} {h : eg_H} {i : Instr} {cs : eg_W} {ik k : Nat} (hs : eg_seek pc (eg_pg u) = (pc, i, 3) :: cs) (hst : (Nat.beq pc sp && Nat.beq u 9999) = false) (hG : eg_hd [] sc u o pc i 3 = none) (hk : eg_ks i 3 = some (ik, k)) (hik : Nat.ble 3 ik = false) {r : eg_R} (hr : ∃ n, eg_call 9999 (eg_run [] sc 9999 sp n) u o dq 0 0 pc cs ls st 999 h ik k = some r) : ab_Ev sc sp u o dq pc ls st h r := by
  obtain ⟨n, hn⟩ := hr
  refine ⟨n + 1, ?_⟩
  show eg_step [] sc 9999 sp (eg_run [] sc 9999 sp n) u o dq 0 0 pc (eg_seek pc (eg_pg u)) ls st 999 h = some r
  rw [hs]
  simp only [eg_step, Nat.beq_refl, hst, hG, hk, hik]
  exact hn
set_option maxHeartbeats 2000000 in
theorem ab_call_ok {sc : List Value} {sp : Nat} {M : ab_M} {n0 : Nat} {ν0 : Nat → Int} {f : ab_F} (hf : ab_So sc sp M n0 ν0 f) (hord : ab_ordok) {u o dp pc : Nat} {cs : eg_W} {σ : ab_S} {ik k : Nat} {i : Instr} {L : List (Nat × ab_S)} (hc : ab_call f u o dp pc cs σ ik k = some L) (hs : eg_seek pc (eg_pg u) = (pc, i, 3) :: cs) (hst : (Nat.beq pc sp && Nat.beq u 9999) = false) (hG : eg_hd [] sc u o pc i 3 = none) (hk : eg_ks i 3 = some (ik, k)) (hik : Nat.ble 3 ik = false) {dq : Nat} (hd : dp ≤ dq) {ν : Nat → Int} {ls : eg_L} {st : List Value} {h : eg_H} (hr : ab_r sc.length ν σ ls st h) (hn0 : n0 ≤ σ.1) (hx0 : ab_ext ν0 ν n0) : ab_co sc sp M u o dq pc ν σ.1 ls st h L := by
  obtain ⟨n, en, la, sa, ov⟩ := σ
  obtain ⟨hb, he, hl, hsk, ho, hh⟩ := id hr
  have h0 : ν 0 = 0 := hb.2.1
  simp only [ab_call] at hc
  cases hq : ab_hq cs (pc + 3) with
  | false => rw [hq] at hc; cases hc
  | true =>
    rw [hq] at hc
    simp only [cond_true] at hc
    have hcs := ab_hq_v hord hs hq
    cases ha : eg_at o eg_cx k with
    | none => rw [ha] at hc; cases hc
    | some en0 =>
      obtain ⟨kind, pl, mu, o', np, pa, pb, pi⟩ := en0
      rw [ha] at hc
      simp only at hc
      cases hk4 : Nat.ble 4 kind with
      | true =>
        rw [hk4] at hc
        simp only at hc
        cases hcond : (Nat.ble 1 dp && Nat.ble (ab_cat sa) 8 && Nat.beq ik 2) with
        | false => rw [hcond] at hc; cases hc
        | true =>
          rw [hcond] at hc
          simp only [cond_true] at hc
          have c1 := Bool.and_eq_true_iff.mp hcond
          have c2 := Bool.and_eq_true_iff.mp c1.1
          have hdq : Nat.ble 1 dq = true := Nat.ble_eq.mpr (Nat.le_trans (Nat.le_of_ble_eq_true c2.1) hd)
          have hcat : Nat.ble (eg_cat st) 8 = true := by rw [ab_cat_ok sa st hsk]; exact c2.2
          obtain rfl := Nat.eq_of_beq_eq_true c1.2
          have fin : ∀ (x : Int32) (lo hi : Int) (sa2 : List ab_A) (st2 : List Value), ab_vs ν n sa2 st2 → lo ≤ x.toInt → x.toInt ≤ hi → f u o dp (pc + 3) cs (ab_fresh (n, en, la, sa, ov) lo hi sa2) = some L → (∀ r, ab_Ev sc sp u o dq (pc + 3) ls (.int x :: st2) h r → ab_Ev sc sp u o dq pc ls st h r) → ab_co sc sp M u o dq pc ν n ls st h L := fun x lo hi sa2 st2 hs2 h1 h2 h3 h4 => by
            have hx := ab_upd_ext (ν := ν) (n := n) (x := x.toInt)
            simp only [ab_fresh, ab_fi_eq] at h3
            refine ab_co.pre (pc1 := pc + 3) (ν1 := ab_upd ν n x.toInt) (n1 := n + 1) h4 hx (Nat.le_succ n) ab_fr.rf ?_
            refine hf u o dp (pc + 3) cs _ L h3 hcs dq hd (ab_upd ν n x.toInt) ls _ h ⟨ab_base hb hx (Nat.le_succ n), (he.up hx (Nat.le_succ n)).cons (ab_upd_be h1 h2), hl.up hx (Nat.le_succ n), ⟨_, _, rfl, ⟨x, rfl, Nat.lt_succ_self n, ?_⟩, hs2.up hx (Nat.le_succ n)⟩, ho.up hx (Nat.le_succ n), hh⟩ (by simp only at hn0 ⊢; omega) (hx0.tr hx hn0)
            show x.toInt = ab_upd ν n x.toInt n + 0
            rw [ab_upd_n]; omega
          split at hc
          · split at hc
            next sa j2 d2 j1 d1 sa2 =>
              obtain ⟨x, y, t, rfl, hy, hx, ht⟩ := ab_top2 hsk
              have ix := ab_iv_v (en := en) he h0 hx.2
              have iy := ab_iv_v (en := en) he h0 hy.2
              refine fin (if y < x then y else x) _ _ sa2 t ht ?_ ?_ hc (fun r hr => ab_Re_call hs hst hG hk hik ?_)
              · have a1 := (ab_lmin_v (ab_iv en j1 d1).1 (ab_iv en j2 d2).1).1
                have a2 := (ab_lmin_v (ab_iv en j1 d1).1 (ab_iv en j2 d2).1).2
                split <;> omega
              · rcases ab_lmin_u (ab_iv en j1 d1).2 (ab_iv en j2 d2).2 with e | e <;> rw [e]
                · split
                  next hlt => have := Int32.lt_iff_toInt_lt.mp hlt; omega
                  next => omega
                · split
                  next => omega
                  next hlt => have := Int32.le_iff_toInt_le.mp (Int32.not_lt.mp hlt); omega
              · obtain ⟨m, hm⟩ := hr
                refine ⟨m, ?_⟩
                rw [← hcs] at hm
                simp only [eg_call, ha, hk4, hdq, hcat, Bool.and_self, cond_true, eg_ni_e]
                exact hm
            next => cases hc
          · split at hc
            next sa j2 d2 j1 d1 sa2 =>
              obtain ⟨x, y, t, rfl, hy, hx, ht⟩ := ab_top2 hsk
              have ix := ab_iv_v (en := en) he h0 hx.2
              have iy := ab_iv_v (en := en) he h0 hy.2
              refine fin (if x < y then y else x) _ _ sa2 t ht ?_ ?_ hc (fun r hr => ab_Re_call hs hst hG hk hik ?_)
              · rcases ab_lmax_u (ab_iv en j1 d1).1 (ab_iv en j2 d2).1 with e | e <;> rw [e]
                · split
                  next hlt => have := Int32.lt_iff_toInt_lt.mp hlt; omega
                  next => omega
                · split
                  next => omega
                  next hlt => have := Int32.le_iff_toInt_le.mp (Int32.not_lt.mp hlt); omega
              · have a1 := (ab_lmax_v (ab_iv en j1 d1).2 (ab_iv en j2 d2).2).1
                have a2 := (ab_lmax_v (ab_iv en j1 d1).2 (ab_iv en j2 d2).2).2
                split <;> omega
              · obtain ⟨m, hm⟩ := hr
                refine ⟨m, ?_⟩
                rw [← hcs] at hm
                simp only [eg_call, ha, hk4, hdq, hcat, Bool.and_self, cond_true, eg_ni_e]
                exact hm
            next => cases hc
          · split at hc
            next sa q1 sa2 =>
              obtain ⟨_, t, rfl, ⟨x, rfl, hx1, hx2⟩, ht⟩ := hsk
              refine fin (if 0 ≤ x then x else 0 - x) _ _ sa2 t ht (ab_inn_full _).1 (ab_inn_full _).2 hc (fun r hr => ab_Re_call hs hst hG hk hik ?_)
              obtain ⟨m, hm⟩ := hr
              refine ⟨m, ?_⟩
              rw [← hcs] at hm
              simp only [eg_call, ha, hk4, hdq, hcat, Bool.and_self, cond_true, eg_ni_e]
              exact hm
            next => cases hc
          · cases hc
      | false =>
        rw [hk4] at hc
        simp only at hc
        cases hkk : Nat.beq ik kind with
        | false => rw [hkk] at hc; cases hc
        | true =>
          rw [hkk] at hc
          simp only [cond_true] at hc
          cases hpp : ab_pops np sa [] with
          | none => rw [hpp] at hc; cases hc
          | some q =>
            obtain ⟨as1, sa1⟩ := q
            rw [hpp] at hc
            simp only at hc
            obtain ⟨ac1, st1, p1, p2, p3⟩ := ab_pops_ok np sa [] as1 sa1 st [] hpp hsk rfl
            cases hrc : ab_rcv kind o' as1 sa1 with
            | none => rw [hrc] at hc; cases hc
            | some q =>
              obtain ⟨as2, sa2⟩ := q
              rw [hrc] at hc
              simp only at hc
              obtain ⟨ac2, st2, r1, r2, r3, r4⟩ := ab_rcv_ok hh hrc p2 p3
              cases dp with
              | zero => cases hc
              | succ dm =>
                simp only at hc
                obtain ⟨d, rfl⟩ : ∃ d, dq = d + 1 := ⟨dq - 1, by omega⟩
                cases hcc : (!(Nat.beq mu 9999) && Nat.ble (ab_cat sa2) 8 && Nat.ble (ab_cat as2) (eg_md mu).2.2.1 && Nat.ble (eg_bud mu).1 0 && Nat.ble (eg_bud mu).2 0) with
                | false => rw [hcc] at hc; cases hc
                | true =>
                  rw [hcc] at hc
                  simp only [cond_true] at hc
                  have hcc2 : (!(Nat.beq mu 9999) && Nat.ble (eg_cat st2) 8 && Nat.ble (eg_cat ac2) (eg_md mu).2.2.1 && Nat.ble (eg_bud mu).1 0 && Nat.ble (eg_bud mu).2 0) = true := by
                    rw [ab_cat_ok _ _ r3, ab_cat_ok _ _ r2]; exact hcc
                  have hmu : Nat.beq mu 9999 = false := by
                    have c1 := (Bool.and_eq_true_iff.mp (Bool.and_eq_true_iff.mp (Bool.and_eq_true_iff.mp (Bool.and_eq_true_iff.mp hcc).1).1).1).1
                    cases hm : Nat.beq mu 9999 with
                    | false => rfl
                    | true => rw [hm] at c1; cases c1
                  have hb1 : (eg_bud mu).1 = 0 ∧ (eg_bud mu).2 = 0 := by
                    have c1 := Bool.and_eq_true_iff.mp hcc
                    have c2 := Bool.and_eq_true_iff.mp c1.1
                    exact ⟨Nat.le_zero.mp (Nat.le_of_ble_eq_true c2.2), Nat.le_zero.mp (Nat.le_of_ble_eq_true c1.2)⟩
                  split at hc
                  next => cases hc
                  next p0 i0 l0 cs0 hpg =>
                    split at hc
                    next => cases hc
                    next hp0 =>
                      obtain rfl := Nat.eq_of_beq_eq_true hp0
                      have hpg0 : (0, i0, l0) :: cs0 = eg_seek 0 (eg_pg mu) := by
                        rw [hpg]
                        unfold eg_seek
                        rw [Nat.beq_refl]
                      split at hc
                      next => cases hc
                      next Lc hcall =>
                        obtain ⟨e, hem, ν', ls', st', h', g1, g2, g3, g4, g5⟩ := hf mu o' dm 0 _ _ Lc hcall hpg0 d (by omega) ν (eg_args 0 ac2) [] h ⟨hb, he, ab_args_ok as2 0 ac2 r2, rfl, ho, hh⟩ hn0 hx0
                        obtain ⟨x, hx1, hx2⟩ := ab_cc_ok hc hem
                        split at hx1
                        next => cases hx1
                        next ir hir =>
                          split at hx1
                          next => cases hx1
                          next v hv =>
                            obtain ⟨vo, v1, v2⟩ := ab_rv_ok g1.2.1 g1.1.2.1 g1.2.2.2.1 hv
                            have hco := hf u o (dm + 1) (pc + 3) cs _ x hx1 hcs (d + 1) hd ν' ls (vo.toList ++ st2) h' ⟨g1.1, g1.2.1, hl.up g2 g3, ab_vs_app _ _ _ _ v2 (r3.up g2 g3), g1.2.2.2.2.1, g1.2.2.2.2.2⟩ (Nat.le_trans hn0 g3) (hx0.tr g2 hn0)
                            refine (ab_co.pre ?_ g2 g3 g4 hco).sub hx2
                            intro r hr
                            refine ab_Re_call hs hst hG hk hik ?_
                            obtain ⟨m1, hm1⟩ := g5 _ (ab_ret_v hmu hir)
                            obtain ⟨m2, hm2⟩ := hr
                            rw [← hcs] at hm2
                            refine ⟨m1 + m2, ?_⟩
                            have w1 := eg_run_mo (Nat.le_add_right m1 m2) _ _ _ _ _ _ _ _ _ _ _ _ hm1
                            have w2 := eg_run_mo (Nat.le_add_left m2 m1) _ _ _ _ _ _ _ _ _ _ _ _ hm2
                            rw [← hpg0, ← hpg] at w1
                            have hkb : (bif Nat.beq kind 3 then Nat.beq ik 1 else Nat.beq ik kind) = true := by
                              rcases r4 with rfl | rfl <;> exact hkk
                            have hk13 : (Nat.beq kind 1 || Nat.beq kind 3) = false := by
                              rcases r4 with rfl | rfl <;> rfl
                            rw [hb1.1, hb1.2] at hcc2
                            simp only [eg_call, ha, hk4, hkb, cond_true, p1, r1, hcc2, hb1.1, hb1.2, w1, v1]
                            cases vo with
                            | none => exact w2
                            | some z =>
                              simp only [hk13, cond_false]
                              exact w2
set_option maxHeartbeats 1000000 in
theorem ab_one_ok {sc : List Value} {sp : Nat} {M : ab_M} {n0 : Nat} {ν0 : Nat → Int} (hsc : ∀ k v, eg_nth sc k = some v → ∃ x : Int32, v = .int x) (hlen : sc.length < 2 ^ 31) (hord : ab_ordok) {lw : Option Nat} (hlw : lw = none ∨ lw = some sp) {f : ab_F} (hf : ab_So sc sp M n0 ν0 f) : ab_So sc sp M n0 ν0 (ab_one lw M f) := by
  intro u o dp pc cs σ L hL hcs dq hd ν ls st h hr hn0 hx0
  unfold ab_one at hL
  split at hL
  · cases hL
  next p i len cs2 =>
    obtain rfl := eg_seek_hd hcs.symm
    have hs := hcs.symm
    rw [Nat.beq_refl] at hL
    simp only at hL
    cases hsp : ab_stp lw u p with
    | true => rw [hsp] at hL; cases hL
    | false =>
    rw [hsp] at hL
    simp only at hL
    have hst := ab_stp_v hlw hsp
    cases hhd : ab_hd M u o p i len with
    | some g =>
      rw [hhd] at hL
      simp only at hL
      obtain ⟨G, hG, hok⟩ := ah_hd hsc hlen hhd
      cases hg : g σ with
      | none => rw [hg] at hL; cases hL
      | some K =>
        rw [hg] at hL
        simp only at hL
        obtain ⟨t, σ', ν', ls', st', h', k1, k2, k3, k4, k5, k6⟩ := hok ν σ K ls st h hr hg
        obtain ⟨x, x1, x2⟩ := ab_cc_ok hL k1
        cases t with
        | zero =>
          simp only at x1
          cases hq : ab_hq cs2 (p + len) with
          | false => rw [hq] at x1; cases x1
          | true =>
            rw [hq] at x1
            simp only [cond_true] at x1
            have hc2 := ab_hq_v hord hs hq
            exact (ab_co.pre (ab_Re_step hs hst hG k2 (Or.inl ⟨rfl, rfl, hc2⟩)) k4 k5 k6 (hf u o dp (p + len) cs2 σ' x x1 hc2 dq hd ν' ls' st' h' k3 (Nat.le_trans hn0 k5) (hx0.tr k4 hn0))).sub x2
        | succ t =>
          exact (ab_co.pre (ab_Re_step hs hst hG k2 (Or.inr rfl)) k4 k5 k6 (hf u o dp t _ σ' x x1 rfl dq hd ν' ls' st' h' k3 (Nat.le_trans hn0 k5) (hx0.tr k4 hn0))).sub x2
    | none =>
      rw [hhd] at hL
      simp only at hL
      cases hks : eg_ks i len with
      | none => rw [hks] at hL; cases hL
      | some q =>
        obtain ⟨ik, k⟩ := q
        rw [hks] at hL
        simp only at hL
        cases hb3 : Nat.ble 3 ik with
        | true =>
          rw [hb3] at hL
          cases hL
          exact ⟨_, List.mem_cons_self, ν, ls, st, h, hr, ab_ext.rf, Nat.le_refl _, ab_fr.rf, ab_Re.rf⟩
        | false =>
          rw [hb3] at hL
          simp only at hL
          have hlen3 : len = 3 ∧ eg_hd [] sc u o p i len = none := by
            unfold eg_ks at hks
            unfold eg_hd
            cases hl : eg_lok i len with
            | false => rw [hl] at hks; cases hks
            | true =>
              rw [hl] at hks
              simp only at hks ⊢
              cases i with
              | invokevirtual j => exact ⟨Nat.eq_of_beq_eq_true (show Nat.beq len 3 = true from hl), rfl⟩
              | invokespecial j => exact ⟨Nat.eq_of_beq_eq_true (show Nat.beq len 3 = true from hl), rfl⟩
              | invokestatic j => exact ⟨Nat.eq_of_beq_eq_true (show Nat.beq len 3 = true from hl), rfl⟩
              | ireturn => cases hks; cases hb3
              | lreturn => cases hks; cases hb3
              | return_ => cases hks; cases hb3
              | _ => cases (show (none : Option (Nat × Nat)) = some (ik, k) from hks)
          obtain ⟨rfl, hG⟩ := hlen3
          exact ab_call_ok hf hord hL hs hst hG hks hb3 hd hr hn0 hx0
/-- a summary holds -/
def ab_trs (sc : List Value) (sp : Nat) (q : ab_Q) : Prop := (∀ e ∈ q.2.2.2.2.2.2.1, ab_nd e.2.2.1 = true ∧ q.2.2.2.2.1.1 ≤ e.2.1) ∧ 2 ≤ q.2.2.2.2.1.1 ∧ ∀ dq, q.2.2.2.1 ≤ dq → ∀ (ν : Nat → Int) (ls : eg_L) (st : List Value) (h : eg_H), ab_r sc.length ν q.2.2.2.2.1 ls st h → ab_co sc sp q.2.2.2.2.2.1 q.1 q.2.1 dq q.2.2.1 ν q.2.2.2.2.1.1 ls st h q.2.2.2.2.2.2.1
theorem ab_on_ok {sc : List Value} {sp : Nat} {M : ab_M} {n0 : Nat} {ν0 : Nat → Int} {f : ab_F} (hf : ab_So sc sp M n0 ν0 f) {u o dp pc : Nat} {L L2 : List (Nat × ab_S)} (h2 : ab_on f u o dp L = some L2) {dq : Nat} (hd : dp ≤ dq) {ν : Nat → Int} {n : Nat} {ls : eg_L} {st : List Value} {h : eg_H} (hn0 : n0 ≤ n) (hx0 : ab_ext ν0 ν n0) (hc : ab_co sc sp M u o dq pc ν n ls st h L) : ab_co sc sp M u o dq pc ν n ls st h L2 := by
  obtain ⟨e, hem, ν', ls', st', h', g1, g2, g3, g4, g5⟩ := hc
  unfold ab_on at h2
  obtain ⟨x, x1, x2⟩ := ab_cc_ok h2 hem
  split at x1
  · cases x1
    exact ⟨e, x2 e List.mem_cons_self, ν', ls', st', h', g1, g2, g3, g4, g5⟩
  · exact (ab_co.pre g5 g2 g3 g4 (hf u o dp e.1 _ e.2 x x1 rfl dq hd ν' ls' st' h' g1 (Nat.le_trans hn0 g3) (hx0.tr g2 hn0))).sub x2
theorem ab_try_ok {sc : List Value} {sp : Nat} {M : ab_M} {u o pc dp dq : Nat} {σ : ab_S} {T : List ab_Q} (hT : ∀ q ∈ T, ab_trs sc sp q) {L : List (Nat × ab_S)} (h : ab_try M u o pc dp σ T = some L) (hd : dp ≤ dq) {ν : Nat → Int} {ls : eg_L} {st : List Value} {hp : eg_H} (hr : ab_r sc.length ν σ ls st hp) : ab_co sc sp M u o dq pc ν σ.1 ls st hp L := by
  induction T with
  | nil => cases h
  | cons q T ih =>
    have ih := ih (fun x hx => hT x (List.mem_cons_of_mem _ hx))
    unfold ab_try at h
    cases hb : (Nat.beq q.1 u && Nat.beq q.2.2.1 pc && Nat.beq q.2.1 o) with
    | false => rw [hb] at h; exact ih h
    | true =>
      rw [hb] at h
      simp only at h
      have c1 := Bool.and_eq_true_iff.mp hb
      have c2 := Bool.and_eq_true_iff.mp c1.1
      have e1 := Nat.eq_of_beq_eq_true c2.1
      have e2 := Nat.eq_of_beq_eq_true c2.2
      have e3 := Nat.eq_of_beq_eq_true c1.2
      cases hu : ab_use M false q dp σ with
      | none => rw [hu] at h; exact ih h
      | some L2 =>
        rw [hu] at h
        cases h
        obtain ⟨t1, t2, t3⟩ := hT q List.mem_cons_self
        have := ab_use_ok (sc := sc) hu hr hd t2 t1 (fun e => by cases e) (fun νc hn hrc _ => t3 dq hn νc ls st hp hrc)
        rw [e1, e2, e3] at this
        exact this
set_option maxHeartbeats 1000000 in
theorem ab_step_ok {sc : List Value} {sp : Nat} {M : ab_M} {n0 : Nat} {ν0 : Nat → Int} (hsc : ∀ k v, eg_nth sc k = some v → ∃ x : Int32, v = .int x) (hlen : sc.length < 2 ^ 31) (hord : ab_ordok) {lw : Option Nat} (hlw : lw = none ∨ lw = some sp) {T : List ab_Q} (hT : ∀ q ∈ T, ab_trs sc sp q) {self : Option ab_Q} (hself : ∀ q, self = some q → 2 ≤ q.2.2.2.2.1.1 ∧ (∀ e ∈ q.2.2.2.2.2.2.1, ab_nd e.2.2.1 = true ∧ q.2.2.2.2.1.1 ≤ e.2.1) ∧ (∀ p w, q.2.2.2.2.2.2.2 = some (p, w) → p < n0) ∧ ∀ dq, q.2.2.2.1 ≤ dq → ∀ (νc : Nat → Int) (ls : eg_L) (st : List Value) (h : eg_H), ab_r sc.length νc q.2.2.2.2.1 ls st h → ab_rk q ν0 νc → ab_co sc sp q.2.2.2.2.2.1 q.1 q.2.1 dq q.2.2.1 νc q.2.2.2.2.1.1 ls st h q.2.2.2.2.2.2.1) {su : Nat} {stops : List Nat} {f : ab_F} (hf : ab_So sc sp M n0 ν0 f) : ab_So sc sp M n0 ν0 (ab_step lw M T self su stops f) := by
  intro u o dp pc cs σ L hL hcs dq hd ν ls st h hr hn0 hx0
  unfold ab_step at hL
  · split at hL
    next L1 hs1 =>
      refine ab_on_ok hf hL hd hn0 hx0 ?_
      split at hs1
      · cases hs1
      next q =>
        obtain ⟨s1, s2, s3, s4⟩ := hself q rfl
        cases hb : (Nat.beq q.1 u && Nat.beq q.2.2.1 pc && Nat.beq q.2.1 o) with
        | false => rw [hb] at hs1; cases hs1
        | true =>
          rw [hb] at hs1
          simp only [cond_true] at hs1
          have c1 := Bool.and_eq_true_iff.mp hb
          have c2 := Bool.and_eq_true_iff.mp c1.1
          have e1 := Nat.eq_of_beq_eq_true c2.1
          have e2 := Nat.eq_of_beq_eq_true c2.2
          have e3 := Nat.eq_of_beq_eq_true c1.2
          have hrk : ∀ νc, ab_rk q ν νc → ab_rk q ν0 νc := fun νc hk => by
            unfold ab_rk at hk ⊢
            split at hk
            next => exact hk
            next p w hq => rw [← hx0 p (s3 p _ hq)]; exact hk
            next p w hq => rw [← hx0 p (s3 p _ hq)]; exact hk
          have := ab_use_ok (sc := sc) hs1 hr hd s1 s2 (fun _ p w hq => Nat.lt_of_lt_of_le (s3 p w hq) hn0) (fun νc hn hrc hk => s4 dq hn νc ls st h hrc (hrk νc (hk rfl)))
          rw [e1, e2, e3] at this
          exact this
    next hs1 =>
      split at hL
      next L1 ht => exact ab_on_ok hf hL hd hn0 hx0 (ab_try_ok hT ht hd hr)
      next =>
        split at hL
        · cases hL
          exact ⟨_, List.mem_cons_self, ν, ls, st, h, hr, ab_ext.rf, Nat.le_refl _, ab_fr.rf, ab_Re.rf⟩
        · exact ab_one_ok hsc hlen hord hlw hf u o dp pc cs σ L hL hcs dq hd ν ls st h hr hn0 hx0
