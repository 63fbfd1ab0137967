/-! new cells -/
theorem eg_rep_nth {α : Type} (v : α) (n k : Nat) (w : α) (h : eg_nth (eg_rep v n) k = some w) : w = v := by
  induction n generalizing k with
  | zero => simp [eg_rep, eg_nth] at h
  | succ n ih => cases k with
    | zero => simp [eg_rep, eg_nth] at h; exact h.symm
    | succ k => simp [eg_rep, eg_nth] at h; exact ih k h
theorem eg_rep_len {α : Type} (v : α) (n : Nat) : (eg_rep v n).length = n := by
  induction n with
  | zero => rfl
  | succ n ih => simp [eg_rep, ih]
/-- what eg_mk does -/
theorem eg_mk_v {c : eg_C} {n : Nat} {ls : eg_L} {st : List Value} {hn : Nat} {h : eg_H} {bc bs : Nat} {q : eg_N} (e : eg_mk c n ls st hn h bc bs = some q) : (∃ c0, eg_get h hn = some c0) ∧ 1 ≤ bc ∧ n ≤ bs ∧ q = (0, ls, .ref hn :: st, hn + 1, eg_set h hn c, bc - 1, bs - n) := by
  unfold eg_mk at e
  split at e
  next l hg =>
    cases hb : (Nat.ble 1 bc && Nat.ble n bs) with
    | false => rw [hb] at e; cases e
    | true =>
      rw [hb] at e
      have h9 := Bool.and_eq_true_iff.mp hb
      refine ⟨⟨_, hg⟩, Nat.le_of_ble_eq_true h9.1, Nat.le_of_ble_eq_true h9.2, ?_⟩
      cases hn with
      | zero => simp only at e; cases e; rfl
      | succ k => simp only at e; cases e; rfl
  next => cases e
section OK5
variable {en : List (Int × Int)} {sc : List Value} {u o pc : Nat}
/-- a new cell of the machine is a new cell here -/
theorem eg_I.mk {E : eg_X} {D : va_G} {dT : Nat → ClassId} {R : Room} {s : State} {H H1 : Heap} {locs : List Loc} {cells slots n : Nat} {lsA : Array Slot} {stc rest : List Value} {ls : eg_L} {st0 st : List Value} {hn : Nat} {h : eg_H} {bc bs : Nat} {c0 c : eg_C} (hI : eg_I E D dT u R s H locs cells slots lsA stc ls st0 hn h bc bs) (hr : eg_vs E st rest) (h0 : eg_get h hn = some c0) (hb1 : 1 ≤ bc) (hb2 : n ≤ bs) (z1 : H1.size = H.size + 1) (o1 : ∀ q, q < H.size → H1[q]? = H[q]?) (hc : eg_c E D dT hn c H1) : eg_I E D dT u R s H1 locs (cells + 1) (slots + n) lsA (.ref H.size :: rest) ls (.ref hn :: st) (hn + 1) (eg_set h hn c) (bc - 1) (bs - n) := by
  obtain ⟨hH, hS, hL, hst, hc1, hc2⟩ := hI
  refine ⟨hH.push h0 z1 o1 hc, ⟨Nat.le_trans hS.1 (by omega), fun q h1 h2 => (o1 q (Nat.lt_of_lt_of_le h1 hS.1)).trans (hS.2.1 q h1 h2), hS.2.2⟩, hL, ⟨_, _, rfl, ?_, hr⟩, by omega, by omega⟩
  show Value.ref H.size = .ref (E.1 + hn)
  rw [hH.sz h0]
theorem eg_nx_v {k ci p1 p2 p3 : Nat} (h : eg_at o eg_nx k = some (ci, p1, p2, p3)) : ∃ (n : String) (q : vw_C), eg_own[o]? = some n ∧ vwCl[ci]? = some q ∧ Cond.classLink n k q.1 ∈ eg_ws ∧ Cond.instantiable q.1 q.2.2 ∈ eg_ws ∧ Cond.initialized q.1 ∈ eg_ws := by
  have h1 := eg_row_v nk_all rfl h
  unfold eg_nok at h1
  simp only [eg_nth_eq] at h1
  cases hn : eg_own[o]? with
  | none => rw [hn] at h1; cases h1
  | some n =>
    rw [hn] at h1
    cases hq : vwCl[ci]? with
    | none => rw [hq] at h1; cases h1
    | some q =>
      rw [hq] at h1
      simp only [Bool.and_eq_true, decide_eq_true_eq] at h1
      exact ⟨n, q, rfl, rfl, eg_tb_in h1.1.1 rfl, eg_tb_in h1.1.2 rfl, eg_tb_in h1.2 rfl⟩
theorem eg_def_v {ci : Nat} {q : vw_C} (h : vwCl[ci]? = some q) : (eg_def ci).length = q.2.2 ∧ ∀ k v, eg_nth (eg_def ci) k = some v → v = defaultValue (eg_fty ci k) := by
  have hn : eg_ncl ci = q.2.2 := by unfold eg_ncl; rw [eg_nth_eq, h]
  unfold eg_def
  rw [hn]
  refine ⟨by simp, fun k v hk => ?_⟩
  rw [eg_nth_eq, List.getElem?_map] at hk
  cases hr : (List.range q.2.2)[k]? with
  | none => rw [hr] at hk; cases hk
  | some j =>
    rw [hr] at hk
    have : j = k := by
      have := List.getElem?_eq_some_iff.mp hr
      obtain ⟨h1, h2⟩ := this
      simpa using h2.symm
    subst this
    cases hk
    rfl
theorem eg_dv (E : eg_X) (ty : FieldType) : (∃ v, ty = .float ∧ v = defaultValue ty) ∨ (∃ v, ty = .double ∧ v = defaultValue ty) ∨ eg_v E (defaultValue ty) (defaultValue ty) := by
  cases ty with
  | float => exact Or.inl ⟨_, rfl, rfl⟩
  | double => exact Or.inr (Or.inl ⟨_, rfl, rfl⟩)
  | _ => exact Or.inr (Or.inr rfl)
theorem eg_fty_nf {ci : Nat} {q : vw_C} (h : vwCl[ci]? = some q) : ∀ k, k < q.2.2 → eg_fty ci k ≠ .float ∧ eg_fty ci k ≠ .double := by
  match ci, h with
  | 0, h => cases h; decide +kernel
  | 1, h => cases h; decide +kernel
  | 2, h => cases h; decide +kernel
  | 3, h => cases h; decide +kernel
  | 4, h => cases h; decide +kernel
  | 5, h => cases h; decide +kernel
  | 6, h => cases h; decide +kernel
  | 7, h => cases h; decide +kernel
  | 8, h => cases h; decide +kernel
  | 9, h => cases h; decide +kernel
  | 10, h => cases h; decide +kernel
  | 11, h => cases h; decide +kernel
  | n + 12, h => simp [vwCl] at h
theorem ok_new {k ci p1 p2 p3 : Nat} (hd : decode (eg_md u).2.1 pc = .ok (.new k, 3)) (ha : eg_at o eg_nx k = some (ci, p1, p2, p3)) : eg_OK en sc u o pc 3 (eg_mk (.inr (ci, eg_def ci)) (eg_ncl ci)) := by
  intro E D dT p l e R R2 hRR s m args below meth c H locs cells slots Q lsA stc ls st hn h bc bs t ls' st' hn' h' bc' bs' hX hE hI hg K
  obtain ⟨hH, hS, hL, hst, hc1, hc2⟩ := id hI
  obtain ⟨⟨c0, h0⟩, hb1, hb2, hq⟩ := eg_mk_v hg
  cases hq
  obtain ⟨n, q, hn1, hq1, w1, w2, w3⟩ := eg_nx_v ha
  obtain ⟨hcl, hty, -⟩ := eg_cl hq1
  obtain ⟨n2, hn2, hown⟩ := hX.2.2.2.1
  obtain rfl : n2 = n := Option.some.inj (hn2.symm.trans hn1)
  have hKn := hX.2.2.2.2.2.1.1.1 ci _ hq1
  have hnc : eg_ncl ci = q.2.2 := by unfold eg_ncl; rw [eg_nth_eq, hq1]
  have hts := hX.2.2.2.2.1
  refine W.newcK hX.1 hX.2.1 hown (hts _ w1) (hts _ w2) (hts _ w3) rfl hd (by omega) (by omega) hKn.2.1 rfl fun H1 kC hkC e1 z1 o1 => ?_
  rw [← hnc]
  obtain ⟨d1, d2⟩ := eg_def_v hq1
  have hb := u_born _ hts hcl hKn hkC e1 hty
  refine K H1 locs (cells + 1) (slots + eg_ncl ci) lsA (.ref H.size :: stc) (hI.mk hst h0 hb1 hb2 z1 o1 ⟨q, fun k => defaultValue (eg_fty ci k), hq1, d1, by rw [← hH.sz h0]; exact hb, fun j v hj => ?_⟩)
  rw [d2 j v hj]
  have hjl : j < q.2.2 := by rw [← d1]; exact eg_nth_lt hj
  have hnf := eg_fty_nf hq1 j hjl
  rcases eg_dv E (eg_fty ci j) with ⟨v, h1, -⟩ | ⟨v, h1, -⟩ | h1
  · exact absurd h1 hnf.1
  · exact absurd h1 hnf.2
  · exact h1
theorem ok_na {ty : ArrayType} {t : Nat} {v : Value} (hd : decode (eg_md u).2.1 pc = .ok (.newarray ty, 2)) (ht : t < 7) (hw : Cond.arrayClass (newarray.typeOf ty) ∈ eg_ws) (hty : ∀ dT : Nat → ClassId, (eg_tyl dT)[t]? = some (dT t, newarray.typeOf ty)) (hcb : componentBytes (newarray.typeOf ty) ≤ 8) (hnr : ∀ {U : State} {cA : ClassId}, va_RA U cA (newarray.typeOf ty) → U.vm.findClass ("[" ++ (newarray.typeOf ty).toString) = some cA) (hdv : ∀ E, eg_v E v (defaultValue (newarray.typeOf ty))) : eg_OK en sc u o pc 2 (eg_na t v) := by
  intro E D dT p l e R R2 hRR s m args below meth c H locs cells slots Q lsA stc ls st hn h bc bs t' ls' st' hn' h' bc' bs' hX hE hI hg K
  obtain ⟨hH, hS, hL, hst, hc1, hc2⟩ := id hI
  unfold eg_na at hg
  split at hg
  next st n st2 =>
    obtain ⟨_, rest, rfl, hv, hr⟩ := hst
    cases hv
    by_cases hn0 : n < 0
    · rw [if_pos hn0] at hg; cases hg
    · rw [if_neg hn0] at hg
      cases hb : Nat.ble n.toNatClampNeg 10000 with
      | false => rw [hb] at hg; cases hg
      | true =>
        rw [hb] at hg
        have hle := Nat.le_of_ble_eq_true hb
        obtain ⟨⟨c0, h0⟩, hb1, hb2, hq⟩ := eg_mk_v hg
        cases hq
        refine va_newaK hX.1 hX.2.1 (hX.2.2.2.2.1 _ hw) rfl hd rfl hn0 rfl ?_ (by omega) (by omega) rfl fun H1 cA e1 z1 o1 hAr hNm => ?_
        · have : n.toNatClampNeg * componentBytes (newarray.typeOf ty) ≤ 10000 * 8 := Nat.mul_le_mul hle hcb
          omega
        · have hcA : cA = dT t := Option.some.inj (hNm.symm.trans (hnr (hX.2.2.2.2.2.1.1.2 t _ (hty dT)).2))
          subst hcA
          refine K H1 locs (cells + 1) (slots + n.toNatClampNeg) lsA (.ref H.size :: rest) (hI.mk hr h0 hb1 hb2 z1 o1 (Or.inr ⟨ht, fun _ => defaultValue (newarray.typeOf ty), ?_, fun k w hk => ?_⟩))
          · show H1[E.1 + hn]? = some (arrV (dT t) (eg_rep v n.toNatClampNeg).length _)
            rw [eg_rep_len, ← hH.sz h0]
            exact e1
          · rw [eg_rep_nth _ _ _ _ hk]
            exact hdv E
  next => cases hg
theorem eg_pos_v {k t : Nat} (h : eg_pos k eg_AO 4 = some t) : ∃ t0, t = t0 + 4 ∧ eg_nth eg_AO t0 = some k := by
  simp only [eg_pos, eg_AO] at h
  cases h1 : Nat.beq 1 k with
  | true => rw [h1] at h; cases h; exact ⟨0, rfl, by rw [← Nat.eq_of_beq_eq_true h1]; rfl⟩
  | false =>
    rw [h1] at h
    cases h2 : Nat.beq 9 k with
    | true => rw [h2] at h; cases h; exact ⟨1, rfl, by rw [← Nat.eq_of_beq_eq_true h2]; rfl⟩
    | false =>
      rw [h2] at h
      cases h3 : Nat.beq 5 k with
      | true => rw [h3] at h; cases h; exact ⟨2, rfl, by rw [← Nat.eq_of_beq_eq_true h3]; rfl⟩
      | false => rw [h3] at h; cases h
theorem ok_an {k ci p1 p2 p3 t : Nat} (hd : decode (eg_md u).2.1 pc = .ok (.anewarray k, 3)) (ha : eg_at o eg_nx k = some (ci, p1, p2, p3)) (hp : eg_pos ci eg_AO 4 = some t) : eg_OK en sc u o pc 3 (eg_na t .null) := by
  intro E D dT p l e R R2 hRR s m args below meth c H locs cells slots Q lsA stc ls st hn h bc bs t' ls' st' hn' h' bc' bs' hX hE hI hg K
  obtain ⟨hH, hS, hL, hst, hc1, hc2⟩ := id hI
  obtain ⟨t0, rfl, hao⟩ := eg_pos_v hp
  obtain ⟨n1, q, hn1, hq1, w1, w2, w3⟩ := eg_nx_v ha
  obtain ⟨q', hq', htl⟩ := eg_ao hao (dT := dT)
  obtain rfl : q' = q := Option.some.inj (hq'.symm.trans hq1)
  obtain ⟨n2, hn2, hown⟩ := hX.2.2.2.1
  obtain rfl : n2 = n1 := Option.some.inj (hn2.symm.trans hn1)
  have hover := hX.2.2.2.2.2.1.2.2.1 ci (by rw [eg_nth_eq] at hao; exact List.mem_of_getElem? hao) q' hq1
  unfold eg_na at hg
  split at hg
  next st n st2 =>
    obtain ⟨_, rest, rfl, hv, hr⟩ := hst
    cases hv
    by_cases hn0 : n < 0
    · rw [if_pos hn0] at hg; cases hg
    · rw [if_neg hn0] at hg
      cases hb : Nat.ble n.toNatClampNeg 10000 with
      | false => rw [hb] at hg; cases hg
      | true =>
        rw [hb] at hg
        have hle := Nat.le_of_ble_eq_true hb
        obtain ⟨⟨c0, h0⟩, hb1, hb2, hq⟩ := eg_mk_v hg
        cases hq
        refine W.anew hX.1 hX.2.1 hown (hX.2.2.2.2.1 _ w1) (va_AO.use hover) rfl hd rfl hn0 (by omega) (by omega) (by omega) fun cA kA comp f1 f2 f3 f4 => ?_
        obtain ⟨_, _, _, _, _, f9⟩ := (hX.2.2.2.2.2.1.1.2 _ _ htl).2
        have hcA : cA = dT (t0 + 4) := Option.some.inj (f1.symm.trans f9)
        subst hcA
        generalize hH1 : H.push ({ cls := dT (t0 + 4), slots := Array.replicate n.toNatClampNeg .null, vm := .none } : Cell) = H1
        have z1 : H1.size = H.size + 1 := by rw [← hH1, Array.size_push]
        have e1 : H1[H.size]? = some (arrV (dT (t0 + 4)) n.toNatClampNeg (fun _ => .null)) := by rw [← hH1, Array.getElem?_push_size, ← arrV_new]
        have o1 : ∀ q : Nat, q < H.size → H1[q]? = H[q]? := fun q hq => by rw [← hH1, Array.getElem?_push, if_neg (Nat.ne_of_lt hq)]
        have ht7 : t0 + 4 < 7 := by
          have := eg_nth_lt hao
          simp [eg_AO] at this
          omega
        refine K H1 locs (cells + 1) (slots + n.toNatClampNeg) lsA (.ref H.size :: rest) (hI.mk hr h0 hb1 hb2 z1 o1 (Or.inr ⟨ht7, fun _ => .null, ?_, fun k w hk => ?_⟩))
        · show H1[E.1 + hn]? = some (arrV (dT (t0 + 4)) (eg_rep Value.null n.toNatClampNeg).length _)
          rw [eg_rep_len, ← hH.sz h0]
          exact e1
        · rw [eg_rep_nth _ _ _ _ hk]
          rfl
  next => cases hg
end OK5
