/-! fields and constants -/
theorem eg_lay_good (C : String) (T : u_T) (k : Nat) : goodWord (u_lay C T k) = true := by
  unfold u_lay
  split <;> rfl
theorem eg_cl_in {C : String} {T : u_T} {N : Nat} (h : ∀ w ∈ u_ws C T N, w ∈ lw_tbl) : ∀ w ∈ u_ws C T N, w ∈ eg_ws := fun w hw => by
  obtain ⟨k, -, rfl⟩ := List.mem_map.mp hw
  exact eg_ws_in (h _ hw) (eg_lay_good C T k)
/-- of each class: its words, the types of its fields, their names -/
theorem eg_cl {ci : Nat} {q : vw_C} (h : vwCl[ci]? = some q) : (∀ w ∈ u_ws q.1 q.2.1 q.2.2, w ∈ eg_ws) ∧ (∀ k, k < q.2.2 → parseFieldDescriptor (q.2.1 k).2.2.1 = some (eg_fty ci k)) ∧ ∀ a, a < q.2.2 → ∀ b, b < q.2.2 → a ≠ b → (q.2.1 a).2.1 ≠ (q.2.1 b).2.1 := by
  match ci, h with
  | 0, h => cases h; exact ⟨eg_cl_in in_X0, tyX0_ok, nmX0⟩
  | 1, h => cases h; exact ⟨eg_cl_in in_X1, tyX1_ok, nmX1⟩
  | 2, h => cases h; exact ⟨eg_cl_in in_X2, tyX2_ok, nmX2⟩
  | 3, h => cases h; exact ⟨eg_cl_in in_X3, tyX3_ok, nmX3⟩
  | 4, h => cases h; exact ⟨eg_cl_in in_X4, tyX4_ok, nmX4⟩
  | 5, h => cases h; exact ⟨eg_cl_in in_X5, tyX5_ok, nmX5⟩
  | 6, h => cases h; exact ⟨eg_cl_in in_X6, tyX6_ok, nmX6⟩
  | 7, h => cases h; exact ⟨eg_cl_in in_X7, tyX7_ok, nmX7⟩
  | 8, h => cases h; exact ⟨eg_cl_in in_X8, tyX8_ok, nmX8⟩
  | 9, h => cases h; exact ⟨eg_cl_in in_X9, tyX9_ok, nmX9⟩
  | 10, h => cases h; exact ⟨eg_cl_in in_X10, tyX10_ok, nmX10⟩
  | 11, h => cases h; exact ⟨eg_cl_in in_X11, tyX11_ok, nmX11⟩
  | n + 12, h => simp [vwCl] at h
theorem eg_tb_in {p : Nat} {w : Cond} (h : lw_tbl[p]? = some w) (hg : goodWord w = true) : w ∈ eg_ws := eg_ws_in (List.mem_of_getElem? h) hg
/-- the word of a field -/
theorem eg_fx_v {o k ci fk p : Nat} (h : eg_at o eg_fx k = some (ci, fk, p)) : ∃ (n : String) (q : vw_C), eg_own[o]? = some n ∧ vwCl[ci]? = some q ∧ fk < q.2.2 ∧ Cond.fieldLink n k (q.2.1 fk).1 (q.2.1 fk).2.1 (q.2.1 fk).2.2.1 ∈ eg_ws := by
  have h1 := eg_row_v fk_all rfl h
  unfold eg_fok at h1
  simp only [eg_nth_eq] at h1
  cases hn : eg_own[o]? with
  | none => rw [hn] at h1; cases h1
  | some n =>
    rw [hn] at h1
    cases hq : vwCl[ci]? with
    | none => rw [hq] at h1; cases h1
    | some q =>
      rw [hq] at h1
      simp only [Bool.and_eq_true, decide_eq_true_eq] at h1
      exact ⟨n, q, rfl, rfl, Nat.blt_eq.mp h1.1.1, eg_tb_in h1.2 h1.1.2⟩
section OK3
variable {en : List (Int × Int)} {sc : List Value} {u o pc : Nat}
theorem ok_ldc {k p : Nat} {v : Int32} (hd : decode (eg_md u).2.1 pc = .ok (.ldc k, 2)) (ha : eg_at o eg_kx k = some (.int v, p)) : eg_OK en sc u o pc 2 (eg_cn (.int v)) := ok_cn (fun hX hS K => by
  have h1 := eg_row_v kk_all rfl ha
  unfold eg_kok at h1
  simp only [eg_nth_eq] at h1
  obtain ⟨n, hn, hown⟩ := hX.2.2.2.1
  rw [hn] at h1
  exact lv_ldc hX.1 hX.2.1 hown (hX.2.2.2.2.1 _ (eg_tb_in (of_decide_eq_true h1) rfl)) hd (K _ rfl))
theorem ok_ldc_w {k p : Nat} {v : Int32} (hd : decode (eg_md u).2.1 pc = .ok (.ldc_w k, 3)) (ha : eg_at o eg_kx k = some (.int v, p)) : eg_OK en sc u o pc 3 (eg_cn (.int v)) := ok_cn (fun hX hS K => by
  have h1 := eg_row_v kk_all rfl ha
  unfold eg_kok at h1
  simp only [eg_nth_eq] at h1
  obtain ⟨n, hn, hown⟩ := hX.2.2.2.1
  rw [hn] at h1
  exact lv_ldcw hX.1 hX.2.1 hown (hX.2.2.2.2.1 _ (eg_tb_in (of_decide_eq_true h1) rfl)) hd (K _ rfl))
theorem ok_ldc2_w {k p : Nat} {v : Int64} (hd : decode (eg_md u).2.1 pc = .ok (.ldc2_w k, 3)) (ha : eg_at o eg_kx k = some (.long v, p)) : eg_OK en sc u o pc 3 (eg_cn (.long v)) := ok_cn (fun hX hS K => by
  have h1 := eg_row_v kk_all rfl ha
  unfold eg_kok at h1
  simp only [eg_nth_eq] at h1
  obtain ⟨n, hn, hown⟩ := hX.2.2.2.1
  rw [hn] at h1
  exact lv_ldc2 hX.1 hX.2.1 hown (hX.2.2.2.2.1 _ (eg_tb_in (of_decide_eq_true h1) rfl)) hd (K _ rfl))
theorem ok_ldcS (hd : decode (eg_md u).2.1 pc = .ok (.ldc 52, 2)) (ho : o = 8) : eg_OK en sc u o pc 2 (eg_cn (.float 2)) := ok_cn (fun hX hS K => by
  subst ho
  obtain ⟨n, hn, hown⟩ := hX.2.2.2.1
  cases hn
  exact va_ldcS hX.1 hX.2.1 hown hX.2.2.2.2.2.1.2.2.2.1 hd (K _ (by simp [eg_v])))
theorem ok_gs {k : Nat} {C n d : String} {a : Value} (hd : decode (eg_md u).2.1 pc = .ok (.getstatic k, 3)) (ho : o = 16) (hw : Cond.fieldLink "java/lang/String" k C n d ∈ eg_ws)
    (hZ : ∀ {E : eg_X} {D : va_G} {dT : Nat → ClassId} {s : State}, eg_T E D dT sc s s.heap → ∃ v, va_Z C n d v (eg_A E) s s.heap ∧ eg_v E a v) : eg_OK en sc u o pc 3 (eg_cn a) := ok_cn (fun hX hS K => by
  subst ho
  obtain ⟨m0, hn, hown⟩ := hX.2.2.2.1
  cases hn
  obtain ⟨v, hz, hv⟩ := hZ hX.2.2.2.2.2.1
  exact va_gets hX.1 hX.2.1 hz hS hown (hX.2.2.2.2.1 _ hw) (fun _ h => h) hd (K _ hv))
theorem eg_obj_v {h : eg_H} {a : Nat} {c : Nat × List Value} (e : eg_obj h a = some c) : eg_get h a = some (.inr c) := by
  unfold eg_obj at e
  split at e
  next hg => cases e; exact hg
  next => cases e
theorem eg_arr_v {h : eg_H} {a : Nat} {c : Nat × List Value} (e : eg_arr h a = some c) : eg_get h a = some (.inl c) := by
  unfold eg_arr at e
  split at e
  next hg => cases e; exact hg
  next => cases e
theorem ok_gf {k ci fk p0 : Nat} (hd : decode (eg_md u).2.1 pc = .ok (.getfield k, 3)) (ha : eg_at o eg_fx k = some (ci, fk, p0)) : eg_OK en sc u o pc 3 (eg_gf ci fk) := by
  intro E D dT p l e R R2 hRR s m args below meth c H locs cells slots Q lsA stc ls st hn h bc bs t ls' st' hn' h' bc' bs' hX hE hI hg K
  obtain ⟨hH, hS, hL, hst, hc1, hc2⟩ := id hI
  obtain ⟨n, q, hn1, hq1, hfk, hw⟩ := eg_fx_v ha
  unfold eg_gf at hg
  split at hg
  next st a st2 =>
    obtain ⟨v, rest, rfl, hv, hr⟩ := hst
    obtain rfl : v = .ref (E.1 + a) := hv
    cases ho : eg_obj h a with
    | none => rw [ho] at hg; cases hg
    | some cc =>
      obtain ⟨cj, fs⟩ := cc
      rw [ho] at hg
      simp only at hg
      cases hb : Nat.beq ci cj with
      | false => rw [hb] at hg; cases hg
      | true =>
        rw [hb] at hg
        simp only at hg
        obtain rfl := Nat.eq_of_beq_eq_true hb
        cases hf : eg_nth fs fk with
        | none => rw [hf] at hg; cases hg
        | some w =>
          rw [hf] at hg
          cases hg
          obtain ⟨r, V, g1, g2, ⟨cell, q1, q2, q3, q4⟩, g4⟩ := hH.2 a _ (eg_obj_v ho)
          obtain rfl : r = q := Option.some.inj (g1.symm.trans hq1)
          obtain ⟨hcl, -, -⟩ := eg_cl hq1
          obtain ⟨n2, hn2, hown⟩ := hX.2.2.2.1
          obtain rfl : n2 = n := Option.some.inj (hn2.symm.trans hn1)
          obtain ⟨hSl, hfc, kC, hkC, hkind⟩ := hX.2.2.2.2.2.1.1.1 ci _ hq1
          obtain ⟨cf, kf, fi, f, hi, hsl⟩ := hSl fk hfk
          refine W.getf hX.1 hX.2.1 hown (hX.2.2.2.2.1 _ hw) hi (u_facts hfc hkC (u_lays hX.2.2.2.2.1 hcl hfk) hi).1 q1 (by rw [q3]; exact fun h => by cases h) (v := V fk) (by rw [hsl]; exact q4 fk hfk) rfl rfl hd ?_
          exact K H locs cells slots lsA (V fk :: rest) ⟨hH, hS, hL, ⟨_, _, rfl, g4 fk w hf, hr⟩, hc1, hc2⟩
  next => cases hg
theorem ok_gt {k : Nat} {n d : String} {a : Value} (hd : decode (eg_md u).2.1 pc = .ok (.getfield k, 3)) (ho : o = 16) (hw : Cond.fieldLink "java/lang/String" k "java/lang/String" n d ∈ eg_ws)
    (hZ : ∀ {E : eg_X} {D : va_G} {dT : Nat → ClassId} {s : State}, eg_T E D dT sc s s.heap → ∃ v, va_OF "java/lang/String" n d v E.2.2.1 (eg_A E) s s.heap ∧ eg_v E a v) : eg_OK en sc u o pc 3 (eg_gt a) := by
  intro E D dT p l e R R2 hRR s m args below meth c H locs cells slots Q lsA stc ls st hn h bc bs t ls' st' hn' h' bc' bs' hX hE hI hg K
  obtain ⟨hH, hS, hL, hst, hc1, hc2⟩ := id hI
  unfold eg_gt at hg
  split at hg
  next st w st2 =>
    obtain ⟨v, rest, rfl, hv, hr⟩ := hst
    cases hw2 : (w == 2) with
    | false => rw [hw2] at hg; cases hg
    | true =>
      rw [hw2] at hg
      cases hg
      have e2 : w = 2 := by simpa using hw2
      subst e2
      obtain rfl : v = .ref E.2.2.1 := by simpa [eg_v] using hv
      subst ho
      obtain ⟨m0, hn0, hown⟩ := hX.2.2.2.1
      cases hn0
      obtain ⟨z, hz, hzv⟩ := hZ hX.2.2.2.2.2.1
      exact vk_getf hX.1 hX.2.1 hz hS hown (hX.2.2.2.2.1 _ hw) (fun _ h => h) hd (K H locs cells slots lsA (z :: rest) ⟨hH, hS, hL, ⟨_, _, rfl, hzv, hr⟩, hc1, hc2⟩)
  next => cases hg
theorem eg_fit_v {E : eg_X} {ty : FieldType} {a v : Value} (h : eg_v E a v) (hf : eg_fit ty a = true) : narrow ty v = v ∧ fits ty v = true := by
  cases ty with
  | int => obtain ⟨x, rfl⟩ := eg_v_I h hf; exact ⟨rfl, rfl⟩
  | long => obtain ⟨x, rfl⟩ := eg_v_J h hf; exact ⟨rfl, rfl⟩
  | boolean =>
    cases a with
    | int x =>
      obtain rfl : v = .int x := h
      have : x = 0 ∨ x = 1 := by simpa [eg_fit] using hf
      rcases this with rfl | rfl <;> exact ⟨rfl, rfl⟩
    | _ => simp [eg_fit] at hf
  | object n => rcases eg_v_Q h hf with rfl | ⟨x, rfl⟩ <;> exact ⟨rfl, rfl⟩
  | array t => rcases eg_v_Q h hf with rfl | ⟨x, rfl⟩ <;> exact ⟨rfl, rfl⟩
  | _ => simp [eg_fit] at hf
theorem eg_put_v {E : eg_X} {fs : List Value} {V : Nat → Value} {k : Nat} {a v : Value} (h : ∀ j w, eg_nth fs j = some w → eg_v E w (V j)) (hv : eg_v E a v) : ∀ j w, eg_nth (eg_put fs k a) j = some w → eg_v E w (updV V k v j) := by
  intro j w hj
  rw [eg_put_nth] at hj
  unfold updV
  by_cases e : j = k
  · rw [if_pos e] at hj ⊢
    cases hk : eg_nth fs k with
    | none => rw [hk] at hj; cases hj
    | some x =>
      rw [hk] at hj
      cases hj
      exact hv
  · rw [if_neg e] at hj ⊢
    exact h j w hj
theorem eg_finF_v {ci fk : Nat} {q : vw_C} (h : vwCl[ci]? = some q) : eg_finF ci fk = (q.2.1 fk).2.2.2 := by
  unfold eg_finF
  rw [eg_nth_eq, h]
theorem eg_own_cl {ci : Nat} {q : vw_C} {n : String} (h : vwCl[ci]? = some q) (hn : eg_own[ci]? = some n) : n = q.1 ∧ ∀ k, k < q.2.2 → (q.2.1 k).1 = q.1 := by
  match ci, h, hn with
  | 0, h, hn => cases h; cases hn; exact ⟨rfl, by decide +kernel⟩
  | 1, h, hn => cases h; cases hn; exact ⟨rfl, by decide +kernel⟩
  | 2, h, hn => cases h; cases hn; exact ⟨rfl, by decide +kernel⟩
  | 3, h, hn => cases h; cases hn; exact ⟨rfl, by decide +kernel⟩
  | 4, h, hn => cases h; cases hn; exact ⟨rfl, by decide +kernel⟩
  | 5, h, hn => cases h; cases hn; exact ⟨rfl, by decide +kernel⟩
  | 6, h, hn => cases h; cases hn; exact ⟨rfl, by decide +kernel⟩
  | 7, h, hn => cases h; cases hn; exact ⟨rfl, by decide +kernel⟩
  | 8, h, hn => cases h; cases hn; exact ⟨rfl, by decide +kernel⟩
  | 9, h, hn => cases h; cases hn; exact ⟨rfl, by decide +kernel⟩
  | 10, h, hn => cases h; cases hn; exact ⟨rfl, by decide +kernel⟩
  | 11, h, hn => cases h; cases hn; exact ⟨rfl, by decide +kernel⟩
  | n + 12, h, hn => simp [vwCl] at h
set_option maxHeartbeats 1000000 in
theorem ok_pf {k ci fk p0 : Nat} (hd : decode (eg_md u).2.1 pc = .ok (.putfield k, 3)) (ha : eg_at o eg_fx k = some (ci, fk, p0)) (hfin : (!(eg_finF ci fk) || (Nat.beq o ci && decide ((eg_md u).1.name = "<init>"))) = true) : eg_OK en sc u o pc 3 (eg_pf (eg_fit (eg_fty ci fk)) ci fk) := by
  intro E D dT p l e R R2 hRR s m args below meth c H locs cells slots Q lsA stc ls st hn h bc bs t ls' st' hn' h' bc' bs' hX hE hI hg K
  obtain ⟨hH, hS, hL, hst, hc1, hc2⟩ := id hI
  obtain ⟨n, q, hn1, hq1, hfk, hw⟩ := eg_fx_v ha
  unfold eg_pf at hg
  split at hg
  next st b a st2 =>
    obtain ⟨v, _, rfl, hv, _, rest, rfl, hv2, hr⟩ := hst
    cases hv2
    cases ho : eg_obj h a with
    | none => rw [ho] at hg; cases hg
    | some cc =>
      obtain ⟨cj, fs⟩ := cc
      rw [ho] at hg
      simp only at hg
      cases hb : (Nat.beq ci cj && eg_fit (eg_fty ci fk) b) with
      | false => rw [hb] at hg; cases hg
      | true =>
        rw [hb] at hg
        cases hg
        have hb2 := Bool.and_eq_true_iff.mp hb
        obtain rfl := Nat.eq_of_beq_eq_true hb2.1
        obtain ⟨hn3, hf3⟩ := eg_fit_v hv hb2.2
        obtain ⟨r, V, g1, g2, ⟨cell, q1, q2, q3, q4⟩, g4⟩ := hH.2 a _ (eg_obj_v ho)
        obtain rfl : r = q := Option.some.inj (g1.symm.trans hq1)
        obtain ⟨hcl, hty, hnm⟩ := eg_cl hq1
        obtain ⟨n2, hn2, hown⟩ := hX.2.2.2.1
        obtain rfl : n2 = n := Option.some.inj (hn2.symm.trans hn1)
        have hap := va_apart (own := n2) hX.2.2.2.2.1 hcl _ hty hnm hX.2.2.2.2.2.1.1 hq1
        obtain ⟨hSl, hfc, kC, hkC, hkind⟩ := hX.2.2.2.2.2.1.1.1 ci _ hq1
        obtain ⟨cf, kf, fi, f, hi, hsl⟩ := hSl fk hfk
        have hlay := hX.2.2.2.2.1 _ (hcl _ (u_in_lay hfk))
        have hst9 := (u_facts hfc hkC (u_lays hX.2.2.2.2.1 hcl hfk) hi).1
        have fin : ∀ H' : Heap, H'[E.1 + a]? = some (cell.setSlot (D.2 ci fk) v) → H'.size = H.size → (∀ z, z ≠ E.1 + a → H'[z]? = H[z]?) → eg_I E D dT u R2 s H' (locs ++ [⟨E.1 + a, D.2 ci fk⟩]) cells slots lsA rest ls st' hn (eg_set h a (.inr (ci, eg_put fs fk b))) bc bs := fun H' e1 e2 e3 => by
          refine ⟨hH.set (eg_obj_v ho) e2 e3 ⟨r, updV V fk v, hq1, by rw [eg_put_len]; exact g2, ⟨_, e1, q2, q3, t_set q4 hap hfk v⟩, eg_put_v g4 hv⟩, hS.put e2 e3 (Nat.le_add_right _ _), hL, hr, hc1, hc2⟩
        cases hff : (r.2.1 fk).2.2.2 with
        | false =>
          unfold u_lay at hlay
          rw [if_neg (by rw [hff]; decide)] at hlay
          have h6 := u_store hfc hkC hkind hlay hi (hty fk hfk) hn3 hf3
          refine W.putK hX.1 hX.2.1 (f := f) ⟨hown, hX.2.2.2.2.1 _ hw, ⟨_, _, _, hi⟩, hst9⟩ (by rw [q2]; exact h6) q1 q3 (by rw [hsl]; exact k2_hasslot (q4 fk hfk)) rfl rfl hd fun H' e1 e2 e3 => ?_
          rw [hsl] at e1 ⊢
          exact K H' _ cells slots lsA rest (fin H' e1 e2 e3)
        | true =>
          rw [eg_finF_v hq1, hff] at hfin
          simp only [Bool.not_true, Bool.false_or, Bool.and_eq_true, decide_eq_true_eq] at hfin
          obtain rfl := Nat.eq_of_beq_eq_true hfin.1
          obtain ⟨hc9, hd9⟩ := eg_own_cl hq1 hn1
          unfold u_lay at hlay
          rw [if_pos hff] at hlay
          have hcf : m.cls = cf := by
            obtain ⟨_, _, c', _, _, _, -, -, hf', -, -, -, hown2, -⟩ := Cond.laysFinal_spec hlay
            have e1 : c' = cf := by have := hi.symm.trans hf'; simp at this; exact this.1.symm
            rw [hd9 fk hfk, ← hc9] at hown2
            rw [← e1]; exact Option.some.inj (hown.symm.trans hown2)
          have h6 := u_fits hfc hkC hkind (Or.inr hlay) hi (hty fk hfk) hn3 hf3
          refine W.putFinK hX.1 hX.2.1 hown (hX.2.2.2.2.1 _ hw) hi hst9 hcf (by rw [hX.2.2.2.2.2.2]; exact hfin.2) (by rw [q2]; exact h6) q1 q3 (by rw [hsl]; exact k2_hasslot (q4 fk hfk)) rfl rfl hd fun H' e1 e2 e3 => ?_
          rw [hsl] at e1 ⊢
          exact K H' _ cells slots lsA rest (fin H' e1 e2 e3)
  next => cases hg
end OK3
