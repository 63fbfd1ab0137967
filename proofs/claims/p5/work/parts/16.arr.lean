/-! arrays and new cells -/
theorem eg_ix_v {E : eg_X} {a v : Value} {k : Nat} (h : eg_ix a = some k) (hv : eg_v E a v) : ∃ i : Int32, v = .int i ∧ ¬ i < 0 ∧ i.toNatClampNeg = k := by
  cases a with
  | int i =>
    simp only [eg_ix] at h
    by_cases hi : i < 0
    · rw [if_pos hi] at h; cases h
    · rw [if_neg hi] at h; cases h; exact ⟨i, hv, hi, rfl⟩
  | _ => cases h
theorem eg_nth_lt {α : Type} {l : List α} {k : Nat} {v : α} (h : eg_nth l k = some v) : k < l.length := by
  rw [eg_nth_eq] at h
  exact (List.getElem?_eq_some_iff.mp h).1
section OK4
variable {en : List (Int × Int)} {sc : List Value} {u o pc : Nat}
theorem ok_al (hd : decode (eg_md u).2.1 pc = .ok (.arraylength, 1)) : eg_OK en sc u o pc 1 (eg_al sc) := by
  intro E D dT p l e R R2 hRR s m args below meth c H locs cells slots Q lsA stc ls st hn h bc bs t ls' st' hn' h' bc' bs' hX hE hI hg K
  obtain ⟨hH, hS, hL, hst, hc1, hc2⟩ := id hI
  obtain ⟨-, -, -, -, k5, -, -, k8, k9, k10, -⟩ := hX.2.2.2.2.2.1
  unfold eg_al at hg
  split at hg
  next st w st2 =>
    obtain ⟨v, rest, rfl, hv, hr⟩ := hst
    cases h1 : (w == 1) with
    | true =>
      rw [h1] at hg
      cases hg
      have e1 : w = 1 := by simpa using h1
      subst e1
      obtain rfl : v = .ref E.2.1 := by simpa [eg_v] using hv
      exact va_slen hX.1 hX.2.1 k8 (Nat.lt_of_lt_of_le k9 k10) (Nat.not_le.mpr k9) hS hd (K H locs cells slots lsA _ ⟨hH, hS, hL, ⟨_, _, rfl, rfl, hr⟩, hc1, hc2⟩)
    | false =>
      rw [h1] at hg
      cases h3 : (w == 3) with
      | false => rw [h3] at hg; cases hg
      | true =>
        rw [h3] at hg
        cases hg
        have e1 : w = 3 := by simpa using h3
        subst e1
        obtain rfl : v = .ref E.2.2.2.1 := by simpa [eg_v] using hv
        exact va_tlen hX.1 hX.2.1 (k5.1 0 (by decide)).2.2.2 hS rfl hd (K H locs cells slots lsA _ ⟨hH, hS, hL, ⟨_, _, rfl, rfl, hr⟩, hc1, hc2⟩)
  next => cases hg
theorem ok_ar {i : Instr} {ok : Nat → Bool} (hd : decode (eg_md u).2.1 pc = .ok (i, 1)) (h0 : ok 0 = true → i = .iaload) (h2 : ok 2 = true → i = .baload)
    (row : ∀ {p : Program} {l : Launch} {e : Env} {R : Room} {s : State} {m : MethodId} {args : Array Value} {below : List Frame} {meth : Method} {c : Code} {H : Heap} {locs : List Loc} {cells slots : Nat} {Q : State → Prop} {ls : Array Slot} {rest : List Value} {D : va_G} {dT : Nat → ClassId} {a n t : Nat} {f : Nat → Value} {j : Int32}, p.tables.exec = Jvm.exec → c.code = (eg_md u).2.1 → va_K D vwCl (eg_tyl dT) s → ok t = true → t < 7 → H[a]? = some (arrV (dT t) n f) → ¬ (j < 0 ∨ n ≤ j.toNatClampNeg) → W p l e R s m args below meth c H locs cells slots Q (F0 m (pc + 1) ls (f j.toNatClampNeg :: rest)) → W p l e R s m args below meth c H locs cells slots Q (F0 m pc ls (.int j :: .ref a :: rest))) : eg_OK en sc u o pc 1 (eg_ar sc ok) := by
  intro E D dT p l e R R2 hRR s m args below meth c H locs cells slots Q lsA stc ls st hn h bc bs t ls' st' hn' h' bc' bs' hX hE hI hg K
  obtain ⟨hH, hS, hL, hst, hc1, hc2⟩ := id hI
  obtain ⟨k1, -, -, -, k5, -, -, k8, k9, k10, k11⟩ := hX.2.2.2.2.2.1
  unfold eg_ar at hg
  split at hg
  next st x a st2 =>
    obtain ⟨vx, _, rfl, hvx, _, rest, rfl, hva, hr⟩ := hst
    cases hva
    cases ho : eg_arr h a with
    | none => rw [ho] at hg; cases hg
    | some cc =>
      obtain ⟨t2, xs⟩ := cc
      rw [ho] at hg
      simp only at hg
      cases hk : ok t2 with
      | false => rw [hk] at hg; cases hg
      | true =>
        rw [hk] at hg
        simp only at hg
        cases hi : eg_ix x with
        | none => rw [hi] at hg; cases hg
        | some k =>
          rw [hi] at hg
          simp only at hg
          cases hv : eg_nth xs k with
          | none => rw [hv] at hg; cases hg
          | some v =>
            rw [hv] at hg
            cases hg
            obtain ⟨j, rfl, hj1, hj2⟩ := eg_ix_v hi hvx
            have hlt := eg_nth_lt hv
            rcases hH.2 a _ (eg_arr_v ho) with e9 | ⟨g1, f, g2, g3⟩
            · rw [show xs = [] from e9.2] at hlt
              exact absurd hlt (Nat.not_lt_zero _)
            · refine row hX.1 hX.2.1 k1 hk g1 g2 (fun q => q.elim hj1 (fun q => by rw [hj2] at q; exact absurd q (Nat.not_le.mpr hlt))) ?_
              rw [hj2]
              exact K H locs cells slots lsA _ ⟨hH, hS, hL, ⟨_, _, rfl, g3 k v hv, hr⟩, hc1, hc2⟩
  next st x w st2 =>
    obtain ⟨vx, _, rfl, hvx, va, rest, rfl, hva, hr⟩ := hst
    cases h1 : (w == 1 && ok 0) with
    | true =>
      rw [h1] at hg
      have h9 := Bool.and_eq_true_iff.mp h1
      have e1 : w = 1 := by simpa using h9.1
      subst e1
      obtain rfl : va = .ref E.2.1 := by simpa [eg_v] using hva
      obtain rfl := h0 h9.2
      simp only [cond_true] at hg
      cases hi : eg_ix x with
      | none => rw [hi] at hg; cases hg
      | some k =>
        rw [hi] at hg
        simp only at hg
        cases hv : eg_nth sc k with
        | none => rw [hv] at hg; cases hg
        | some v =>
          rw [hv] at hg
          cases hg
          obtain ⟨j, rfl, hj1, hj2⟩ := eg_ix_v hi hvx
          have hlt := eg_nth_lt hv
          refine va_sld hX.1 hX.2.1 k8 (Nat.lt_of_lt_of_le k9 k10) (Nat.not_le.mpr k9) hS (fun q => q.elim hj1 (fun q => by omega)) hd ?_
          rw [hj2]
          exact K H locs cells slots lsA _ ⟨hH, hS, hL, ⟨_, _, rfl, k11 k v hv, hr⟩, hc1, hc2⟩
    | false =>
      rw [h1] at hg
      cases h3 : (w == 3 && ok 2) with
      | false => rw [h3] at hg; cases hg
      | true =>
        rw [h3] at hg
        have h9 := Bool.and_eq_true_iff.mp h3
        have e1 : w = 3 := by simpa using h9.1
        subst e1
        obtain rfl : va = .ref E.2.2.2.1 := by simpa [eg_v] using hva
        obtain rfl := h2 h9.2
        simp only [cond_true, cond_false] at hg
        cases hi : eg_ix x with
        | none => rw [hi] at hg; cases hg
        | some k =>
          rw [hi] at hg
          simp only at hg
          cases hv : eg_nth eg_str k with
          | none => rw [hv] at hg; cases hg
          | some v =>
            rw [hv] at hg
            cases hg
            obtain ⟨j, rfl, hj1, hj2⟩ := eg_ix_v hi hvx
            have hlt := eg_nth_lt hv
            refine va_tb hX.1 hX.2.1 (k5.1 0 (by decide)).2.2.2 hS (fun q => q.elim hj1 (fun q => by rw [hj2] at q; exact absurd q (Nat.not_le.mpr hlt))) (v := .int v) ?_ hd ?_
            · show Value.int (eg_str.getD j.toNatClampNeg 0) = _
              rw [hj2, List.getD_eq_getElem?_getD, ← eg_nth_eq, hv]
              rfl
            · exact K H locs cells slots lsA _ ⟨hH, hS, hL, ⟨_, _, rfl, rfl, hr⟩, hc1, hc2⟩
  next => cases hg
theorem ok_iaload (hd : decode (eg_md u).2.1 pc = .ok (.iaload, 1)) : eg_OK en sc u o pc 1 (eg_ar sc (fun t => Nat.beq t 0)) := ok_ar hd (fun _ => rfl) (fun h => by cases h) (fun hx hb hK ho ht hc hj K => by
  obtain rfl := Nat.eq_of_beq_eq_true ho
  exact W.iald hx hb hc ((hK.2 0 _ rfl).1 _ _) (fun q => by cases q) (by rw [arrV_size]; exact hj) (arrV_read _ _ (Nat.not_le.mp fun q => hj (Or.inr q))) rfl rfl hd K)
theorem ok_laload (hd : decode (eg_md u).2.1 pc = .ok (.laload, 1)) : eg_OK en sc u o pc 1 (eg_ar sc (fun t => Nat.beq t 1)) := ok_ar hd (fun h => by cases h) (fun h => by cases h) (fun hx hb hK ho ht hc hj K => by
  obtain rfl := Nat.eq_of_beq_eq_true ho
  exact W.lald hx hb hc ((hK.2 1 _ rfl).1 _ _) (fun q => by cases q) (by rw [arrV_size]; exact hj) (arrV_read _ _ (Nat.not_le.mp fun q => hj (Or.inr q))) rfl rfl hd K)
theorem ok_baload (hd : decode (eg_md u).2.1 pc = .ok (.baload, 1)) : eg_OK en sc u o pc 1 (eg_ar sc (fun t => Nat.beq t 2 || Nat.beq t 3)) := ok_ar hd (fun h => by cases h) (fun _ => rfl) (fun hx hb hK ho ht hc hj K => by
  rcases Bool.or_eq_true_iff.mp ho with ho | ho
  · obtain rfl := Nat.eq_of_beq_eq_true ho
    exact W.bald hx hb hc ((hK.2 2 _ rfl).1 _ _) (fun q => by cases q) (by rw [arrV_size]; exact hj) (arrV_read _ _ (Nat.not_le.mp fun q => hj (Or.inr q))) rfl rfl hd K
  · obtain rfl := Nat.eq_of_beq_eq_true ho
    exact W.zald hx hb hc ((hK.2 3 _ rfl).1 _ _) (fun q => by cases q) (by rw [arrV_size]; exact hj) (arrV_read _ _ (Nat.not_le.mp fun q => hj (Or.inr q))) rfl rfl hd K)
theorem ok_aaload (hd : decode (eg_md u).2.1 pc = .ok (.aaload, 1)) : eg_OK en sc u o pc 1 (eg_ar sc (fun t => Nat.ble 4 t)) := ok_ar hd (fun h => by cases h) (fun h => by cases h) (fun {p l e R s m args below meth c H locs cells slots Q ls rest D dT a n t f j} hx hb hK ho ht hc hj K => by
  have h4 : 4 ≤ t := Nat.le_of_ble_eq_true ho
  rcases (show t = 4 ∨ t = 5 ∨ t = 6 by omega) with rfl | rfl | rfl
  · exact W.aald hx hb hc ((hK.2 4 _ rfl).1 _ _) rfl (fun q => by cases q) (by rw [arrV_size]; exact hj) (arrV_read _ _ (Nat.not_le.mp fun q => hj (Or.inr q))) rfl rfl hd K
  · exact W.aald hx hb hc ((hK.2 5 _ rfl).1 _ _) rfl (fun q => by cases q) (by rw [arrV_size]; exact hj) (arrV_read _ _ (Nat.not_le.mp fun q => hj (Or.inr q))) rfl rfl hd K
  · exact W.aald hx hb hc ((hK.2 6 _ rfl).1 _ _) rfl (fun q => by cases q) (by rw [arrV_size]; exact hj) (arrV_read _ _ (Nat.not_le.mp fun q => hj (Or.inr q))) rfl rfl hd K)
theorem eg_nar_v {E : eg_X} {t : Nat} {a w v : Value} (h : eg_nar t a = some w) (hv : eg_v E a v) : (t = 0 ∧ ∃ x, v = .int x ∧ eg_v E w (.int x)) ∨ (t = 1 ∧ ∃ x, v = .long x ∧ eg_v E w (.long x)) ∨ (t = 2 ∧ ∃ x, v = .int x ∧ eg_v E w (narrow .byte (.int x))) ∨ (t = 3 ∧ ∃ x, v = .int x ∧ eg_v E w (narrow .boolean (.int x))) := by
  cases a with
  | int x =>
    obtain rfl : v = .int x := hv
    simp only [eg_nar] at h
    split at h
    · cases h; exact Or.inl ⟨rfl, x, rfl, rfl⟩
    · rw [eg_ni_v h]; exact Or.inr (Or.inr (Or.inl ⟨rfl, x, rfl, rfl⟩))
    · rw [eg_ni_v h]; exact Or.inr (Or.inr (Or.inr ⟨rfl, x, rfl, rfl⟩))
    · cases h
  | float z =>
    simp only [eg_nar] at h
    cases hb : (z == 0 && Nat.beq t 2) with
    | false => rw [hb] at h; cases h
    | true =>
      rw [hb] at h
      cases h
      have h9 := Bool.and_eq_true_iff.mp hb
      obtain ⟨x, rfl⟩ := eg_v_I hv (show eg_isI (.float z) = true from h9.1)
      exact Or.inr (Or.inr (Or.inl ⟨Nat.eq_of_beq_eq_true h9.2, x, rfl, by simp [eg_v, narrow]⟩))
  | long x =>
    obtain rfl : v = .long x := hv
    simp only [eg_nar] at h
    cases hb : Nat.beq t 1 with
    | false => rw [hb] at h; cases h
    | true =>
      rw [hb] at h
      cases h
      exact Or.inr (Or.inl ⟨Nat.eq_of_beq_eq_true hb, x, rfl, rfl⟩)
  | _ => cases h
theorem ok_aw {i : Instr} {ok : Nat → Bool} (hd : decode (eg_md u).2.1 pc = .ok (i, 1)) (h0 : ok 0 = true → i = .iastore) (h1 : ok 1 = true → i = .lastore) (h2 : ok 2 = true → i = .bastore) (h3 : ok 3 = true → i = .bastore) : eg_OK en sc u o pc 1 (eg_aw ok) := by
  intro E D dT p l e R R2 hRR s m args below meth c H locs cells slots Q lsA stc ls st hn h bc bs t ls' st' hn' h' bc' bs' hX hE hI hg K
  obtain ⟨hH, hS, hL, hst, hc1, hc2⟩ := id hI
  obtain ⟨k1, -⟩ := hX.2.2.2.2.2.1
  unfold eg_aw at hg
  split at hg
  next st b x a st2 =>
    obtain ⟨vb, _, rfl, hvb, vx, _, rfl, hvx, _, rest, rfl, hva, hr⟩ := hst
    cases hva
    cases ho : eg_arr h a with
    | none => rw [ho] at hg; cases hg
    | some cc =>
      obtain ⟨t2, xs⟩ := cc
      rw [ho] at hg
      simp only at hg
      cases hk : ok t2 with
      | false => rw [hk] at hg; cases hg
      | true =>
        rw [hk] at hg
        simp only at hg
        cases hi : eg_ix x with
        | none => rw [hi] at hg; cases hg
        | some k =>
          rw [hi] at hg
          simp only at hg
          cases hv : eg_nth xs k with
          | none => rw [hv] at hg; cases hg
          | some v0 =>
            rw [hv] at hg
            simp only at hg
            cases hw : eg_nar t2 b with
            | none => rw [hw] at hg; cases hg
            | some w =>
              rw [hw] at hg
              cases hg
              obtain ⟨j, rfl, hj1, hj2⟩ := eg_ix_v hi hvx
              have hlt := eg_nth_lt hv
              rcases hH.2 a _ (eg_arr_v ho) with e9 | ⟨g1, f, g2, g3⟩
              · rw [show xs = [] from e9.2] at hlt
                exact absurd hlt (Nat.not_lt_zero _)
              · have g2 : H[E.1 + a]? = some (arrV (dT t2) xs.length f) := g2
                have fin : ∀ (z : Value) (H' : Heap), eg_v E w z → H'[E.1 + a]? = some ((arrV (dT t2) xs.length f).setSlot j.toNatClampNeg z) → H'.size = H.size → (∀ q, q ≠ E.1 + a → H'[q]? = H[q]?) → eg_I E D dT u R2 s H' (locs ++ [⟨E.1 + a, j.toNatClampNeg⟩]) cells slots lsA rest ls st' hn (eg_set h a (.inl (t2, eg_put xs k w))) bc bs := fun z H' hz e1 e2 e3 => by
                  refine ⟨hH.set (eg_arr_v ho) e2 e3 (Or.inr ⟨g1, updV f k z, ?_, eg_put_v g3 hz⟩), hS.put e2 e3 (Nat.le_add_right _ _), hL, hr, hc1, hc2⟩
                  show H'[E.1 + a]? = some (arrV (dT t2) (eg_put xs k w).length (updV f k z))
                  rw [eg_put_len, e1, hj2, arrV_store]
                have hjn : ¬ (j < 0 ∨ (arrV (dT t2) xs.length f).slots.size ≤ j.toNatClampNeg) := by
                  rw [arrV_size, hj2]
                  exact fun q => q.elim hj1 (fun q => absurd q (Nat.not_le.mpr hlt))
                rcases eg_nar_v hw hvb with ⟨rfl, x, rfl, hx⟩ | ⟨rfl, x, rfl, hx⟩ | ⟨rfl, x, rfl, hx⟩ | ⟨rfl, x, rfl, hx⟩
                · obtain rfl := h0 hk
                  exact W.iast hX.1 hX.2.1 g2 ((k1.2 0 _ rfl).1 _ _) (fun q => by cases q) hjn rfl rfl hd (fun H' e1 e2 e3 => K H' _ cells slots lsA rest (fin _ H' hx e1 e2 e3))
                · obtain rfl := h1 hk
                  exact W.last hX.1 hX.2.1 g2 ((k1.2 1 _ rfl).1 _ _) (fun q => by cases q) hjn rfl rfl hd (fun H' e1 e2 e3 => K H' _ cells slots lsA rest (fin _ H' hx e1 e2 e3))
                · obtain rfl := h2 hk
                  exact W.bast hX.1 hX.2.1 g2 ((k1.2 2 _ rfl).1 _ _) (fun q => by cases q) hjn rfl rfl hd (fun H' e1 e2 e3 => K H' _ cells slots lsA rest (fin _ H' hx e1 e2 e3))
                · obtain rfl := h3 hk
                  exact W.zast hX.1 hX.2.1 g2 ((k1.2 3 _ rfl).1 _ _) (fun q => by cases q) hjn rfl rfl hd (fun H' e1 e2 e3 => K H' _ cells slots lsA rest (fin _ H' hx e1 e2 e3))
  next => cases hg
theorem eg_ao {t cj : Nat} (h : eg_nth eg_AO t = some cj) {dT : Nat → ClassId} : ∃ q : vw_C, vwCl[cj]? = some q ∧ (eg_tyl dT)[t + 4]? = some (dT (t + 4), .object q.1) := by
  match t, h with
  | 0, h => cases h; exact ⟨_, rfl, rfl⟩
  | 1, h => cases h; exact ⟨_, rfl, rfl⟩
  | 2, h => cases h; exact ⟨_, rfl, rfl⟩
  | n + 3, h => simp [eg_AO, eg_nth] at h
theorem ok_aq (hd : decode (eg_md u).2.1 pc = .ok (.aastore, 1)) : eg_OK en sc u o pc 1 eg_aq := by
  intro E D dT p l e R R2 hRR s m args below meth c H locs cells slots Q lsA stc ls st hn h bc bs t ls' st' hn' h' bc' bs' hX hE hI hg K
  obtain ⟨hH, hS, hL, hst, hc1, hc2⟩ := id hI
  obtain ⟨k1, -⟩ := hX.2.2.2.2.2.1
  unfold eg_aq at hg
  split at hg
  next st b x a st2 =>
    obtain ⟨_, _, rfl, hvb, vx, _, rfl, hvx, _, rest, rfl, hva, hr⟩ := hst
    cases hva
    cases hvb
    cases ho : eg_arr h a with
    | none => rw [ho] at hg; cases hg
    | some cc =>
      obtain ⟨t2, xs⟩ := cc
      rw [ho] at hg
      simp only at hg
      cases ho2 : eg_obj h b with
      | none => rw [ho2] at hg; cases hg
      | some cd =>
        obtain ⟨ci, fs⟩ := cd
        rw [ho2] at hg
        simp only at hg
        cases hi : eg_ix x with
        | none => rw [hi] at hg; cases hg
        | some k =>
          rw [hi] at hg
          simp only at hg
          cases hv : eg_nth xs k with
          | none => rw [hv] at hg; cases hg
          | some v0 =>
            rw [hv] at hg
            simp only at hg
            split at hg
            next t3 =>
              cases hao : eg_nth eg_AO t3 with
              | none => rw [hao] at hg; cases hg
              | some cj =>
                rw [hao] at hg
                simp only at hg
                cases hb : Nat.beq ci cj with
                | false => rw [hb] at hg; cases hg
                | true =>
                  rw [hb] at hg
                  cases hg
                  obtain rfl := Nat.eq_of_beq_eq_true hb
                  obtain ⟨q, hq1, hq2⟩ := eg_ao hao (dT := dT)
                  obtain ⟨j, rfl, hj1, hj2⟩ := eg_ix_v hi hvx
                  have hlt := eg_nth_lt hv
                  rcases hH.2 a _ (eg_arr_v ho) with e9 | ⟨g1, f, g2, g3⟩
                  · rw [show xs = [] from e9.2] at hlt
                    exact absurd hlt (Nat.not_lt_zero _)
                  · have g2 : H[E.1 + a]? = some (arrV (dT (t3 + 4)) xs.length f) := g2
                    obtain ⟨r, V, y1, y2, ⟨cellV, z1, z2, z3, z4⟩, y4⟩ := hH.2 b _ (eg_obj_v ho2)
                    have hcls := (k1.1 ci q hq1).2
                    obtain ⟨kA, comp, w1, w2, w3, -⟩ := (k1.2 _ _ hq2).2
                    have hcomp : comp = D.1 ci := Option.some.inj (w3.symm.trans hcls.1)
                    subst hcomp
                    obtain ⟨kC, hkC, -⟩ := hcls.2
                    refine W.aast hX.1 hX.2.1 g2 (fun q h => by cases h) (fun h => by cases h) w1 w2 rfl hkC ⟨hj1, by rw [arrV_size, hj2]; exact hlt⟩ z1 (fun q h => by rw [z3] at h; cases h) (by rw [z2]; exact hkC) (by rw [z2]; exact va_assign hcls) rfl rfl hd fun H' e1 e2 e3 => ?_
                    refine K H' _ cells slots lsA rest ⟨hH.set (eg_arr_v ho) e2 e3 (Or.inr ⟨g1, updV f k (.ref (E.1 + b)), ?_, eg_put_v g3 rfl⟩), hS.put e2 e3 (Nat.le_add_right _ _), hL, hr, hc1, hc2⟩
                    show H'[E.1 + a]? = some (arrV (dT (t3 + 4)) (eg_put xs k (.ref b)).length (updV f k (.ref (E.1 + b))))
                    rw [eg_put_len, e1, hj2, arrV_store]
            next => cases hg
  next => cases hg
end OK4
