/-! branches, stores -/
theorem eg_rng_v {E : eg_X} {en : List (Int × Int)} (hE : eg_en E en) {a v : Value} {r : Int × Int} (h : eg_rng en a = some r) (hv : eg_v E a v) : ∃ x : Int32, v = .int x ∧ r.1 ≤ x.toInt ∧ x.toInt ≤ r.2 := by
  cases a with
  | int w =>
    cases h
    exact ⟨w, hv, Int.le_refl _, Int.le_refl _⟩
  | retAddr j =>
    have := hE j r h
    exact ⟨_, hv, this.1, this.2⟩
  | _ => cases h
theorem eg_lt_v {a b : Int × Int} {z : Bool} (h : eg_lt a b = some z) {x y : Int32} (h1 : a.1 ≤ x.toInt ∧ x.toInt ≤ a.2) (h2 : b.1 ≤ y.toInt ∧ y.toInt ≤ b.2) : z = true ↔ x < y := by
  rw [Int32.lt_iff_toInt_lt]
  unfold eg_lt at h
  split at h
  · cases h
    exact ⟨fun _ => by omega, fun _ => rfl⟩
  · split at h
    · cases h
      exact ⟨fun q => (by cases q), fun q => (by omega)⟩
    · cases h
theorem eg_eq_v {a b : Int × Int} {z : Bool} (h : eg_eq a b = some z) {x y : Int32} (h1 : a.1 ≤ x.toInt ∧ x.toInt ≤ a.2) (h2 : b.1 ≤ y.toInt ∧ y.toInt ≤ b.2) : z = true ↔ x = y := by
  rw [← Int32.toInt_inj]
  unfold eg_eq at h
  split at h
  · cases h
    exact ⟨fun q => (by cases q), fun q => (by omega)⟩
  · split at h
    · cases h
      exact ⟨fun q => (by cases q), fun q => (by omega)⟩
    · split at h
      · cases h
        exact ⟨fun _ => by omega, fun _ => rfl⟩
      · cases h
/-- what a condition says -/
def eg_holds (c : ClassFile.Cond) (x y : Int32) : Prop := match c with
  | .eq => x = y
  | .ne => ¬ x = y
  | .lt => x < y
  | .ge => y ≤ x
  | .gt => y < x
  | .le => x ≤ y
theorem eg_cmp_v {E : eg_X} {en : List (Int × Int)} (hE : eg_en E en) {c : ClassFile.Cond} {a b v w : Value} {z : Bool} (h : eg_cmp en c a b = some z) (hv : eg_v E a v) (hw : eg_v E b w) : ∃ x y : Int32, v = .int x ∧ w = .int y ∧ (z = true ↔ eg_holds c x y) := by
  unfold eg_cmp at h
  cases ha : eg_rng en a with
  | none => rw [ha] at h; cases h
  | some ra =>
    rw [ha] at h
    simp only at h
    cases hb : eg_rng en b with
    | none => rw [hb] at h; cases h
    | some rb =>
      rw [hb] at h
      obtain ⟨x, rfl, hx⟩ := eg_rng_v hE ha hv
      obtain ⟨y, rfl, hy⟩ := eg_rng_v hE hb hw
      refine ⟨x, y, rfl, rfl, ?_⟩
      cases c with
      | eq => exact eg_eq_v h hx hy
      | ne =>
        simp only at h
        obtain ⟨q, h1, h2⟩ := Option.map_eq_some_iff.mp h
        have := eg_eq_v h1 hx hy
        subst h2
        show (!q) = true ↔ ¬ x = y
        rw [← this]; cases q <;> simp
      | lt => exact eg_lt_v h hx hy
      | ge =>
        simp only at h
        obtain ⟨q, h1, h2⟩ := Option.map_eq_some_iff.mp h
        have := eg_lt_v h1 hx hy
        subst h2
        show (!q) = true ↔ y ≤ x
        rw [← Int32.not_lt, ← this]; cases q <;> simp
      | gt => exact eg_lt_v h hy hx
      | le =>
        simp only at h
        obtain ⟨q, h1, h2⟩ := Option.map_eq_some_iff.mp h
        have := eg_lt_v h1 hy hx
        subst h2
        show (!q) = true ↔ x ≤ y
        rw [← Int32.not_lt, ← this]; cases q <;> simp
theorem eg_tgt_v {pc t : Nat} {off : Int} (h : eg_tgt pc off = some t) : (pc : Int) + off = (t : Int) := by
  unfold eg_tgt at h
  split at h
  next e => cases h; exact e
  next => cases h
section OK2
variable {en : List (Int × Int)} {sc : List Value} {u o pc : Nat}
theorem ok_goto {off : Int} {t : Nat} (hd : decode (eg_md u).2.1 pc = .ok (.goto off, 3)) (ht : eg_tgt pc off = some t) : eg_OK en sc u o pc 3 (eg_jp t) := by
  intro E D dT p l e R R2 hRR s m args below meth c H locs cells slots Q lsA stc ls st hn h bc bs t' ls' st' hn' h' bc' bs' hX hE hI hg K
  cases hg
  exact lv_goto hX.1 hX.2.1 hd (eg_tgt_v ht) (K H locs cells slots lsA stc hI)
/-- a row of a branch, for each condition -/
theorem rw_if {p : Program} {l : Launch} {e : Env} {R : Room} {s : State} {m : MethodId} {args : Array Value} {below : List Frame} {meth : Method} {c : Code} {H : Heap} {locs : List Loc} {cells slots : Nat} {Q : State → Prop} {cc : ByteArray} {ls : Array Slot} {rest : List Value} (hx : p.tables.exec = Jvm.exec) (hb : c.code = cc) {k : ClassFile.Cond} {x : Int32} {off : Int} {tgt : Nat} (hd : decode cc pc = .ok (.ifCond k off, 3)) (ht : (pc : Int) + off = (tgt : Int))
    (kt : eg_holds k x 0 → W p l e R s m args below meth c H locs cells slots Q (F0 m tgt ls rest)) (kf : ¬ eg_holds k x 0 → W p l e R s m args below meth c H locs cells slots Q (F0 m (pc + 3) ls rest)) : W p l e R s m args below meth c H locs cells slots Q (F0 m pc ls (.int x :: rest)) := by
  cases k with
  | eq => exact lv_if_eq hx hb hd ht kt kf
  | ne => exact lv_if_ne hx hb hd ht kt (fun h => kf (fun h2 => h2 h))
  | lt => exact lv_if_lt hx hb hd ht kt kf
  | ge => exact lv_if_ge hx hb hd ht kt kf
  | gt => exact lv_if_gt hx hb hd ht kt kf
  | le => exact lv_if_le hx hb hd ht kt kf
theorem rw_ic {p : Program} {l : Launch} {e : Env} {R : Room} {s : State} {m : MethodId} {args : Array Value} {below : List Frame} {meth : Method} {c : Code} {H : Heap} {locs : List Loc} {cells slots : Nat} {Q : State → Prop} {cc : ByteArray} {ls : Array Slot} {rest : List Value} (hx : p.tables.exec = Jvm.exec) (hb : c.code = cc) {k : ClassFile.Cond} {x y : Int32} {off : Int} {tgt : Nat} (hd : decode cc pc = .ok (.if_icmp k off, 3)) (ht : (pc : Int) + off = (tgt : Int))
    (kt : eg_holds k x y → W p l e R s m args below meth c H locs cells slots Q (F0 m tgt ls rest)) (kf : ¬ eg_holds k x y → W p l e R s m args below meth c H locs cells slots Q (F0 m (pc + 3) ls rest)) : W p l e R s m args below meth c H locs cells slots Q (F0 m pc ls (.int y :: .int x :: rest)) := by
  cases k with
  | eq => exact lv_icmp_eq hx hb hd ht kt kf
  | ne => exact lv_icmp_ne hx hb hd ht kt (fun h => kf (fun h2 => h2 h))
  | lt => exact lv_icmp_lt hx hb hd ht kt kf
  | ge => exact lv_icmp_ge hx hb hd ht kt kf
  | gt => exact lv_icmp_gt hx hb hd ht kt kf
  | le => exact lv_icmp_le hx hb hd ht kt kf
theorem ok_if {k : ClassFile.Cond} {off : Int} {t : Nat} (hd : decode (eg_md u).2.1 pc = .ok (.ifCond k off, 3)) (ht : eg_tgt pc off = some t) : eg_OK en sc u o pc 3 (eg_if en k t) := by
  intro E D dT p l e R R2 hRR s m args below meth c H locs cells slots Q lsA stc ls st hn h bc bs t' ls' st' hn' h' bc' bs' hX hE hI hg K
  obtain ⟨hH, hS, hL, hst, hc1, hc2⟩ := id hI
  unfold eg_if at hg
  match st, hst, hg with
  | [], _, hg => cases hg
  | a :: st, ⟨v, rest, he, hv, hr⟩, hg =>
    subst he
    simp only at hg
    cases hc : eg_cmp en k a (.int 0) with
    | none => rw [hc] at hg; cases hg
    | some z =>
      obtain ⟨x, y, rfl, hy, hz⟩ := eg_cmp_v hE hc hv (show eg_v E (.int 0) (.int 0) from rfl)
      cases hy
      rw [hc] at hg
      cases z with
      | true =>
        cases hg
        exact rw_if hX.1 hX.2.1 hd (eg_tgt_v ht) (fun _ => K H locs cells slots lsA rest ⟨hH, hS, hL, hr, hc1, hc2⟩) (fun q => absurd (hz.mp rfl) q)
      | false =>
        cases hg
        exact rw_if hX.1 hX.2.1 hd (eg_tgt_v ht) (fun q => by cases hz.mpr q) (fun _ => K H locs cells slots lsA rest ⟨hH, hS, hL, hr, hc1, hc2⟩)
theorem ok_ic {k : ClassFile.Cond} {off : Int} {t : Nat} (hd : decode (eg_md u).2.1 pc = .ok (.if_icmp k off, 3)) (ht : eg_tgt pc off = some t) : eg_OK en sc u o pc 3 (eg_ic en k t) := by
  intro E D dT p l e R R2 hRR s m args below meth c H locs cells slots Q lsA stc ls st hn h bc bs t' ls' st' hn' h' bc' bs' hX hE hI hg K
  obtain ⟨hH, hS, hL, hst, hc1, hc2⟩ := id hI
  unfold eg_ic at hg
  match st, hst, hg with
  | [], _, hg => cases hg
  | [_], _, hg => cases hg
  | b :: a :: st, ⟨w, _, he, hw, v, rest, he2, hv, hr⟩, hg =>
    subst he; subst he2
    simp only at hg
    cases hc : eg_cmp en k a b with
    | none => rw [hc] at hg; cases hg
    | some z =>
      obtain ⟨x, y, rfl, rfl, hz⟩ := eg_cmp_v hE hc hv hw
      rw [hc] at hg
      cases z with
      | true =>
        cases hg
        exact rw_ic hX.1 hX.2.1 hd (eg_tgt_v ht) (fun _ => K H locs cells slots lsA rest ⟨hH, hS, hL, hr, hc1, hc2⟩) (fun q => absurd (hz.mp rfl) q)
      | false =>
        cases hg
        exact rw_ic hX.1 hX.2.1 hd (eg_tgt_v ht) (fun q => by cases hz.mpr q) (fun _ => K H locs cells slots lsA rest ⟨hH, hS, hL, hr, hc1, hc2⟩)
theorem ok_tb {dflt lo hi : Int} {offs : Array Int} {len : Nat} (hd : decode (eg_md u).2.1 pc = .ok (.tableswitch dflt lo hi offs, len)) : eg_OK en sc u o pc len (eg_tb en pc dflt lo hi offs) := by
  intro E D dT p l e R R2 hRR s m args below meth c H locs cells slots Q lsA stc ls st hn h bc bs t' ls' st' hn' h' bc' bs' hX hE hI hg K
  obtain ⟨hH, hS, hL, hst, hc1, hc2⟩ := id hI
  unfold eg_tb at hg
  match st, hst, hg with
  | [], _, hg => cases hg
  | a :: st, ⟨v, rest, he, hv, hr⟩, hg =>
    subst he
    simp only at hg
    cases hc : eg_rng en a with
    | none => rw [hc] at hg; cases hg
    | some r =>
      obtain ⟨x, rfl, h1, h2⟩ := eg_rng_v hE hc hv
      rw [hc] at hg
      simp only at hg
      split at hg
      next hout =>
        cases ht : eg_tgt pc dflt with
        | none => rw [ht] at hg; cases hg
        | some t =>
          rw [ht] at hg
          cases hg
          exact lv_tableOut hX.1 hX.2.1 hd (by omega) (eg_tgt_v ht) (K H locs cells slots lsA rest ⟨hH, hS, hL, hr, hc1, hc2⟩)
      next hin =>
        split at hg
        next hin2 =>
          have hx : x.toInt = r.1 := by omega
          cases hoff : offs[(r.1 - lo).toNat]? with
          | none => rw [hoff] at hg; cases hg
          | some off =>
            rw [hoff] at hg
            simp only at hg
            cases ht : eg_tgt pc off with
            | none => rw [ht] at hg; cases hg
            | some t =>
              rw [ht] at hg
              cases hg
              exact lv_tableIn hX.1 hX.2.1 hd (by omega) (by omega) (by rw [hx]; exact hoff) (eg_tgt_v ht) (K H locs cells slots lsA rest ⟨hH, hS, hL, hr, hc1, hc2⟩)
        next => cases hg
theorem ok_lk {dflt : Int} {ps : Array (Int × Int)} {len : Nat} (hd : decode (eg_md u).2.1 pc = .ok (.lookupswitch dflt ps, len)) : eg_OK en sc u o pc len (eg_lk pc dflt ps) := by
  intro E D dT p l e R R2 hRR s m args below meth c H locs cells slots Q lsA stc ls st hn h bc bs t' ls' st' hn' h' bc' bs' hX hE hI hg K
  obtain ⟨hH, hS, hL, hst, hc1, hc2⟩ := id hI
  unfold eg_lk at hg
  split at hg
  next st x st2 =>
    obtain ⟨_, rest, rfl, hv, hr⟩ := hst
    obtain rfl : _ = Value.int x := hv
    cases hs : eg_srt ps with
    | false => rw [hs] at hg; cases hg
    | true =>
      rw [hs] at hg
      simp only [cond_true] at hg
      split at hg
      next t ht =>
        cases hg
        exact lv_lookup hX.1 hX.2.1 hd hs rfl (eg_tgt_v ht) (K H locs cells slots lsA rest ⟨hH, hS, hL, hr, hc1, hc2⟩)
      next => cases hg
  next => cases hg
theorem eg_beq (a b : Nat) : Nat.beq a b = (a == b) := by
  rw [Bool.eq_iff_iff, beq_iff_eq]
  exact ⟨Nat.eq_of_beq_eq_true, fun h => by rw [h]; exact Nat.beq_refl b⟩
theorem eg_k1_v {E : eg_X} (i k : Nat) (a v : Value) (h : eg_v E a v) : eg_k1 i (k, a) = (!(k == i) && !(k + 1 == i && v.category == 2)) := by
  unfold eg_k1
  rw [eg_v_cat h]
  simp only [eg_beq]
theorem eg_k2_v {E : eg_X} (i k : Nat) (a v : Value) (h : eg_v E a v) : eg_k2 i (k, a) = (!(k == i) && (!(k == i + 1) && !(k + 1 == i && v.category == 2))) := by
  unfold eg_k2
  rw [eg_v_cat h]
  simp only [eg_beq]
theorem ok_s1 {k len : Nat} {ok : Value → Bool} (hk : k < (eg_md u).2.2.1)
    (row : ∀ {p : Program} {l : Launch} {e : Env} {R : Room} {s : State} {m : MethodId} {args : Array Value} {below : List Frame} {meth : Method} {c : Code} {H : Heap} {locs : List Loc} {cells slots : Nat} {Q : State → Prop} {ls : Array Slot} {rest : List Value} {E : eg_X} {a v : Value} {lv : List (Nat × Value)}, p.tables.exec = Jvm.exec → c.code = (eg_md u).2.1 → eg_v E a v → ok a = true → lv_has ls (eg_md u).2.2.1 lv → (∀ ls' : Array Slot, lv_has ls' (eg_md u).2.2.1 ((k, v) :: lv.filter (fun q => !(q.1 == k) && !(q.1 + 1 == k && q.2.category == 2))) → W p l e R s m args below meth c H locs cells slots Q (F0 m (pc + len) ls' rest)) → W p l e R s m args below meth c H locs cells slots Q (F0 m pc ls (v :: rest))) : eg_OK en sc u o pc len (eg_s1 ok k) := by
  intro E D dT p l e R R2 hRR s m args below meth c H locs cells slots Q lsA stc ls st hn h bc bs t ls' st' hn' h' bc' bs' hX hE hI hg K
  obtain ⟨hH, hS, ⟨lvc, hl, hlv⟩, hst, hc1, hc2⟩ := id hI
  unfold eg_s1 at hg
  match st, hst, hg with
  | [], _, hg => cases hg
  | a :: st, ⟨v, rest, he, hv, hr⟩, hg =>
    subst he
    simp only at hg
    cases ho : ok a with
    | false => rw [ho] at hg; cases hg
    | true =>
      rw [ho] at hg
      cases hg
      exact row hX.1 hX.2.1 hv ho hlv (fun lsB hB => K H locs cells slots lsB rest ⟨hH, hS, ⟨_, ⟨v, _, rfl, hv, eg_ls_fil hl _ _ (fun j a v h => eg_k1_v k j a v h)⟩, hB⟩, hr, hc1, hc2⟩)
theorem ok_s2 {k len : Nat} (hk : k + 1 < (eg_md u).2.2.1)
    (row : ∀ {p : Program} {l : Launch} {e : Env} {R : Room} {s : State} {m : MethodId} {args : Array Value} {below : List Frame} {meth : Method} {c : Code} {H : Heap} {locs : List Loc} {cells slots : Nat} {Q : State → Prop} {ls : Array Slot} {rest : List Value} {v : Int64} {lv : List (Nat × Value)}, p.tables.exec = Jvm.exec → c.code = (eg_md u).2.1 → lv_has ls (eg_md u).2.2.1 lv → (∀ ls' : Array Slot, lv_has ls' (eg_md u).2.2.1 ((k, .long v) :: lv.filter (fun q => !(q.1 == k) && (!(q.1 == k + 1) && !(q.1 + 1 == k && q.2.category == 2)))) → W p l e R s m args below meth c H locs cells slots Q (F0 m (pc + len) ls' rest)) → W p l e R s m args below meth c H locs cells slots Q (F0 m pc ls (.long v :: rest))) : eg_OK en sc u o pc len (eg_s2 k) := by
  intro E D dT p l e R R2 hRR s m args below meth c H locs cells slots Q lsA stc ls st hn h bc bs t ls' st' hn' h' bc' bs' hX hE hI hg K
  obtain ⟨hH, hS, ⟨lvc, hl, hlv⟩, hst, hc1, hc2⟩ := id hI
  unfold eg_s2 at hg
  match st, hst, hg with
  | [], _, hg => cases hg
  | a :: st, ⟨v, rest, he, hv, hr⟩, hg =>
    subst he
    simp only at hg
    cases ho : eg_isJ a with
    | false => rw [ho] at hg; cases hg
    | true =>
      rw [ho] at hg
      cases hg
      obtain ⟨z, rfl⟩ := eg_v_J hv ho
      exact row hX.1 hX.2.1 hlv (fun lsB hB => K H locs cells slots lsB rest ⟨hH, hS, ⟨_, ⟨_, _, rfl, hv, eg_ls_fil hl _ _ (fun j a v h => eg_k2_v k j a v h)⟩, hB⟩, hr, hc1, hc2⟩)
theorem ok_istore_n {k : Fin 4} (hd : decode (eg_md u).2.1 pc = .ok (.istore_n k, 1)) (hk : k.val < (eg_md u).2.2.1) : eg_OK en sc u o pc 1 (eg_s1 eg_isI k.val) := ok_s1 hk (fun hx hb hv ho hl K => by obtain ⟨x, rfl⟩ := eg_v_I hv ho; exact lv_istore_n hx hb hd rfl hl hk rfl K)
theorem ok_istore {k : Nat} (hd : decode (eg_md u).2.1 pc = .ok (.istore k, 2)) (hk : k < (eg_md u).2.2.1) : eg_OK en sc u o pc 2 (eg_s1 eg_isI k) := ok_s1 hk (fun hx hb hv ho hl K => by obtain ⟨x, rfl⟩ := eg_v_I hv ho; exact lv_istore hx hb hd hl hk rfl K)
theorem ok_astore_n {k : Fin 4} (hd : decode (eg_md u).2.1 pc = .ok (.astore_n k, 1)) (hk : k.val < (eg_md u).2.2.1) : eg_OK en sc u o pc 1 (eg_s1 eg_isA k.val) := ok_s1 hk (fun hx hb hv ho hl K => by obtain ⟨x, rfl⟩ := eg_v_A hv ho; exact lv_astore_n hx hb hd rfl hl hk rfl K)
theorem ok_astore {k : Nat} (hd : decode (eg_md u).2.1 pc = .ok (.astore k, 2)) (hk : k < (eg_md u).2.2.1) : eg_OK en sc u o pc 2 (eg_s1 eg_isA k) := ok_s1 hk (fun hx hb hv ho hl K => by obtain ⟨x, rfl⟩ := eg_v_A hv ho; exact lv_astore hx hb hd hl hk rfl K)
theorem ok_lstore_n {k : Fin 4} (hd : decode (eg_md u).2.1 pc = .ok (.lstore_n k, 1)) (hk : k.val + 1 < (eg_md u).2.2.1) : eg_OK en sc u o pc 1 (eg_s2 k.val) := ok_s2 hk (fun hx hb hl K => lv_lstore_n hx hb hd rfl hl hk rfl K)
theorem ok_lstore {k : Nat} (hd : decode (eg_md u).2.1 pc = .ok (.lstore k, 2)) (hk : k + 1 < (eg_md u).2.2.1) : eg_OK en sc u o pc 2 (eg_s2 k) := ok_s2 hk (fun hx hb hl K => lv_lstore hx hb hd hl hk rfl K)
theorem ok_iinc {k : Nat} {n : Int} (hd : decode (eg_md u).2.1 pc = .ok (.iinc k n, 3)) (hk : k < (eg_md u).2.2.1) : eg_OK en sc u o pc 3 (eg_in k n) := by
  intro E D dT p l e R R2 hRR s m args below meth c H locs cells slots Q lsA stc ls st hn h bc bs t ls' st' hn' h' bc' bs' hX hE hI hg K
  obtain ⟨hH, hS, ⟨lvc, hl, hlv⟩, hst, hc1, hc2⟩ := id hI
  unfold eg_in at hg
  split at hg
  next x hf =>
    cases hv : eg_ni (x + Int32.ofInt n) with
    | none => rw [hv] at hg; cases hg
    | some a =>
      rw [hv] at hg
      cases hg
      obtain ⟨v, hv1, hv2⟩ := eg_ls_find hl (eg_find_mem hf)
      obtain rfl : v = .int x := hv2
      obtain ⟨j, hj⟩ := List.getElem?_of_mem hv1
      have ha := eg_ni_v hv
      exact lv_iinc hX.1 hX.2.1 hd hlv hj rfl hk rfl (fun lsB hB => K H locs cells slots lsB stc ⟨hH, hS, ⟨_, ⟨.int (x + Int32.ofInt n), _, rfl, by rw [ha]; rfl, eg_ls_fil hl _ _ (fun j a v h => eg_k1_v k j a v h)⟩, hB⟩, hst, hc1, hc2⟩)
  next => cases hg
end OK2
