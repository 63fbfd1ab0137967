def eg_A (E : eg_X) : Nat → Prop := fun q => E.1 ≤ q
def eg_tyl (dT : Nat → ClassId) : List (ClassId × FieldType) := [(dT 0, .int), (dT 1, .long), (dT 2, .byte), (dT 3, .boolean), (dT 4, .object RX1), (dT 5, .object RX9), (dT 6, .object RX5)]
def eg_c (E : eg_X) (D : va_G) (dT : Nat → ClassId) (a : Nat) (c : eg_C) (H : Heap) : Prop := match c with
  | .inl q => (q.1 = 99 ∧ q.2 = []) ∨ (q.1 < 7 ∧ ∃ f : Nat → Value, H[E.1 + a]? = some (arrV (dT q.1) q.2.length f) ∧ ∀ k v, eg_nth q.2 k = some v → eg_v E v (f k))
  | .inr q => ∃ (r : vw_C) (V : Nat → Value), vwCl[q.1]? = some r ∧ q.2.length = r.2.2 ∧ t_OB (E.1 + a) (D.1 q.1) r.2.2 (D.2 q.1) H V ∧ ∀ k v, eg_nth q.2 k = some v → eg_v E v (V k)
theorem eg_c.kept {E : eg_X} {D : va_G} {dT : Nat → ClassId} {a : Nat} {c : eg_C} {H H1 : Heap} (h : eg_c E D dT a c H) (hq : H1[E.1 + a]? = H[E.1 + a]?) : eg_c E D dT a c H1 := by
  cases c with
  | inl q =>
    rcases h with h | ⟨h1, f, h2, h3⟩
    · exact Or.inl h
    · exact Or.inr ⟨h1, f, hq.trans h2, h3⟩
  | inr q =>
    obtain ⟨r, V, h1, h2, h3, h4⟩ := h
    exact ⟨r, V, h1, h2, h3.kept hq, h4⟩
def eg_h (E : eg_X) (D : va_G) (dT : Nat → ClassId) (hn : Nat) (h : eg_H) (H : Heap) : Prop := ((H.size = E.1 + hn ∨ hn = 999) ∧ eg_get h 999 = none) ∧ ∀ a c, eg_get h a = some c → eg_c E D dT a c H
theorem eg_h.sz {E : eg_X} {D : va_G} {dT : Nat → ClassId} {hn : Nat} {h : eg_H} {H : Heap} {c0 : eg_C} (hh : eg_h E D dT hn h H) (h0 : eg_get h hn = some c0) : H.size = E.1 + hn := by
  rcases hh.1.1 with e | rfl
  · exact e
  · rw [hh.1.2] at h0; cases h0
theorem eg_h.set {E : eg_X} {D : va_G} {dT : Nat → ClassId} {hn a : Nat} {h : eg_H} {c0 c : eg_C} {H H1 : Heap} (hh : eg_h E D dT hn h H) (h0 : eg_get h a = some c0) (hz : H1.size = H.size) (ho : ∀ q : Nat, q ≠ E.1 + a → H1[q]? = H[q]?) (hc : eg_c E D dT a c H1) : eg_h E D dT hn (eg_set h a c) H1 := by
  refine ⟨⟨?_, ?_⟩, fun b c' hb => ?_⟩
  · rcases hh.1.1 with e | e1
    · exact Or.inl (hz.trans e)
    · exact Or.inr e1
  · rw [eg_get_set h0, if_neg (fun e => by rw [← e, hh.1.2] at h0; cases h0)]
    exact hh.1.2
  rw [eg_get_set h0] at hb
  by_cases e : b = a
  · rw [if_pos e] at hb
    cases hb
    rw [e]
    exact hc
  · rw [if_neg e] at hb
    exact (hh.2 b c' hb).kept (ho _ (by omega))
theorem eg_h.push {E : eg_X} {D : va_G} {dT : Nat → ClassId} {hn : Nat} {h : eg_H} {c0 c : eg_C} {H H1 : Heap} (hh : eg_h E D dT hn h H) (h0 : eg_get h hn = some c0) (hz : H1.size = H.size + 1) (ho : ∀ q : Nat, q < H.size → H1[q]? = H[q]?) (hc : eg_c E D dT hn c H1) : eg_h E D dT (hn + 1) (eg_set h hn c) H1 := by
  refine ⟨⟨Or.inl (by rw [hz, hh.sz h0]; omega), by rw [eg_get_set h0, if_neg (fun e => by rw [← e, hh.1.2] at h0; cases h0)]; exact hh.1.2⟩, fun b c' hb => ?_⟩
  rw [eg_get_set h0] at hb
  by_cases e : b = hn
  · rw [if_pos e] at hb
    cases hb
    rw [e]
    exact hc
  · rw [if_neg e] at hb
    have h1 := hh.2 b c' hb
    cases c' with
    | inl q =>
      rcases h1 with h1 | ⟨g1, f, g2, g3⟩
      · exact Or.inl h1
      · exact Or.inr ⟨g1, f, (ho _ (Array.getElem?_eq_some_iff.mp g2).1).trans g2, g3⟩
    | inr q =>
      obtain ⟨r, V, g1, g2, g3, g4⟩ := h1
      obtain ⟨cell, k1, k2⟩ := g3
      exact ⟨r, V, g1, g2, ⟨cell, (ho _ (Array.getElem?_eq_some_iff.mp k1).1).trans k1, k2⟩, g4⟩
def eg_ws : List Cond := lw_tbl.filter goodWord
theorem eg_ws_in {w : Cond} (h : w ∈ lw_tbl) (hg : goodWord w = true) : w ∈ eg_ws := List.mem_filter.mpr ⟨h, hg⟩
def eg_text : String := "land man promise clash grows storm broken freed watered day or and kept not stands fell stump shaded by to tall till number "
/-- what the tables and the cells that were there before say -/
def eg_T (E : eg_X) (D : va_G) (dT : Nat → ClassId) (sc : List Value) (U : State) (H : Heap) : Prop :=
  va_K D vwCl (eg_tyl dT) U ∧ (∀ (a : String) (i : Nat) (y : MethodName) (h : String), Cond.methodLinkNest a i y h ∈ lw_tbl → va_Nw (.methodLinkNest a i y h) U) ∧ (∀ k ∈ eg_AO, ∀ q : vw_C, vwCl[k]? = some q → va_AO q.1 U) ∧ vk_R RX8 52 eg_text E.2.2.1 U ∧ vk_S 1 [eg_str.length] [eg_str] (fun _ => E.2.2.1) (fun _ => E.2.2.2.1) (eg_A E) U H ∧ va_Z "java/lang/String" "COMPACT_STRINGS" "Z" (.int 1) (eg_A E) U H ∧ va_Zq "jdk/internal/util/Preconditions" "SIOOBE_FORMATTER" "Ljava/util/function/BiFunction;" (eg_A E) U H ∧ va_X E.2.1 sc.length E.2.2.2.2 U H ∧ E.2.1 < E.1 ∧ E.1 ≤ H.size ∧ ∀ k v, eg_nth sc k = some v → eg_v E v (.int (E.2.2.2.2 k))
theorem eg_T.move {E : eg_X} {D : va_G} {dT : Nat → ClassId} {sc : List Value} {s U : State} {H H1 : Heap} (h : eg_T E D dT sc s H) (hW : s.WarmedH U.vm) (hz : H.size ≤ H1.size) (hq : ∀ a : Nat, a < H.size → ¬ eg_A E a → H1[a]? = H[a]?) : eg_T E D dT sc U H1 := by
  obtain ⟨h1, h2, h3, h4, h5, h6, h7, ⟨scr, x1, x2, x3, x4, x5⟩, h9, h10, h11⟩ := h
  have ha := hW.alike
  refine ⟨va_K.moved ha h1, fun a i y z hw => va_Nw.warmM hW (h2 a i y z hw), fun k hk q e => (h3 k hk q e).moved ha, vk_R.warm hW h4, (h5.moved ha).kept hq, (h6.moved ha).kept hq, (h7.moved ha).kept hq, ⟨scr, ?_, State.isArrayOf_alike ha x2, x3, x4, x5⟩, h9, Nat.le_trans h10 hz, h11⟩
  rw [hq _ (Array.getElem?_eq_some_iff.mp x1).1 (Nat.not_le.mpr h9)]
  exact x1
/-- the same tables -/
theorem eg_T.same {E : eg_X} {D : va_G} {dT : Nat → ClassId} {sc : List Value} {u U : State} {H : Heap} (h : eg_T E D dT sc u H) (hv : U.vm = u.vm) : eg_T E D dT sc U H :=
  h.move (by rw [hv]; exact State.WarmedH.refl u) (Nat.le_refl _) (fun _ _ _ => rfl)
def eg_ctx (E : eg_X) (D : va_G) (dT : Nat → ClassId) (sc : List Value) (p : Program) (s : State) (m : MethodId) (args : Array Value) (meth : Method) (c : Code) (u o : Nat) : Prop :=
  p.tables.exec = Jvm.exec ∧ c.code = (eg_md u).2.1 ∧ c.maxLocals = (eg_md u).2.2.1 ∧ (∃ n : String, eg_own[o]? = some n ∧ s.vm.findClass n = some m.cls) ∧ (∀ w ∈ eg_ws, w.before args s = true) ∧ eg_T E D dT sc s s.heap ∧ meth.name = (eg_md u).1.name
def eg_en (E : eg_X) (en : List (Int × Int)) : Prop := ∀ j r, eg_nth en j = some r → r.1 ≤ (E.2.2.2.2 j).toInt ∧ (E.2.2.2.2 j).toInt ≤ r.2
def eg_I (E : eg_X) (D : va_G) (dT : Nat → ClassId) (u : Nat) (R : Room) (s : State) (H : Heap) (locs : List Loc) (cells slots : Nat) (lsA : Array Slot) (stc : List Value) (ls : eg_L) (st : List Value) (hn : Nat) (h : eg_H) (bc bs : Nat) : Prop :=
  eg_h E D dT hn h H ∧ va_S (eg_A E) s.heap H locs ∧ (∃ lvc, eg_ls E ls lvc ∧ lv_has lsA (eg_md u).2.2.1 lvc) ∧ eg_vs E st stc ∧ cells + bc ≤ R.cells ∧ slots + bs ≤ R.slots
def eg_nx1 (pc len t : Nat) : Nat := match t with
  | 0 => pc + len
  | t + 1 => t
def eg_OK (en : List (Int × Int)) (sc : List Value) (u o pc len : Nat) (g : eg_O) : Prop :=
  ∀ (E : eg_X) (D : va_G) (dT : Nat → ClassId) (p : Program) (l : Launch) (e : Env) (R R2 : Room) (_ : R2.cells ≤ R.cells ∧ R2.slots ≤ R.slots) (s : State) (m : MethodId) (args : Array Value) (below : List Frame) (meth : Method) (c : Code) (H : Heap) (locs : List Loc) (cells slots : Nat) (Q : State → Prop) (lsA : Array Slot) (stc : List Value) (ls : eg_L) (st : List Value) (hn : Nat) (h : eg_H) (bc bs t : Nat) (ls' : eg_L) (st' : List Value) (hn' : Nat) (h' : eg_H) (bc' bs' : Nat),
   eg_ctx E D dT sc p s m args meth c u o → eg_en E en → eg_I E D dT u R2 s H locs cells slots lsA stc ls st hn h bc bs →
   g ls st hn h bc bs = some (t, ls', st', hn', h', bc', bs') →
   (∀ H' locs' cells' slots' lsA' stc', eg_I E D dT u R2 s H' locs' cells' slots' lsA' stc' ls' st' hn' h' bc' bs' → W p l e R s m args below meth c H' locs' cells' slots' Q (F0 m (eg_nx1 pc len t) lsA' stc')) →
   W p l e R s m args below meth c H locs cells slots Q (F0 m pc lsA stc)
/-! loads, constants, arithmetic, the stack -/
theorem ok_ld {en : List (Int × Int)} {sc : List Value} {u o pc len k : Nat} {ok : Value → Bool}
    (row : ∀ {p : Program} {l : Launch} {e : Env} {R : Room} {s : State} {m : MethodId} {args : Array Value} {below : List Frame} {meth : Method} {c : Code} {H : Heap} {locs : List Loc} {cells slots : Nat} {Q : State → Prop} {ls : Array Slot} {rest : List Value} {E : eg_X} {a v : Value}, p.tables.exec = Jvm.exec → c.code = (eg_md u).2.1 → eg_v E a v → ok a = true → ls[k]? = some (.val v) → W p l e R s m args below meth c H locs cells slots Q (F0 m (pc + len) ls (v :: rest)) → W p l e R s m args below meth c H locs cells slots Q (F0 m pc ls rest)) : eg_OK en sc u o pc len (eg_ld ok k) := by
  intro E D dT p l e R R2 hRR s m args below meth c H locs cells slots Q lsA stc ls st hn h bc bs t ls' st' hn' h' bc' bs' hX hE hI hg K
  obtain ⟨hH, hS, ⟨lvc, hl, hlv⟩, hst, hc1, hc2⟩ := id hI
  unfold eg_ld at hg
  cases hf : eg_find k ls with
  | none => rw [hf] at hg; cases hg
  | some a =>
    rw [hf] at hg
    simp only at hg
    cases ho : ok a with
    | false => rw [ho] at hg; cases hg
    | true =>
      rw [ho] at hg
      cases hg
      obtain ⟨v, hv1, hv2⟩ := eg_ls_find hl (eg_find_mem hf)
      exact row hX.1 hX.2.1 hv2 ho (hlv.2.2 (k, v) hv1) (K H locs cells slots lsA (v :: stc) ⟨hH, hS, ⟨lvc, hl, hlv⟩, ⟨v, stc, rfl, hv2, hst⟩, hc1, hc2⟩)
theorem ok_cn {en : List (Int × Int)} {sc : List Value} {u o pc len : Nat} {a : Value}
    (row : ∀ {p : Program} {l : Launch} {e : Env} {R : Room} {s : State} {m : MethodId} {args : Array Value} {below : List Frame} {meth : Method} {c : Code} {H : Heap} {locs : List Loc} {cells slots : Nat} {Q : State → Prop} {ls : Array Slot} {rest : List Value} {E : eg_X} {D : va_G} {dT : Nat → ClassId}, eg_ctx E D dT sc p s m args meth c u o → va_S (eg_A E) s.heap H locs → (∀ v, eg_v E a v → W p l e R s m args below meth c H locs cells slots Q (F0 m (pc + len) ls (v :: rest))) → W p l e R s m args below meth c H locs cells slots Q (F0 m pc ls rest)) : eg_OK en sc u o pc len (eg_cn a) := by
  intro E D dT p l e R R2 hRR s m args below meth c H locs cells slots Q lsA stc ls st hn h bc bs t ls' st' hn' h' bc' bs' hX hE hI hg K
  obtain ⟨hH, hS, hL, hst, hc1, hc2⟩ := id hI
  cases hg
  exact row hX hS (fun v hv => K H locs cells slots lsA (v :: stc) ⟨hH, hS, hL, ⟨v, stc, rfl, hv, hst⟩, hc1, hc2⟩)
theorem ok_b2 {en : List (Int × Int)} {sc : List Value} {u o pc : Nat} {f : Value → Value → Option Value}
    (row : ∀ {p : Program} {l : Launch} {e : Env} {R : Room} {s : State} {m : MethodId} {args : Array Value} {below : List Frame} {meth : Method} {c : Code} {H : Heap} {locs : List Loc} {cells slots : Nat} {Q : State → Prop} {ls : Array Slot} {rest : List Value} {E : eg_X} {a b r v w : Value}, p.tables.exec = Jvm.exec → c.code = (eg_md u).2.1 → f a b = some r → eg_v E a v → eg_v E b w → (∀ x, eg_v E r x → W p l e R s m args below meth c H locs cells slots Q (F0 m (pc + 1) ls (x :: rest))) → W p l e R s m args below meth c H locs cells slots Q (F0 m pc ls (v :: w :: rest))) : eg_OK en sc u o pc 1 (eg_b2 f) := by
  intro E D dT p l e R R2 hRR s m args below meth c H locs cells slots Q lsA stc ls st hn h bc bs t ls' st' hn' h' bc' bs' hX hE hI hg K
  obtain ⟨hH, hS, hL, hst, hc1, hc2⟩ := id hI
  unfold eg_b2 at hg
  match st, hst, hg with
  | [], _, hg => cases hg
  | [_], _, hg => cases hg
  | a :: b :: st, hst, hg =>
    obtain ⟨v, _, rfl, hv, w, rest, rfl, hw, hr⟩ := hst
    simp only at hg
    cases hf : f a b with
    | none => rw [hf] at hg; cases hg
    | some r =>
      rw [hf] at hg
      cases hg
      exact row hX.1 hX.2.1 hf hv hw (fun x hx => K H locs cells slots lsA (x :: rest) ⟨hH, hS, hL, ⟨x, rest, rfl, hx, hr⟩, hc1, hc2⟩)
theorem ok_b1 {en : List (Int × Int)} {sc : List Value} {u o pc : Nat} {f : Value → Option Value}
    (row : ∀ {p : Program} {l : Launch} {e : Env} {R : Room} {s : State} {m : MethodId} {args : Array Value} {below : List Frame} {meth : Method} {c : Code} {H : Heap} {locs : List Loc} {cells slots : Nat} {Q : State → Prop} {ls : Array Slot} {rest : List Value} {E : eg_X} {a r v : Value}, p.tables.exec = Jvm.exec → c.code = (eg_md u).2.1 → f a = some r → eg_v E a v → (∀ x, eg_v E r x → W p l e R s m args below meth c H locs cells slots Q (F0 m (pc + 1) ls (x :: rest))) → W p l e R s m args below meth c H locs cells slots Q (F0 m pc ls (v :: rest))) : eg_OK en sc u o pc 1 (eg_b1 f) := by
  intro E D dT p l e R R2 hRR s m args below meth c H locs cells slots Q lsA stc ls st hn h bc bs t ls' st' hn' h' bc' bs' hX hE hI hg K
  obtain ⟨hH, hS, hL, hst, hc1, hc2⟩ := id hI
  unfold eg_b1 at hg
  match st, hst, hg with
  | [], _, hg => cases hg
  | a :: st, hst, hg =>
    obtain ⟨v, rest, rfl, hv, hr⟩ := hst
    simp only at hg
    cases hf : f a with
    | none => rw [hf] at hg; cases hg
    | some r =>
      rw [hf] at hg
      cases hg
      exact row hX.1 hX.2.1 hf hv (fun x hx => K H locs cells slots lsA (x :: rest) ⟨hH, hS, hL, ⟨x, rest, rfl, hx, hr⟩, hc1, hc2⟩)
theorem eg_is1_c {E : eg_X} {a v : Value} (h : eg_v E a v) (hi : eg_is1 a = true) : v.category = 1 := by
  rw [eg_v_cat h]
  exact Nat.eq_of_beq_eq_true hi
/-- a change of the stack alone -/
theorem ok_st {en : List (Int × Int)} {sc : List Value} {u o pc : Nat} {g : eg_O} (f : List Value → Option (List Value)) (hgf : ∀ ls st hn h bc bs, g ls st hn h bc bs = (f st).map (fun st' => (0, ls, st', hn, h, bc, bs)))
    (row : ∀ {p : Program} {l : Launch} {e : Env} {R : Room} {s : State} {m : MethodId} {args : Array Value} {below : List Frame} {meth : Method} {c : Code} {H : Heap} {locs : List Loc} {cells slots : Nat} {Q : State → Prop} {ls : Array Slot} {E : eg_X} {st st' stc : List Value}, p.tables.exec = Jvm.exec → c.code = (eg_md u).2.1 → f st = some st' → eg_vs E st stc → (∀ stc', eg_vs E st' stc' → W p l e R s m args below meth c H locs cells slots Q (F0 m (pc + 1) ls stc')) → W p l e R s m args below meth c H locs cells slots Q (F0 m pc ls stc)) : eg_OK en sc u o pc 1 g := by
  intro E D dT p l e R R2 hRR s m args below meth c H locs cells slots Q lsA stc ls st hn h bc bs t ls' st' hn' h' bc' bs' hX hE hI hg K
  obtain ⟨hH, hS, hL, hst, hc1, hc2⟩ := id hI
  rw [hgf] at hg
  cases hf : f st with
  | none => rw [hf] at hg; cases hg
  | some st2 =>
    rw [hf] at hg
    cases hg
    exact row hX.1 hX.2.1 hf hst (fun stc' hs' => K H locs cells slots lsA stc' ⟨hH, hS, hL, hs', hc1, hc2⟩)
