/-! calls -/
theorem eg_tbl_9999 : lw_tbl[9999]? = none := by decide +kernel
theorem eg_md_v {mu : Nat} {y : MethodName} {b : ByteArray} {k : Nat} {r : Option FieldType} (h : lw_tbl[mu]? = some (.code y b k r)) : eg_md mu = (y, b, k, r) := by
  unfold eg_md
  cases hb : Nat.beq mu 9999 with
  | true =>
    rw [Nat.eq_of_beq_eq_true hb, eg_tbl_9999] at h
    cases h
  | false => simp only [h]
def eg_pgok : Prop := ∀ (u : Nat) (q : Nat × Instr × Nat), q ∈ eg_pg u → decode (eg_md u).2.1 q.1 = .ok q.2
def eg_end (sm sp u ik p : Nat) : Prop := (ik = 9 ∧ u = sm ∧ p = sp) ∨ (ik = 3 ∧ decode (eg_md u).2.1 p = .ok (.ireturn, 1)) ∨ (ik = 4 ∧ decode (eg_md u).2.1 p = .ok (.lreturn, 1)) ∨ (ik = 5 ∧ decode (eg_md u).2.1 p = .ok (.return_, 1))
/-- a machine that is run by the engine's answers -/
def eg_S (en : List (Int × Int)) (sc : List Value) (sm sp : Nat) (f : eg_F) : Prop :=
  ∀ (u o dp bc bs pc : Nat) (cs : eg_W) (ls : eg_L) (st : List Value) (hn : Nat) (h : eg_H) (ik' pc' : Nat) (ls' : eg_L) (st' : List Value) (hn' : Nat) (h' : eg_H), f u o dp bc bs pc cs ls st hn h = some (ik', pc', ls', st', hn', h') → (∀ q ∈ cs, decode (eg_md u).2.1 q.1 = .ok q.2) →
  ∀ (E : eg_X) (D : va_G) (dT : Nat → ClassId) (p : Program) (l : Launch) (e : Env) (R R2 : Room) (_ : R2.cells ≤ R.cells ∧ R2.slots ≤ R.slots) (s : State) (m : MethodId) (args : Array Value) (below : List Frame) (meth : Method) (c : Code) (H : Heap) (locs : List Loc) (cells slots : Nat) (Q : State → Prop) (lsA : Array Slot) (stc : List Value),
   eg_ctx E D dT sc p s m args meth c u o → eg_en E en → eg_I E D dT u R2 s H locs cells slots lsA stc ls st hn h bc bs → dp ≤ R.frames → 64 * dp ≤ R.locals →
   (∀ H' locs' cells' slots' lsA' stc', eg_I E D dT u R2 s H' locs' cells' slots' lsA' stc' ls' st' hn' h' 0 0 → eg_end sm sp u ik' pc' → W p l e R s m args below meth c H' locs' cells' slots' Q (F0 m pc' lsA' stc')) →
   W p l e R s m args below meth c H locs cells slots Q (F0 m pc lsA stc)
theorem eg_pop_v {E : eg_X} (n : Nat) : ∀ (st acc as st2 stc accC : List Value), eg_pop n st acc = some (as, st2) → eg_vs E st stc → eg_vs E acc accC → ∃ asC restC, eg_vs E as asC ∧ eg_vs E st2 restC ∧ accC.reverse ++ stc = asC.reverse ++ restC ∧ asC.length = n + accC.length := by
  induction n with
  | zero =>
    intro st acc as st2 stc accC h hs ha
    simp only [eg_pop] at h
    cases h
    exact ⟨accC, stc, ha, hs, rfl, by omega⟩
  | succ n ih =>
    intro st acc as st2 stc accC h hs ha
    cases st with
    | nil => simp only [eg_pop] at h; cases h
    | cons v st =>
      obtain ⟨vc, tc, rfl, hv, ht⟩ := hs
      simp only [eg_pop] at h
      obtain ⟨asC, restC, h1, h2, h3, h4⟩ := ih st (v :: acc) as st2 tc (vc :: accC) h ht ⟨vc, accC, rfl, hv, ha⟩
      refine ⟨asC, restC, h1, h2, ?_, by simp at h4; omega⟩
      rw [← h3]
      simp
def eg_vo (E : eg_X) (vo v : Option Value) : Prop := match vo with
  | none => v = none
  | some a => ∃ w, v = some w ∧ eg_v E a w
theorem eg_rv_v {r : Option FieldType} {ik : Nat} {st : List Value} {vo : Option Value} (h : eg_rv r ik st = some vo) : (ik = 3 ∧ ∃ v, st = [v] ∧ vo = some v ∧ ((r = some .int ∧ eg_isI v = true) ∨ ∃ ty z, r = some ty ∧ v = .int z ∧ narrow ty (.int z) = .int z)) ∨ (ik = 4 ∧ ∃ v, st = [v] ∧ vo = some v ∧ r = some .long ∧ eg_isJ v = true) ∨ (ik = 5 ∧ st = [] ∧ vo = none ∧ r = none) := by
  unfold eg_rv at h
  split at h
  · refine Or.inl ⟨rfl, ?_⟩
    match st, h with
    | [], h => cases h
    | _ :: _ :: _, h => cases h
    | [v], h =>
      refine ⟨v, rfl, ?_⟩
      match r, h with
      | none, h => cases h
      | some .int, h =>
        cases hi : eg_isI v with
        | false => simp only [hi] at h; cases h
        | true => simp only [hi] at h; cases h; exact ⟨rfl, Or.inl ⟨rfl, rfl⟩⟩
      | some .boolean, h =>
        match v, h with
        | .int z, h =>
          cases hi : (z == 0 || z == 1) with
          | false => simp only [hi] at h; cases h
          | true =>
            simp only [hi] at h
            cases h
            have hz : z = 0 ∨ z = 1 := by simpa using hi
            exact ⟨rfl, Or.inr ⟨_, z, rfl, rfl, by rcases hz with rfl | rfl <;> rfl⟩⟩
        | .long _, h => cases h
        | .float _, h => cases h
        | .double _, h => cases h
        | .null, h => cases h
        | .ref _, h => cases h
        | .retAddr _, h => cases h
      | some .byte, h =>
        match v, h with
        | .int z, h =>
          cases hi : (z == 0) with
          | false => simp only [hi] at h; cases h
          | true =>
            simp only [hi] at h
            cases h
            have hz : z = 0 := by simpa using hi
            exact ⟨rfl, Or.inr ⟨_, z, rfl, rfl, by rw [hz]; rfl⟩⟩
        | .long _, h => cases h
        | .float _, h => cases h
        | .double _, h => cases h
        | .null, h => cases h
        | .ref _, h => cases h
        | .retAddr _, h => cases h
      | some .char, h =>
        match v, h with
        | .int z, h =>
          cases hi : (z.toUInt32.toUInt16.toUInt32.toInt32 == z) with
          | false => simp only [hi] at h; cases h
          | true =>
            simp only [hi] at h
            cases h
            have hz : z.toUInt32.toUInt16.toUInt32.toInt32 = z := by simpa using hi
            exact ⟨rfl, Or.inr ⟨_, z, rfl, rfl, by show Value.int z.toUInt32.toUInt16.toUInt32.toInt32 = _; rw [hz]⟩⟩
        | .long _, h => cases h
        | .float _, h => cases h
        | .double _, h => cases h
        | .null, h => cases h
        | .ref _, h => cases h
        | .retAddr _, h => cases h
      | some .short, h => cases h
      | some .long, h => cases h
      | some .float, h => cases h
      | some .double, h => cases h
      | some (.object _), h => cases h
      | some (.array _), h => cases h
  · refine Or.inr (Or.inl ⟨rfl, ?_⟩)
    match st, h with
    | [], h => cases h
    | _ :: _ :: _, h => cases h
    | [v], h =>
      refine ⟨v, rfl, ?_⟩
      simp only at h
      split at h
      · cases hi : eg_isJ v with
        | false => simp only [hi] at h; cases h
        | true => simp only [hi] at h; cases h; exact ⟨rfl, rfl, rfl⟩
      · cases h
  · refine Or.inr (Or.inr ⟨rfl, ?_⟩)
    match st, h with
    | [], h =>
      simp only at h
      split at h
      · cases h; exact ⟨rfl, rfl, rfl⟩
      · cases h
    | _ :: _, h => cases h
  · cases h
/-- what a callee brings back -/
def eg_Qc (E : eg_X) (D : va_G) (dT : Nat → ClassId) (vo : Option Value) (hn : Nat) (h : eg_H) : Array Value → State → Outcome → State → Prop := fun _ st o t => ∃ v : Option Value, o = .returned v ∧ eg_vo E vo v ∧ eg_h E D dT hn h t.heap ∧ va_F (eg_A E) st t
def eg_Pc (E : eg_X) (D : va_G) (dT : Nat → ClassId) (sc asC : List Value) (H : Heap) : Array Value → State → Prop := fun v U => v = asC.toArray ∧ U.heap = H ∧ eg_T E D dT sc U U.heap
theorem eg_Pc_blind {E : eg_X} {D : va_G} {dT : Nat → ClassId} {sc asC : List Value} {H : Heap} : FrameBlind (eg_Pc E D dT sc asC H) := fun a U g mk h => ⟨h.1, h.2.1, eg_T.same h.2.2 rfl⟩
theorem eg_good {y : MethodName} {b : ByteArray} {k : Nat} {r : Option FieldType} {mu : Nat} (h : lw_tbl[mu]? = some (.code y b k r)) : GoodIn eg_ws (Cond.code y b k r :: eg_ws) := by
  intro w hw
  have hin : w ∈ eg_ws := by
    rcases List.mem_cons.mp hw with e | e
    · rw [e]; exact eg_tb_in h rfl
    · exact e
  exact ⟨hin, good_of_word (List.mem_filter.mp hin).2⟩
/-- the callee's contract -/
theorem eg_met {en : List (Int × Int)} {sc : List Value} {sm sp : Nat} {f : eg_F} (hf : eg_S en sc sm sp f) (hpg : eg_pgok) {mu o' d mc ms : Nat} {y : MethodName} {b : ByteArray} {k : Nat} {r : Option FieldType} (hcode : lw_tbl[mu]? = some (.code y b k r)) (hpl : plainName y.cls = true) (hown : eg_own[o']? = some y.cls) (hsm : mu ≠ sm)
    {as : List Value} {hn : Nat} {h : eg_H} {ik' pc' : Nat} {ls' : eg_L} {st' : List Value} {hn' : Nat} {h' : eg_H} {vo : Option Value} (hcat : eg_cat as ≤ k) (hr : f mu o' d mc ms 0 (eg_pg mu) (eg_args 0 as) [] hn h = some (ik', pc', ls', st', hn', h')) (hv : eg_rv r ik' st' = some vo)
    {l : Launch} {E : eg_X} {D : va_G} {dT : Nat → ClassId} (hE : eg_en E en) {asC : List Value} (has : eg_vs E as asC) {H : Heap} (hH : eg_h E D dT hn h H) : Met l y (Cond.code y b k r :: eg_ws) { frames := d, cells := mc, slots := ms, locals := 64 * d } (eg_Pc E D dT sc asC H) (eg_Qc E D dT vo hn' h') mc ms (eg_A E) := by
  have hmd := eg_md_v hcode
  refine Met.ofW (cc := b) (maxL := k) (ret := r) hpl rfl ?_
  intro p e s m args below meth c s₁ B hml hP
  obtain ⟨rfl, hh, hT⟩ := hP
  have hts := atoms_spec (ws := Cond.code y b k r :: eg_ws) B.pre
  have hlocks := B.notSynchronized
  have hret := B.returns
  have hname : meth.name = y.name := (name_of_methodNamed B.named B.method).1
  have hown' : s.vm.findClass y.cls = some m.cls := findClass_of_methodNamed B.named
  have hX : eg_ctx E D dT sc p s m asC.toArray meth c mu o' := ⟨B.exec, by rw [hmd]; exact B.bytes, by rw [hmd]; exact hml, ⟨_, hown, hown'⟩, fun w hw => hts w (List.mem_cons_of_mem _ hw), hT, by rw [hmd]; exact hname⟩
  have hl := lv_entry asC (n := k) (by rw [eg_cat_sl as asC has]; exact hcat)
  rw [lg_entry_eq]
  refine hf mu o' d mc ms 0 _ _ _ _ _ _ _ _ _ _ _ hr (hpg mu) E D dT p l e _ _ ⟨Nat.le_refl _, Nat.le_refl _⟩ s m asC.toArray below meth c s.heap [] 0 0 _ _ [] hX hE ⟨by rw [hh]; exact hH, va_S.rf, ⟨_, eg_ls_args as asC has 0, by rw [hmd]; exact hl⟩, rfl, Nat.le_of_eq (Nat.zero_add mc), Nat.le_of_eq (Nat.zero_add ms)⟩ (Nat.le_refl _) (Nat.le_refl _) ?_
  intro H' locs' cells' slots' lsA' stc' hI hend
  obtain ⟨gH, gS, gL, gst, gc1, gc2⟩ := hI
  have hq : ∀ (v : Option Value), eg_vo E vo v → ∀ t : State, t.heap = H' → s.WarmedH t.vm → eg_Qc E D dT vo hn' h' asC.toArray s (.returned v) t := fun v hv2 t ht _ => ⟨v, rfl, hv2, by rw [ht]; exact gH, gS.F ht⟩
  refine W.widen (k := mc) (n := ms) gc1 gc2 ?_
  have hb : c.code = (eg_md mu).2.1 := hX.2.1
  rcases hend with ⟨-, e2, -⟩ | ⟨e3, hd⟩ | ⟨e3, hd⟩ | ⟨e3, hd⟩
  · exact absurd e2 hsm
  · rcases eg_rv_v hv with ⟨-, v, rfl, rfl, hv3⟩ | ⟨e4, -⟩ | ⟨e4, -⟩
    · obtain ⟨w, _, rfl, hw, rfl⟩ := gst
      rcases hv3 with ⟨rfl, hi⟩ | ⟨ty, z, rfl, rfl, hz⟩
      · obtain ⟨x, rfl⟩ := eg_v_I hw hi
        exact W.iret B.exec hb hret (hq _ ⟨_, rfl, hw⟩) gS.2.2 hd
      · obtain rfl : w = .int z := hw
        exact W.zret B.exec hb hret hz (hq _ ⟨_, rfl, rfl⟩) gS.2.2 hd
    · omega
    · omega
  · rcases eg_rv_v hv with ⟨e4, -⟩ | ⟨-, v, rfl, rfl, rfl, hi⟩ | ⟨e4, -⟩
    · omega
    · obtain ⟨w, _, rfl, hw, rfl⟩ := gst
      obtain ⟨x, rfl⟩ := eg_v_J hw hi
      exact W.lret B.exec hb hret (hq _ ⟨_, rfl, hw⟩) gS.2.2 hd
    · omega
  · rcases eg_rv_v hv with ⟨e4, -⟩ | ⟨e4, -⟩ | ⟨-, rfl, rfl, rfl⟩
    · omega
    · omega
    · obtain rfl : stc' = [] := gst
      exact W.vret B.exec hb hret (hq _ rfl) gS.2.2 hd
/-- behind a call -/
theorem eg_behind {p : Program} {l : Launch} {e : Env} {R : Room} {s : State} {m : MethodId} {args : Array Value} {below : List Frame} {meth : Method} {c : Code} {H : Heap} {locs : List Loc} {cells slots mc ms pc : Nat} {Q : State → Prop} {ls : Array Slot} {st0 rest : List Value} {E : eg_X} {D : va_G} {dT : Nat → ClassId} {vo : Option Value} {hn : Nat} {h : eg_H} {a : Array Value} (hr : va_Run p l e R s m args below meth c H locs cells slots mc ms (F0 m pc ls st0) rest (eg_Qc E D dT vo hn h a) (eg_A E)) (hS : va_S (eg_A E) s.heap H locs)
    (kk : ∀ (v : Option Value) (H1 : Heap) (locs1 : List Loc), eg_vo E vo v → eg_h E D dT hn h H1 → va_S (eg_A E) s.heap H1 locs1 → W p l e R s m args below meth c H1 locs1 (cells + mc) (slots + ms) Q (F0 m (pc + 3) ls (v.toList ++ rest))) : W p l e R s m args below meth c H locs cells slots Q (F0 m pc ls st0) := by
  intro T hT X
  obtain ⟨v, st₀, t, T', L, h0, X', hL, e1, e2, ⟨v', hv', hvo, hh, hz, hk⟩, st⟩ := hr T hT X
  cases hv'
  rw [h0] at hz hk
  obtain ⟨t2, a1, b1⟩ := kk v T'.heap (locs ++ L) hvo (by rw [e1]; exact hh)
    ⟨Nat.le_trans hS.1 (by rw [e1]; exact hz), fun q h1 h2 => by rw [e1, hk q (Nat.lt_of_lt_of_le h1 hS.1) h2]; exact hS.2.1 q h1 h2, fun q hq => by
      rcases List.mem_append.mp hq with h | h
      · exact hS.2.2 q h
      · exact hL q h⟩ T' rfl X'
  exact ⟨t2, st t2 a1, b1⟩
