/-! THE CLAIM OUT OF ONE WALK OF THE LAW'S BODY -/
def R_law : String := "PromiseTreesLaw"
def lw_P (b : Addr) (xs : List Int32) (args : Array Value) (s : State) : Prop := args = #[.ref b] ∧ s.IntsAt b xs ∧ xs.length ≤ 3072 ∧ (Jvm.Cond.and given_1 narrow_1).before args s = true
def lw_Q (_ : Array Value) (s : State) (o : Outcome) (t : State) : Prop := o = .returned (some (.int 1)) ∧ Framed s o t [] 601024 7293034
def lw_Z (below : List Frame) (a : Array Value) (s : State) : State → Prop := fun t => ∃ o, t.status = .running ∧ Ended t below o ∧ lw_Q a s o t
/-- the law's own end, with 1 on the stack, nothing written that was there before, its room as the claim has it -/
theorem lw_ret {p : Program} {l : Launch} {e : Env} {s : State} {m : MethodId} {below : List Frame} {meth : Method} {c : Code} {b : Nat} (hx : p.tables.exec = Jvm.exec) (hb : c.code = code) (hr : meth.sig.returnType = ret) (hlocks : meth.locks = false) {pc : Nat} {H : Heap} {ls : Array Slot} (hdg : decode code pc = .ok (.ireturn, 1)) : W p l e room_1 s m #[Value.ref b] below meth c H [] 601024 7293034 (lw_Z below #[Value.ref b] s) (F0 m pc ls [.int 1]) := by
  intro T hT X
  obtain ⟨fs, hret, hrun, hended, hW, hframe⟩ := X.leave (v := some (.int 1)) (hlocks := hlocks) (fun h => by rw [hr] at h; cases h)
  have hmeth' : T.vm.method? m = some meth := X.method'
  refine ⟨T.setFrames fs, ?_, .returned (some (.int 1)), hrun, hended, rfl, ⟨_, rfl⟩, hW, hframe⟩
  jvm_step X.here [X.here.top, hx, hb, hdg, hmeth', hr, ret, narrow_b1]
  (try refine ⟨rfl, ?_⟩); (try refine ⟨rfl, ?_⟩)
  first | (intro acts; rw [hret _ acts rfl rfl rfl]) | rw [hret _ _ rfl rfl rfl]
  exact Steps.refl _
/-- what holds at the law's entry -/
def lw_At (p : Program) (s : State) (m : MethodId) (meth : Method) (c : Code) (b L : Nat) (xs : Nat → Int32) : Prop :=
  p.tables.exec = Jvm.exec ∧ c.code = code ∧ meth.sig.returnType = ret ∧ c.maxLocals = 7 ∧ s.vm.findClass R_law = some m.cls ∧ (∀ w ∈ lw_tbl, w.before #[Value.ref b] s = true) ∧ va_X b L xs s s.heap ∧ b < s.heap.size ∧ meth.locks = false ∧ (Jvm.Cond.and given_1 narrow_1).before #[Value.ref b] s = true ∧ meth.name = x.name
theorem lw_d4 : decode code 362 = .ok (.invokestatic 41, 3) := by decide +kernel
theorem lw_d5 : decode code 402 = .ok (.invokestatic 47, 3) := by decide +kernel
theorem lw_d9 : decode code 1299 = .ok (.ireturn, 1) := by decide +kernel
theorem lw_rep {α : Type} {v w : α} (n : Nat) : ∀ k, eg_nth (eg_rep v n) k = some w → w = v := by
  induction n with
  | zero => intro k h; cases h
  | succ n ih =>
    intro k h
    cases k with
    | zero => cases h; rfl
    | succ k => exact ih k h
theorem lw_h0 {a : Nat} {c : eg_C} (h : eg_get eg_h0 a = some c) : c = .inl (99, []) := by
  unfold eg_get eg_h0 at h
  split at h
  next r hr =>
    rw [lw_rep _ _ hr] at h
    exact lw_rep _ _ h
  next => cases h
/-- beyond eg_T, at the entry -/
theorem lw_xc {s : State} {b : Nat} {E : eg_X} (hE1 : E.1 = s.heap.size) (hgv : (Jvm.Cond.and given_1 narrow_1).before #[Value.ref b] s = true) (hts : ∀ w ∈ lw_tbl, w.before #[Value.ref b] s = true) : xc_T E s s.heap := by
  have hs : ∀ (i : Nat) (w : Cond), st_fl[i]? = some w → w.before #[Value.ref b] s = true := fun i w h => flat_of_before _ hgv w (List.mem_of_getElem? h)
  have hA : ∀ a : Nat, a < s.heap.size → ¬ eg_A E a := fun a h => by unfold eg_A; rw [hE1]; exact Nat.not_le.mpr h
  refine ⟨fun w hw hd => va_Nw.of ?_ (hts w hw), vx_Zqof (hts _ (List.mem_of_getElem? (i := 1395) (by decide +kernel))) (hts _ (List.mem_of_getElem? (i := 137) (by decide +kernel))) (hs 9 _ (by decide +kernel)) hA, vx_Zqof (hts _ (List.mem_of_getElem? (i := 1397) (by decide +kernel))) (hts _ (List.mem_of_getElem? (i := 137) (by decide +kernel))) (hs 10 _ (by decide +kernel)) hA⟩
  cases w with
  | castable C T => rfl
  | declares y => rfl
  | _ => cases hd
/-! the law's locals -/
theorem lg_vl {ν : Nat → Int} {n : Nat} {ls : eg_L} {i : Int} (h : lg_L ls i) (h2 : ν 2 = i) (hn : 2 < n) : ab_vl ν n lg_ls ls := by
  obtain ⟨h0, h1, h3, h4, x, h5, h6⟩ := h
  intro k A hm
  simp only [lg_ls, List.mem_cons, List.not_mem_nil, or_false, Prod.mk.injEq] at hm
  rcases hm with ⟨rfl, rfl⟩ | ⟨rfl, rfl⟩ | ⟨rfl, rfl⟩ | ⟨rfl, rfl⟩ | ⟨rfl, rfl⟩
  · exact ⟨_, h0, rfl⟩
  · exact ⟨_, h1, rfl⟩
  · exact ⟨_, h3, rfl⟩
  · exact ⟨_, h4, rfl⟩
  · refine ⟨_, h5, x, rfl, hn, ?_⟩
    show x.toInt = ν 2 + (0 : Int)
    omega
theorem lg_lv {ν : Nat → Int} {n : Nat} {ls : eg_L} {d : Int} (h : ab_vl ν n [(0, .inr 1), (1, .inr 2), (2, .inr 184), (3, .inr 206), (4, .inl (2, d))] ls) : lg_L ls (ν 2 + d) := by
  obtain ⟨v0, f0, e0⟩ := h 0 _ List.mem_cons_self
  obtain ⟨v1, f1, e1⟩ := h 1 _ (List.mem_cons_of_mem _ List.mem_cons_self)
  obtain ⟨v2, f2, e2⟩ := h 2 _ (List.mem_cons_of_mem _ (List.mem_cons_of_mem _ List.mem_cons_self))
  obtain ⟨v3, f3, e3⟩ := h 3 _ (List.mem_cons_of_mem _ (List.mem_cons_of_mem _ (List.mem_cons_of_mem _ List.mem_cons_self)))
  obtain ⟨v4, f4, x, e4, -, e5⟩ := h 4 _ (List.mem_cons_of_mem _ (List.mem_cons_of_mem _ (List.mem_cons_of_mem _ (List.mem_cons_of_mem _ List.mem_cons_self))))
  obtain rfl : v0 = .float 1 := e0
  obtain rfl : v1 = .ref 0 := e1
  obtain rfl : v2 = .ref 182 := e2
  obtain rfl : v3 = .ref 204 := e3
  obtain rfl : v4 = .int x := e4
  exact ⟨f0, f1, f2, f3, x, f4, e5⟩
def lg_nu (L : Nat) (i x : Int) : Nat → Int
  | 0 => 0
  | 1 => L
  | 2 => i
  | _ => x
def lg_P3 : ab_S := (3, [(1, .ofNat 0, .ofNat 3072, false, none), (2, .ofNat 0, .ofNat 3072, false, none)], lg_ls, [], [])
def lg_P4 (lo hi : Int) : ab_S := (4, [(1, .ofNat 0, .ofNat 3072, false, some (2, .ofNat 6)), (2, .ofNat 0, .ofNat 3072, false, none), (3, lo, hi, false, none)], lg_ls, [.inl (3, .ofNat 0)], [])
theorem lg_e0 {ν : Nat → Int} {n : Nat} : ab_e ν n [] := fun j B h => by cases h
theorem lg_v0 {ν : Nat → Int} {n : Nat} {h : eg_H} : ab_vo ν n [] h := fun key j d hf => by cases hf
theorem lg_r3 {L : Nat} {i : Int} {ls : eg_L} {h : eg_H} (hL : L ≤ 3072) (h0 : 0 ≤ i) (h1 : i ≤ 3072) (hl : lg_L ls i) (hp : ab_hp h) : ab_r L (lg_nu L i 0) lg_P3 ls [] h := by
  refine ⟨⟨by decide, rfl, rfl⟩, (lg_e0.cons ?_).cons ?_, lg_vl hl rfl (by decide), rfl, lg_v0, hp⟩
  · refine ⟨by decide, h0, h1, (fun h => by cases h), fun b r hb => by cases hb⟩
  · refine ⟨by decide, ?_, ?_, (fun h => by cases h), fun b r hb => by cases hb⟩
    · show (0 : Int) ≤ (L : Int)
      omega
    · show (L : Int) ≤ (3072 : Int)
      omega
theorem lg_r4 {L : Nat} {i lo hi : Int} {x : Int32} {ls : eg_L} {h : eg_H} (hL : L ≤ 3072) (h0 : 0 ≤ i) (h1 : i + 6 ≤ L) (hl : lg_L ls i) (hp : ab_hp h) (h2 : lo ≤ x.toInt) (h3 : x.toInt ≤ hi) : ab_r L (lg_nu L i x.toInt) (lg_P4 lo hi) ls [.int x] h := by
  refine ⟨⟨show 2 ≤ 4 by decide, rfl, rfl⟩, ((lg_e0.cons ?_).cons ?_).cons ?_, lg_vl hl rfl (show 2 < 4 by decide), ⟨_, _, rfl, ⟨x, rfl, show 3 < 4 by decide, ?_⟩, rfl⟩, lg_v0, hp⟩
  · exact ⟨show 3 < 4 by decide, h2, h3, (fun h => by cases h), fun b r hb => by cases hb⟩
  · refine ⟨show 2 < 4 by decide, h0, ?_, (fun h => by cases h), fun b r hb => by cases hb⟩
    show i ≤ (3072 : Int)
    omega
  · refine ⟨show 1 < 4 by decide, ?_, ?_, (fun h => by cases h), fun b r hb => ?_⟩
    · show (0 : Int) ≤ (L : Int)
      omega
    · show (L : Int) ≤ (3072 : Int)
      omega
    · cases hb
      refine ⟨show 2 < 4 by decide, ?_⟩
      show i + (6 : Int) ≤ (L : Int)
      exact h1
  · show x.toInt = x.toInt + (0 : Int)
    omega
/-! a piece of the law's code -/
def lg_e (sp pc : Nat) : Bool := match eg_seek pc (eg_pg 9999) with
  | (_, i, len) :: _ => Nat.beq pc sp || (match eg_ks i len with
    | some (ik, _) => Nat.ble 3 ik
    | none => false)
  | [] => false
theorem lg_ev {sc : List Value} {sp dq pc : Nat} {ls : eg_L} {st : List Value} {h : eg_H} (c : lg_e sp pc = true) : ∃ ik, ab_Ev sc sp 9999 12 dq pc ls st h (ik, pc, ls, st, 999, h) := by
  unfold lg_e at c
  split at c
  next p i len cs hs =>
    obtain rfl := eg_seek_hd hs
    cases hsp : Nat.beq p sp with
    | true =>
      refine ⟨9, 1, ?_⟩
      show eg_step [] sc 9999 sp (eg_run [] sc 9999 sp 0) 9999 12 dq 0 0 p (eg_seek p (eg_pg 9999)) ls st 999 h = _
      rw [hs]
      simp only [eg_step, Nat.beq_refl, hsp, Bool.and_self]
    | false =>
      rw [hsp] at c
      simp only [Bool.false_or] at c
      split at c
      next ik' k hk =>
        refine ⟨ik', 1, ?_⟩
        show eg_step [] sc 9999 sp (eg_run [] sc 9999 sp 0) 9999 12 dq 0 0 p (eg_seek p (eg_pg 9999)) ls st 999 h = _
        rw [hs]
        have hhd : eg_hd [] sc 9999 12 p i len = none := by
          unfold eg_ks at hk
          unfold eg_hd
          cases hl : eg_lok i len with
          | false => rfl
          | true =>
            rw [hl] at hk
            simp only at hk ⊢
            cases i with
            | invokevirtual j => cases hk; cases c
            | invokespecial j => cases hk; cases c
            | invokestatic j => cases hk; cases c
            | ireturn => rfl
            | lreturn => rfl
            | return_ => rfl
            | _ => cases (show (none : Option (Nat × Nat)) = some (ik', k) from hk)
        simp only [eg_step, Nat.beq_refl, hsp, Bool.false_and, hhd, hk, c]
      next => cases c
  next => cases c
section LG
variable {l : Launch} {p : Program} {e : Env} {s : State} {m : MethodId} {below : List Frame} {meth : Method} {c : Code} {b : Nat} {E : eg_X} {D : va_G} {dT : Nat → ClassId} {sc : List Value} {Q : State → Prop}
theorem lg_seg (hX : eg_ctx E D dT sc p s m #[Value.ref b] meth c 9999 12) {R2 : Room} (hR2 : R2.cells ≤ room_1.cells ∧ R2.slots ≤ room_1.slots) {sp : Nat} {q : ab_Q} (hq : ab_trs sc sp q) (e1 : q.1 = 9999) (e2 : q.2.1 = 12) (hn : q.2.2.2.1 ≤ 40) (hends : ∀ x ∈ q.2.2.2.2.2.2.1, lg_e sp x.1 = true) {ν : Nat → Int} {ls : eg_L} {st : List Value} {h : eg_H} (hr : ab_r sc.length ν q.2.2.2.2.1 ls st h) {H : Heap} {locs : List Loc} {cells slots : Nat} {lsA : Array Slot} {stc : List Value} (hI : eg_I E D dT 9999 R2 s H locs cells slots lsA stc ls st 999 h 0 0)
    (K : ∀ x ∈ q.2.2.2.2.2.2.1, ∀ (ν' : Nat → Int) (ls' : eg_L) (st' : List Value) (h' : eg_H), ab_r sc.length ν' x.2 ls' st' h' → ab_ext ν ν' q.2.2.2.2.1.1 → ab_fr q.2.2.2.2.2.1 h' h → ∀ (H' : Heap) (locs' : List Loc) (cells' slots' : Nat) (lsA' : Array Slot) (stc' : List Value), eg_I E D dT 9999 R2 s H' locs' cells' slots' lsA' stc' ls' st' 999 h' 0 0 → W p l e room_1 s m #[Value.ref b] below meth c H' locs' cells' slots' Q (F0 m x.1 lsA' stc')) : W p l e room_1 s m #[Value.ref b] below meth c H locs cells slots Q (F0 m q.2.2.1 lsA stc) := by
  obtain ⟨-, -, ht⟩ := hq
  obtain ⟨x, hx, ν', ls', st', h', g1, g2, g3, g4, g5⟩ := ht 40 hn ν ls st h hr
  rw [e1, e2] at g5
  obtain ⟨ik, hev⟩ := lg_ev (sc := sc) (dq := 40) (ls := ls') (st := st') (h := h') (hends x hx)
  obtain ⟨n, hrun⟩ := g5 _ hev
  refine (eg_run_ok eg_pg_ok n) 9999 12 40 0 0 _ _ _ _ _ _ _ _ _ _ _ _ hrun (fun z hz => eg_pg_ok 9999 z (eg_seek_mem hz)) E D dT p l e room_1 R2 hR2 s m _ below meth c H locs cells slots _ lsA stc hX (fun j r hj => by cases hj) hI (by show 40 ≤ 2048; decide) (by show 64 * 40 ≤ 84000; decide) ?_
  intro H' locs' cells' slots' lsA' stc' hI' hend
  exact K x hx ν' ls' st' h' g1 g2 g4 H' locs' cells' slots' lsA' stc' hI'
/-- a piece walked by hand -/
theorem lg_hs (hX : eg_ctx E D dT sc p s m #[Value.ref b] meth c 9999 12) {R2 : Room} (hR2 : R2.cells ≤ room_1.cells ∧ R2.slots ≤ room_1.slots) {sp pc : Nat} {ls : eg_L} {st : List Value} {h : eg_H} {Kh : Nat → eg_L → List Value → eg_H → Prop} (hq : hs sc sp 9999 12 40 Kh pc ls st h) (hends : ∀ pc' ls' st' h', Kh pc' ls' st' h' → lg_e sp pc' = true) {H : Heap} {locs : List Loc} {cells slots : Nat} {lsA : Array Slot} {stc : List Value} (hI : eg_I E D dT 9999 R2 s H locs cells slots lsA stc ls st 999 h 0 0)
    (K : ∀ (pc' : Nat) (ls' : eg_L) (st' : List Value) (h' : eg_H), Kh pc' ls' st' h' → ∀ (H' : Heap) (locs' : List Loc) (cells' slots' : Nat) (lsA' : Array Slot) (stc' : List Value), eg_I E D dT 9999 R2 s H' locs' cells' slots' lsA' stc' ls' st' 999 h' 0 0 → W p l e room_1 s m #[Value.ref b] below meth c H' locs' cells' slots' Q (F0 m pc' lsA' stc')) : W p l e room_1 s m #[Value.ref b] below meth c H locs cells slots Q (F0 m pc lsA stc) := by
  obtain ⟨pc', ls', st', h', g5, hk⟩ := hq
  obtain ⟨ik, hev⟩ := lg_ev (sc := sc) (dq := 40) (ls := ls') (st := st') (h := h') (hends _ _ _ _ hk)
  obtain ⟨n, hrun⟩ := g5 _ hev
  refine (eg_run_ok eg_pg_ok n) 9999 12 40 0 0 _ _ _ _ _ _ _ _ _ _ _ _ hrun (fun z hz => eg_pg_ok 9999 z (eg_seek_mem hz)) E D dT p l e room_1 R2 hR2 s m _ below meth c H locs cells slots _ lsA stc hX (fun j r hj => by cases hj) hI (by show 40 ≤ 2048; decide) (by show 64 * 40 ≤ 84000; decide) ?_
  intro H' locs' cells' slots' lsA' stc' hI' hend
  exact K pc' ls' st' h' hk H' locs' cells' slots' lsA' stc' hI'
/-- the room while n turns are left -/
def lg_R (n : Nat) : Room := { frames := 2048, cells := 601024 - n, slots := 7293034 - 6 * n, locals := 84000 }
theorem lg_R_le (n : Nat) : (lg_R n).cells ≤ room_1.cells ∧ (lg_R n).slots ≤ room_1.slots := ⟨by show 601024 - n ≤ 601024; omega, by show 7293034 - 6 * n ≤ 7293034; omega⟩
def lg_e40 : ab_S := (4, [(1, .ofNat 0, .ofNat 3072, false, some (2, .ofNat 6)), (3, .ofNat 0, .ofNat 63, false, none)], lg_ls, [.inl (3, .ofNat 0)], [])
def lg_e99 : ab_S := (3, [], [], [.inl (0, .ofNat 1)], [])
def lg_e92 : ab_S := (4, [], lg_ls, [], [])
def lg_eP : ab_S := (6, [(4, .negSucc 2147483647, .ofNat 2147483647, false, none), (5, .negSucc 2147483647, .ofNat 2147483647, false, none)], lg_ls, [.inr 206, .inl (4, .ofNat 0), .inl (5, .ofNat 0), .inr 2], [])
def lg_e23 : ab_S := (3, [], [(0, .inr 1), (1, .inr 2), (2, .inr 184), (3, .inr 206), (4, .inl (2, .ofNat 6))], [], [])
theorem lg_q1 : sm_lH.2.2.2.2.2.2.1 = [(40, lg_e40), (1299, lg_e99)] := rfl
theorem lg_q2 : sm_lP.2.2.2.2.2.2.1 = [(362, lg_eP)] := rfl
theorem lg_q3 : sm_lM.2.2.2.2.2.2.1 = [(402, lg_eP)] := rfl
theorem lg_q4 : sm_l3.2.2.2.2.2.2.1 = [(335, lg_e92)] := rfl
theorem lg_q5 : sm_lB.2.2.2.2.2.2.1 = [(1292, lg_e92)] := rfl
theorem lg_q9 : sm_lC.2.2.2.2.2.2.1 = [(1292, lg_e92)] := rfl
theorem lg_q10 : sm_lD.2.2.2.2.2.2.1 = [(1292, lg_e92)] := rfl
theorem lg_q11 : sm_lE.2.2.2.2.2.2.1 = [(1292, lg_e92)] := rfl
theorem lg_q12 : sm_l1.2.2.2.2.2.2.1 = [(297, lg_e92)] := rfl
theorem lg_q13 : sm_l35.2.2.2.2.2.2.1 = [(1129, lg_e92)] := rfl
theorem lg_q14 : sm_l0.2.2.2.2.2.2.1 = [(224, lg_e92)] := rfl
theorem lg_q15 : sm_l2.2.2.2.2.2.2.1 = [(322, lg_e92)] := rfl
theorem lg_q16 : sm_l39.2.2.2.2.2.2.1 = [(1217, lg_e92)] := rfl
theorem lg_q17 : sm_l40.2.2.2.2.2.2.1 = [(1242, lg_e92)] := rfl
theorem lg_q18 : sm_l37.2.2.2.2.2.2.1 = [(1179, lg_e92)] := rfl
theorem lg_q19 : sm_lG.2.2.2.2.2.2.1 = [(1292, lg_e92)] := rfl
def lg_eZ : ab_S := (4, [], lg_ls, [], [(1025, 0, .ofNat 0), (186370, 0, .ofNat 0)])
theorem lg_z24 : sm_lZ24.2.2.2.2.2.2.1 = [(1292, lg_eZ)] := rfl
theorem lg_q6 : sm_l365.2.2.2.2.2.2.1 = [(1292, lg_e92)] := rfl
theorem lg_q7 : sm_l405.2.2.2.2.2.2.1 = [(1292, lg_e92)] := rfl
theorem lg_q8 : sm_lI.2.2.2.2.2.2.1 = [(23, lg_e23)] := rfl
theorem lg_t1 : lg_e 40 40 = true ∧ lg_e 40 1299 = true := by decide +kernel
theorem lg_t2 : lg_e 362 362 = true := by decide +kernel
theorem lg_t3 : lg_e 402 402 = true := by decide +kernel
theorem lg_t4 : lg_e 1292 1292 = true := by decide +kernel
theorem lg_t8 : lg_e 23 23 = true := by decide +kernel
theorem lg_one {a x : Nat × ab_S} (h : x ∈ [a]) : x = a := by
  rcases List.mem_cons.mp h with e | e
  · exact e
  · cases e
/-- the law's end is come to -/
theorem lg_done (hE1 : E.1 = s.heap.size) (hX : eg_ctx E D dT sc p s m #[Value.ref b] meth c 9999 12) (hr : meth.sig.returnType = ret) (hlocks : meth.locks = false) {n : Nat} {H : Heap} {locs : List Loc} {cells slots : Nat} {lsA : Array Slot} {stc : List Value} {ls : eg_L} {h : eg_H} (hI : eg_I E D dT 9999 (lg_R n) s H locs cells slots lsA stc ls [.int 1] 999 h 0 0) : W p l e room_1 s m #[Value.ref b] below meth c H locs cells slots (lw_Z below #[Value.ref b] s) (F0 m 1299 lsA stc) := by
  obtain ⟨gH, gS, gL, gst, gc1, gc2⟩ := hI
  obtain ⟨w, _, rfl, hw, rfl⟩ := gst
  obtain rfl : w = .int 1 := hw
  refine va_forget (fun q hq => by rw [← hE1]; exact gS.2.2 q hq) ?_
  have k1 : cells + 0 ≤ 601024 - n := gc1
  have k2 : slots + 0 ≤ 7293034 - 6 * n := gc2
  refine W.widen (k := 601024) (n := 7293034) (by omega) (by omega) ?_
  exact lw_ret hX.1 hX.2.1 hr hlocks lw_d9
theorem lg_head (hs : ab_osc sc) (hL : sc.length ≤ 3072) (hX : eg_ctx E D dT sc p s m #[Value.ref b] meth c 9999 12) {n : Nat} {i : Int} (h0 : 0 ≤ i) (h1 : i ≤ 3072) {H : Heap} {locs : List Loc} {cells slots : Nat} {lsA : Array Slot} {stc : List Value} {ls : eg_L} {h : eg_H} (hl : lg_L ls i) (hp : ab_hp h ∧ jj h) (hI : eg_I E D dT 9999 (lg_R n) s H locs cells slots lsA stc ls [] 999 h 0 0)
    (Kd : ∀ (H' : Heap) (locs' : List Loc) (cells' slots' : Nat) (lsA' : Array Slot) (stc' : List Value) (ls' : eg_L) (h' : eg_H), eg_I E D dT 9999 (lg_R n) s H' locs' cells' slots' lsA' stc' ls' [.int 1] 999 h' 0 0 → W p l e room_1 s m #[Value.ref b] below meth c H' locs' cells' slots' Q (F0 m 1299 lsA' stc'))
    (K : i + 6 ≤ sc.length → ∀ (x : Int32) (H' : Heap) (locs' : List Loc) (cells' slots' : Nat) (lsA' : Array Slot) (stc' : List Value) (ls' : eg_L) (h' : eg_H), 0 ≤ x.toInt → x.toInt ≤ 63 → lg_L ls' i → ab_hp h' ∧ jj h' → eg_I E D dT 9999 (lg_R n) s H' locs' cells' slots' lsA' stc' ls' [.int x] 999 h' 0 0 → W p l e room_1 s m #[Value.ref b] below meth c H' locs' cells' slots' Q (F0 m 40 lsA' stc')) :
    W p l e room_1 s m #[Value.ref b] below meth c H locs cells slots Q (F0 m 23 lsA stc) := by
  refine lg_seg hX (lg_R_le n) (tr_lH hs) rfl rfl (by decide) (fun x hx => ?_) (ν := lg_nu sc.length i 0) (lg_r3 hL h0 h1 hl hp.1) hI (fun x hx ν' ls' st' h' g1 g2 g4 H' locs' cells' slots' lsA' stc' hI' => ?_)
  · rw [lg_q1] at hx
    rcases List.mem_cons.mp hx with rfl | hx
    · exact lg_t1.1
    · rw [lg_one hx]; exact lg_t1.2
  · rw [lg_q1] at hx
    rcases List.mem_cons.mp hx with rfl | hx
    · obtain ⟨⟨-, -, k1⟩, ke, kl, kst, -, kp⟩ := g1
      have e2 : ν' 2 = i := g2 2 (by decide)
      obtain ⟨-, -, -, -, b5⟩ := ke 1 _ rfl
      have b6 := (b5 2 _ rfl).2
      obtain ⟨-, b7, b8, -⟩ := ke 3 _ rfl
      obtain ⟨_, t, rfl, ⟨x, rfl, -, hx⟩, ht⟩ := kst
      obtain rfl : t = [] := ht
      have hx : x.toInt = ν' 3 + (0 : Int) := hx
      have b6 : ν' 2 + (6 : Int) ≤ ν' 1 := b6
      have b7 : (0 : Int) ≤ ν' 3 := b7
      have b8 : ν' 3 ≤ (63 : Int) := b8
      have k9 := lg_lv kl
      have e3 : ν' 2 + Int.ofNat 0 = i := by rw [e2]; exact Int.add_zero i
      rw [e3] at k9
      exact K (by omega) x H' locs' cells' slots' lsA' stc' ls' h' (by omega) (by omega) k9 ⟨kp, jj_fr (by decide +kernel) g4 hp.2⟩ hI'
    · obtain rfl := lg_one hx
      obtain ⟨⟨-, k0, -⟩, -, -, kst, -, -⟩ := g1
      obtain ⟨_, t, rfl, ⟨x, rfl, -, hx⟩, ht⟩ := kst
      obtain rfl : t = [] := ht
      have hx : x.toInt = ν' 0 + (1 : Int) := hx
      have hx1 : x = 1 := Int32.toInt_inj.mp (by rw [hx, k0]; decide)
      subst hx1
      exact Kd H' locs' cells' slots' lsA' stc' ls' h' hI'
/-- a piece that ends at 1292 -/
theorem lg_s92 (hL : sc.length ≤ 3072) (hX : eg_ctx E D dT sc p s m #[Value.ref b] meth c 9999 12) {q : ab_Q} {lo hi : Int} {pc : Nat} (hq : ab_trs sc 1292 q) (e1 : q.1 = 9999) (e2 : q.2.1 = 12) (e3 : q.2.2.1 = pc) (hn : q.2.2.2.1 ≤ 40) (hP : q.2.2.2.2.1 = lg_P4 lo hi) (hE : q.2.2.2.2.2.2.1 = [(1292, lg_e92)]) (hM : jj_ck q.2.2.2.2.2.1 = true) {n : Nat} {i : Int} (h0 : 0 ≤ i) (h1 : i + 6 ≤ sc.length) {x : Int32} (h2 : lo ≤ x.toInt) (h3 : x.toInt ≤ hi) {H : Heap} {locs : List Loc} {cells slots : Nat} {lsA : Array Slot} {stc : List Value} {ls : eg_L} {h : eg_H} (hl : lg_L ls i) (hp : ab_hp h ∧ jj h) (hI : eg_I E D dT 9999 (lg_R n) s H locs cells slots lsA stc ls [.int x] 999 h 0 0)
    (K : ∀ (H' : Heap) (locs' : List Loc) (cells' slots' : Nat) (lsA' : Array Slot) (stc' : List Value) (ls' : eg_L) (h' : eg_H), lg_L ls' i → ab_hp h' ∧ jj h' → eg_I E D dT 9999 (lg_R n) s H' locs' cells' slots' lsA' stc' ls' [] 999 h' 0 0 → W p l e room_1 s m #[Value.ref b] below meth c H' locs' cells' slots' Q (F0 m 1292 lsA' stc')) :
    W p l e room_1 s m #[Value.ref b] below meth c H locs cells slots Q (F0 m pc lsA stc) := by
  rw [← e3]
  refine lg_seg hX (lg_R_le n) hq e1 e2 hn (fun z hz => ?_) (ν := lg_nu sc.length i x.toInt) (by rw [hP]; exact lg_r4 hL h0 h1 hl hp.1 h2 h3) hI (fun z hz ν' ls' st' h' g1 g2 g4 H' locs' cells' slots' lsA' stc' hI' => ?_)
  · rw [hE] at hz
    rw [lg_one hz]; exact lg_t4
  · rw [hE] at hz
    obtain rfl := lg_one hz
    obtain ⟨-, -, kl, kst, -, kp⟩ := g1
    obtain rfl : st' = [] := kst
    have e4 : ν' 2 = i := g2 2 (by rw [hP]; exact (show 2 < 4 by decide))
    have k9 := lg_lv kl
    have e5 : ν' 2 + Int.ofNat 0 = i := by rw [e4]; exact Int.add_zero i
    rw [e5] at k9
    exact K H' locs' cells' slots' lsA' stc' ls' h' k9 ⟨kp, jj_fr hM g4 hp.2⟩ hI'
/-- a piece that ends ahead of a walk by hand -/
theorem lg_sto (hL : sc.length ≤ 3072) (hX : eg_ctx E D dT sc p s m #[Value.ref b] meth c 9999 12) {q : ab_Q} {lo hi : Int} {pc t : Nat} (hq : ab_trs sc t q) (e1 : q.1 = 9999) (e2 : q.2.1 = 12) (e3 : q.2.2.1 = pc) (hn : q.2.2.2.1 ≤ 40) (hP : q.2.2.2.2.1 = lg_P4 lo hi) (hE : q.2.2.2.2.2.2.1 = [(t, lg_e92)]) (hM : jj_ck q.2.2.2.2.2.1 = true) (ht : lg_e t t = true) {n : Nat} {i : Int} (h0 : 0 ≤ i) (h1 : i + 6 ≤ sc.length) {x : Int32} (h2 : lo ≤ x.toInt) (h3 : x.toInt ≤ hi) {H : Heap} {locs : List Loc} {cells slots : Nat} {lsA : Array Slot} {stc : List Value} {ls : eg_L} {h : eg_H} (hl : lg_L ls i) (hp : ab_hp h ∧ jj h) (hI : eg_I E D dT 9999 (lg_R n) s H locs cells slots lsA stc ls [.int x] 999 h 0 0)
    (K : ∀ (H' : Heap) (locs' : List Loc) (cells' slots' : Nat) (lsA' : Array Slot) (stc' : List Value) (ls' : eg_L) (h' : eg_H), lg_L ls' i → ab_hp h' ∧ jj h' → eg_I E D dT 9999 (lg_R n) s H' locs' cells' slots' lsA' stc' ls' [] 999 h' 0 0 → W p l e room_1 s m #[Value.ref b] below meth c H' locs' cells' slots' Q (F0 m t lsA' stc')) :
    W p l e room_1 s m #[Value.ref b] below meth c H locs cells slots Q (F0 m pc lsA stc) := by
  rw [← e3]
  refine lg_seg hX (lg_R_le n) hq e1 e2 hn (fun z hz => ?_) (ν := lg_nu sc.length i x.toInt) (by rw [hP]; exact lg_r4 hL h0 h1 hl hp.1 h2 h3) hI (fun z hz ν' ls' st' h' g1 g2 g4 H' locs' cells' slots' lsA' stc' hI' => ?_)
  · rw [hE] at hz
    rw [lg_one hz]; exact ht
  · rw [hE] at hz
    obtain rfl := lg_one hz
    obtain ⟨-, -, kl, kst, -, kp⟩ := g1
    obtain rfl : st' = [] := kst
    have e4 : ν' 2 = i := g2 2 (by rw [hP]; exact (show 2 < 4 by decide))
    have k9 := lg_lv kl
    have e5 : ν' 2 + Int.ofNat 0 = i := by rw [e4]; exact Int.add_zero i
    rw [e5] at k9
    exact K H' locs' cells' slots' lsA' stc' ls' h' k9 ⟨kp, jj_fr hM g4 hp.2⟩ hI'
theorem lg_sZ (hL : sc.length ≤ 3072) (hX : eg_ctx E D dT sc p s m #[Value.ref b] meth c 9999 12) {q : ab_Q} {lo hi : Int} {pc : Nat} (hq : ab_trs sc 1292 q) (e1 : q.1 = 9999) (e2 : q.2.1 = 12) (e3 : q.2.2.1 = pc) (hn : q.2.2.2.1 ≤ 40) (hP : q.2.2.2.2.1 = lg_P4 lo hi) (hE : q.2.2.2.2.2.2.1 = [(1292, lg_eZ)]) (hK : jk_ck q.2.2.2.2.2.1 = true) (hR : jq_ck q.2.2.2.2.2.1 = true) {n : Nat} {i : Int} (h0 : 0 ≤ i) (h1 : i + 6 ≤ sc.length) {x : Int32} (h2 : lo ≤ x.toInt) (h3 : x.toInt ≤ hi) {H : Heap} {locs : List Loc} {cells slots : Nat} {lsA : Array Slot} {stc : List Value} {ls : eg_L} {h : eg_H} (hl : lg_L ls i) (hp : ab_hp h ∧ jj h) (hI : eg_I E D dT 9999 (lg_R n) s H locs cells slots lsA stc ls [.int x] 999 h 0 0)
    (K : ∀ (H' : Heap) (locs' : List Loc) (cells' slots' : Nat) (lsA' : Array Slot) (stc' : List Value) (ls' : eg_L) (h' : eg_H), lg_L ls' i → ab_hp h' ∧ jj h' → eg_I E D dT 9999 (lg_R n) s H' locs' cells' slots' lsA' stc' ls' [] 999 h' 0 0 → W p l e room_1 s m #[Value.ref b] below meth c H' locs' cells' slots' Q (F0 m 1292 lsA' stc')) :
    W p l e room_1 s m #[Value.ref b] below meth c H locs cells slots Q (F0 m pc lsA stc) := by
  rw [← e3]
  refine lg_seg hX (lg_R_le n) hq e1 e2 hn (fun z hz => ?_) (ν := lg_nu sc.length i x.toInt) (by rw [hP]; exact lg_r4 hL h0 h1 hl hp.1 h2 h3) hI (fun z hz ν' ls' st' h' g1 g2 g4 H' locs' cells' slots' lsA' stc' hI' => ?_)
  · rw [hE] at hz
    rw [lg_one hz]; exact lg_t4
  · rw [hE] at hz
    obtain rfl := lg_one hz
    have z0 : ν' 0 = 0 := g1.1.2.1
    have z1 : (hv h' 1 1).toInt = ν' 0 + .ofNat 0 := g1.ov 1 1 (j := 0) (d := .ofNat 0) rfl (by decide)
    have z2 : (hv h' 182 2).toInt = ν' 0 + .ofNat 0 := g1.ov 182 2 (j := 0) (d := .ofNat 0) rfl (by decide)
    have z3 : ν' 0 + Int.ofNat 0 = 0 := by rw [z0]; rfl
    have hz' : jj h' := ⟨jt_z (h := h) (z1.trans z3) (z2.trans z3) (jk_fr hK g4 hp.2.1.2.2), jq_fr hR g4 hp.2.2⟩
    obtain ⟨-, -, kl, kst, -, kp⟩ := g1
    obtain rfl : st' = [] := kst
    have e4 : ν' 2 = i := g2 2 (by rw [hP]; exact (show 2 < 4 by decide))
    have k9 := lg_lv kl
    have e5 : ν' 2 + Int.ofNat 0 = i := by rw [e4]; exact Int.add_zero i
    rw [e5] at k9
    exact K H' locs' cells' slots' lsA' stc' ls' h' k9 ⟨kp, hz'⟩ hI'
/-- to the next turn -/
theorem lg_next (hs : ab_osc sc) (hL : sc.length ≤ 3072) (hX : eg_ctx E D dT sc p s m #[Value.ref b] meth c 9999 12) {n : Nat} {i : Int} (h0 : 0 ≤ i) (h1 : i ≤ 3072) {H : Heap} {locs : List Loc} {cells slots : Nat} {lsA : Array Slot} {stc : List Value} {ls : eg_L} {h : eg_H} (hl : lg_L ls i) (hp : ab_hp h ∧ jj h) (hI : eg_I E D dT 9999 (lg_R n) s H locs cells slots lsA stc ls [] 999 h 0 0)
    (K : ∀ (H' : Heap) (locs' : List Loc) (cells' slots' : Nat) (lsA' : Array Slot) (stc' : List Value) (ls' : eg_L) (h' : eg_H), lg_L ls' (i + 6) → ab_hp h' ∧ jj h' → eg_I E D dT 9999 (lg_R n) s H' locs' cells' slots' lsA' stc' ls' [] 999 h' 0 0 → W p l e room_1 s m #[Value.ref b] below meth c H' locs' cells' slots' Q (F0 m 23 lsA' stc')) :
    W p l e room_1 s m #[Value.ref b] below meth c H locs cells slots Q (F0 m 1292 lsA stc) := by
  refine lg_seg hX (lg_R_le n) (tr_lI hs) rfl rfl (by decide) (fun z hz => ?_) (ν := lg_nu sc.length i 0) (lg_r3 hL h0 h1 hl hp.1) hI (fun z hz ν' ls' st' h' g1 g2 g4 H' locs' cells' slots' lsA' stc' hI' => ?_)
  · rw [lg_q8] at hz
    rw [lg_one hz]; exact lg_t8
  · rw [lg_q8] at hz
    obtain rfl := lg_one hz
    obtain ⟨-, -, kl, kst, -, kp⟩ := g1
    obtain rfl : st' = [] := kst
    have e4 : ν' 2 = i := g2 2 (by decide)
    have k9 := lg_lv kl
    rw [e4] at k9
    exact K H' locs' cells' slots' lsA' stc' ls' h' k9 ⟨kp, jj_fr (by decide +kernel) g4 hp.2⟩ hI'
/-- behind a helper's call -/
theorem pm_behind {R : Room} {args : Array Value} {H : Heap} {locs : List Loc} {cells slots mc ms pc : Nat} {ls : Array Slot} {st0 rest : List Value} {a : Array Value} {h : eg_H} (hr : va_Run p l e R s m args below meth c H locs cells slots mc ms (F0 m pc ls st0) rest (pm_Q E D dT h a) (eg_A E)) (hS : va_S (eg_A E) s.heap H locs)
    (kk : ∀ (r : Int32) (h2 : eg_H) (H1 : Heap) (locs1 : List Loc), ab_hp h2 ∧ ab_fr [(204, 0, 0)] h2 h → eg_h E D dT 999 h2 H1 → va_S (eg_A E) s.heap H1 locs1 → W p l e R s m args below meth c H1 locs1 (cells + mc) (slots + ms) Q (F0 m (pc + 3) ls (.int r :: rest))) : W p l e R s m args below meth c H locs cells slots Q (F0 m pc ls st0) := by
  intro T hT X
  obtain ⟨v, st₀, t, T', L, h0, X', hL, e1, e2, ⟨r, h2, hv', hp2, hh, hz, hk⟩, st⟩ := hr T hT X
  cases hv'
  rw [h0] at hz hk
  obtain ⟨t2, a1, b1⟩ := kk r h2 T'.heap (locs ++ L) hp2 (by rw [e1]; exact hh)
    ⟨Nat.le_trans hS.1 (by rw [e1]; exact hz), fun q h1 h2 => by rw [e1, hk q (Nat.lt_of_lt_of_le h1 hS.1) h2]; exact hS.2.1 q h1 h2, fun q hq => by
      rcases List.mem_append.mp hq with h | h
      · exact hS.2.2 q h
      · exact hL q h⟩ T' rfl X'
  exact ⟨t2, st t2 a1, b1⟩
/-- of one helper: what the law's call asks -/
def lg_hp (yH : MethodName) (bH : ByteArray) : Prop := ∀ (l : Launch), l.stackTraces = false → ∀ (E : eg_X) (D : va_G) (dT : Nat → ClassId) (sc : List Value), ab_osc sc → ∀ h : eg_H, ab_hp h → ∀ H : Heap, eg_h E D dT 999 h H → ∀ a1 a2 : Int32, Met l yH (Cond.codeWith yH bH 5 (some .int) hp_hh :: eg_ws) { frames := 13, cells := 1, slots := 6, locals := 832 } (xc_Pc E D dT sc [.ref E.1, .int a1, .int a2, .ref (E.1 + 204)] H) (pm_Q E D dT h) 1 6 (eg_A E)
theorem lg_hp4 : lg_hp hp_y4 method_3_code := fun l hl E D dT sc hs h hp H hH a1 a2 => hq_met ⟨by decide +kernel, rfl⟩ hp_u4 hp_w4 hp_d4 rfl hp_s4 hp hH (pm_met (hi := 9) hp_u4 (by decide +kernel) rfl pm_b4 xt_4 hl hH (pm_w (q := sm_hasP) (k := 147) tr_hasP (by decide +kernel) rfl rfl rfl rfl (by decide +kernel) (by decide +kernel) (by decide +kernel) (by decide +kernel) (by decide +kernel) (by decide +kernel) (by decide +kernel) (by decide +kernel) (by decide +kernel) hs hp a1 a2) (pm_r (q := sm_pr29) tr_pr29 rfl rfl rfl (by decide) rfl rfl (by decide +kernel) (by decide) hs a1 a2))
theorem lg_hp5 : lg_hp hp_y5 method_4_code := fun l hl E D dT sc hs h hp H hH a1 a2 => hq_met ⟨by decide +kernel, rfl⟩ hp_u5 hp_w5 hp_d5 rfl hp_s5 hp hH (pm_met (hi := 5) hp_u5 (by decide +kernel) rfl pm_b5 xt_5 hl hH (pm_w (q := sm_hasM) (k := 182) tr_hasM (by decide +kernel) rfl rfl rfl rfl (by decide +kernel) (by decide +kernel) (by decide +kernel) (by decide +kernel) (by decide +kernel) (by decide +kernel) (by decide +kernel) (by decide +kernel) (by decide +kernel) hs hp a1 a2) (pm_r (q := sm_mn28) tr_mn28 rfl rfl rfl (by decide) rfl rfl (by decide +kernel) (by decide) hs a1 a2))
theorem lw_g4 : GoodIn eg_ws (va_wsS hp_L 41 hp_y4 (Cond.codeWith hp_y4 method_3_code 5 (some .int) hp_hh :: eg_ws)) := by
  intro w hw
  have hin : w ∈ eg_ws := by
    rcases List.mem_append.mp hw with hw | hw
    · simp only [List.mem_cons, List.not_mem_nil, or_false] at hw
      rcases hw with rfl | rfl | rfl
      · exact eg_tb_in (p := 1360) (by decide +kernel) rfl
      · exact eg_tb_in (p := 1361) (by decide +kernel) rfl
      · exact eg_tb_in (p := 119) (by decide +kernel) rfl
    · rcases List.mem_cons.mp hw with rfl | hw
      · exact eg_tb_in hp_k4 rfl
      · exact hw
  exact ⟨hin, good_of_word (List.mem_filter.mp hin).2⟩
theorem lw_g5 : GoodIn eg_ws (va_wsS hp_L 47 hp_y5 (Cond.codeWith hp_y5 method_4_code 5 (some .int) hp_hh :: eg_ws)) := by
  intro w hw
  have hin : w ∈ eg_ws := by
    rcases List.mem_append.mp hw with hw | hw
    · simp only [List.mem_cons, List.not_mem_nil, or_false] at hw
      rcases hw with rfl | rfl | rfl
      · exact eg_tb_in (p := 1430) (by decide +kernel) rfl
      · exact eg_tb_in (p := 1431) (by decide +kernel) rfl
      · exact eg_tb_in (p := 119) (by decide +kernel) rfl
    · rcases List.mem_cons.mp hw with rfl | hw
      · exact eg_tb_in hp_k5 rfl
      · exact hw
  exact ⟨hin, good_of_word (List.mem_filter.mp hin).2⟩
theorem lw_n4 : hp_y4.cls ≠ "java/lang/invoke/MethodHandle" ∧ hp_y4.cls ≠ "java/lang/invoke/VarHandle" ∧ (parseMethodDescriptor hp_y4.desc).map (fun d => d.parameters.length) = some 4 := by decide +kernel
theorem lw_n5 : hp_y5.cls ≠ "java/lang/invoke/MethodHandle" ∧ hp_y5.cls ≠ "java/lang/invoke/VarHandle" ∧ (parseMethodDescriptor hp_y5.desc).map (fun d => d.parameters.length) = some 4 := by decide +kernel
set_option maxHeartbeats 4000000 in
/-- an op that goes through a helper -/
theorem lg_help {sp ix : Nat} {yH : MethodName} {bH : ByteArray} (hH : lg_hp yH bH) (hg : GoodIn eg_ws (va_wsS hp_L ix yH (Cond.codeWith yH bH 5 (some .int) hp_hh :: eg_ws))) (hn4 : yH.cls ≠ "java/lang/invoke/MethodHandle" ∧ yH.cls ≠ "java/lang/invoke/VarHandle" ∧ (parseMethodDescriptor yH.desc).map (fun d => d.parameters.length) = some 4) (hd : decode code sp = .ok (.invokestatic ix, 3))
    {q : ab_Q} (hq : ab_trs sc sp q) (e1 : q.1 = 9999) (e2 : q.2.1 = 12) (e3 : q.2.2.1 = 40) (hnd : q.2.2.2.1 ≤ 40) {lo hi : Int} (hP : q.2.2.2.2.1 = lg_P4 lo hi) (hEn : q.2.2.2.2.2.2.1 = [(sp, lg_eP)]) (hM : jj_ck q.2.2.2.2.2.1 = true) (hsp : lg_e sp sp = true)
    (hl : l.stackTraces = false) (hs : ab_osc sc) (hL : sc.length ≤ 3072) (hX : eg_ctx E D dT sc p s m #[Value.ref b] meth c 9999 12) (hown : s.vm.findClass hp_L = some m.cls) (hxc : xc_T E s s.heap) {n : Nat} (hn : n ≤ 512) {i : Int} (h0 : 0 ≤ i) (h1 : i + 6 ≤ sc.length) {x : Int32} (h2 : lo ≤ x.toInt) (h3 : x.toInt ≤ hi) {H : Heap} {locs : List Loc} {cells slots : Nat} {lsA : Array Slot} {stc : List Value} {ls : eg_L} {h : eg_H} (hll : lg_L ls i) (hp : ab_hp h ∧ jj h) (hI : eg_I E D dT 9999 (lg_R (n + 1)) s H locs cells slots lsA stc ls [.int x] 999 h 0 0)
    (K : ∀ (r : Int32) (H' : Heap) (locs' : List Loc) (cells' slots' : Nat) (lsA' : Array Slot) (stc' : List Value) (ls' : eg_L) (h' : eg_H), lg_L ls' i → ab_hp h' ∧ jj h' → eg_I E D dT 9999 (lg_R n) s H' locs' cells' slots' lsA' stc' ls' [.int r] 999 h' 0 0 → W p l e room_1 s m #[Value.ref b] below meth c H' locs' cells' slots' Q (F0 m (sp + 3) lsA' stc')) :
    W p l e room_1 s m #[Value.ref b] below meth c H locs cells slots Q (F0 m 40 lsA stc) := by
  rw [← e3]
  refine lg_seg hX (lg_R_le (n + 1)) hq e1 e2 hnd (fun z hz => ?_) (ν := lg_nu sc.length i x.toInt) (by rw [hP]; exact lg_r4 hL h0 h1 hll hp.1 h2 h3) hI (fun z hz ν' ls' st' h' g1 g2 g4 H' locs' cells' slots' lsA' stc' hI' => ?_)
  · rw [hEn] at hz
    rw [lg_one hz]; exact hsp
  · rw [hEn] at hz
    obtain rfl := lg_one hz
    obtain ⟨-, -, kl, kst, -, kp⟩ := g1
    have e4 : ν' 2 = i := g2 2 (by rw [hP]; exact (show 2 < 4 by decide))
    have k9 := lg_lv kl
    have e5 : ν' 2 + Int.ofNat 0 = i := by rw [e4]; exact Int.add_zero i
    rw [e5] at k9
    obtain ⟨v4, _, rfl, u4, v3, _, rfl, ⟨a2, u3, -⟩, v2, _, rfl, ⟨a1, u2, -⟩, v1, _, rfl, u1, u0⟩ := kst
    obtain rfl : v4 = .ref 204 := u4
    subst u3
    subst u2
    obtain rfl : v1 = .ref 0 := u1
    subst u0
    obtain ⟨gH, gS, ⟨lvc, gL, gLv⟩, gst, gc1, gc2⟩ := hI'
    obtain ⟨w4, _, rfl, y4, w3, _, rfl, y3, w2, _, rfl, y2, w1, _, rfl, y1, rfl⟩ := gst
    obtain rfl : w4 = .ref (E.1 + 204) := y4
    obtain rfl : w3 = .int a2 := y3
    obtain rfl : w2 = .int a1 := y2
    obtain rfl : w1 = .ref E.1 := y1
    have hc1 : cells' + 0 ≤ 601024 - (n + 1) := gc1
    have hc2 : slots' + 0 ≤ 7293034 - 6 * (n + 1) := gc2
    have hts : ∀ w ∈ eg_ws, w.before #[Value.ref b] s = true := hX.2.2.2.2.1
    have hrn := vx_runSW (p := p) (l := l) (e := e) (R := room_1) (s := s) (m := m) (args := #[Value.ref b]) (below := below) (meth := meth) (c := c) (H := H') (locs := locs') (cells := cells') (slots := slots') (g := F0 m sp lsA' [.ref (E.1 + 204), .int a2, .int a1, .ref E.1]) (As := [.ref E.1, .int a1, .int a2, .ref (E.1 + 204)]) (rest := []) (cc := code) (nL := 7) (own := hp_L) (Ts := eg_ws) (index := ix) ⟨hX.1, hX.2.1, hX.2.2.1, hown, hts⟩ (hH l hl E D dT sc hs h' kp H' gH a1 a2)
      (vx_cwSW 4 hts hg rfl rfl rfl hn4 ⟨by show 13 + 1 ≤ 2048; decide, by show 8 + (5 + 11) + 832 ≤ 84000; decide⟩) ⟨xc_Pc_blind, fun U hU hW => ⟨rfl, hU, by rw [hU]; exact hX.2.2.2.2.2.1.move hW gS.1 gS.2.1, by rw [hU]; exact hxc.move hW gS.2.1⟩⟩ rfl rfl gLv.1 rfl (lv_room (by show 0 ≤ 8; decide)) hd ⟨by show cells' + 1 ≤ 601024; omega, by show slots' + 6 ≤ 7293034; omega⟩
    refine pm_behind hrn gS (fun r h2 H1 locs1 hp2 hH1 hS1 => ?_)
    exact K r H1 locs1 (cells' + 1) (slots' + 6) lsA' [.int r] ls' h2 k9 ⟨hp2.1, jj_fr (by decide +kernel) hp2.2 (jj_fr hM g4 hp.2)⟩ ⟨hH1, hS1, ⟨lvc, gL, gLv⟩, ⟨_, _, rfl, rfl, rfl⟩, by show cells' + 1 + 0 ≤ 601024 - n; omega, by show slots' + 6 + 0 ≤ 7293034 - 6 * n; omega⟩
theorem lg_up {u : Nat} {H : Heap} {locs : List Loc} {cells slots : Nat} {lsA : Array Slot} {stc : List Value} {ls : eg_L} {st : List Value} {h : eg_H} {n : Nat} (hI : eg_I E D dT u (lg_R (n + 1)) s H locs cells slots lsA stc ls st 999 h 0 0) : eg_I E D dT u (lg_R n) s H locs cells slots lsA stc ls st 999 h 0 0 := by
  obtain ⟨gH, gS, gL, gst, gc1, gc2⟩ := hI
  have hc1 : cells + 0 ≤ 601024 - (n + 1) := gc1
  have hc2 : slots + 0 ≤ 7293034 - 6 * (n + 1) := gc2
  exact ⟨gH, gS, gL, gst, by show cells + 0 ≤ 601024 - n; omega, by show slots + 0 ≤ 7293034 - 6 * n; omega⟩
/-- one turn -/
theorem lg_body (hl : l.stackTraces = false) (hs : ab_osc sc) (hL : sc.length ≤ 3072) (hX : eg_ctx E D dT sc p s m #[Value.ref b] meth c 9999 12) (hown : s.vm.findClass hp_L = some m.cls) (hxc : xc_T E s s.heap) {n : Nat} (hn : n ≤ 512) {i : Int} (h0 : 0 ≤ i) (h1 : i + 6 ≤ sc.length) {x : Int32} (h2 : 0 ≤ x.toInt) (h3 : x.toInt ≤ 63) {H : Heap} {locs : List Loc} {cells slots : Nat} {lsA : Array Slot} {stc : List Value} {ls : eg_L} {h : eg_H} (hll : lg_L ls i) (hp : ab_hp h ∧ jj h) (hI : eg_I E D dT 9999 (lg_R (n + 1)) s H locs cells slots lsA stc ls [.int x] 999 h 0 0)
    (K : ∀ (H' : Heap) (locs' : List Loc) (cells' slots' : Nat) (lsA' : Array Slot) (stc' : List Value) (ls' : eg_L) (h' : eg_H), lg_L ls' i → ab_hp h' ∧ jj h' → eg_I E D dT 9999 (lg_R n) s H' locs' cells' slots' lsA' stc' ls' [] 999 h' 0 0 → W p l e room_1 s m #[Value.ref b] below meth c H' locs' cells' slots' Q (F0 m 1292 lsA' stc')) :
    W p l e room_1 s m #[Value.ref b] below meth c H locs cells slots Q (F0 m 40 lsA stc) := by
  by_cases c0 : x.toInt = 0
  · refine lg_sto (lo := .ofNat 0) (hi := .ofNat 0) (t := 224) hL hX (tr_l0 hs) rfl rfl rfl (by decide) rfl lg_q14 (by decide +kernel) (by decide +kernel) h0 h1 (by show (0 : Int) ≤ x.toInt; omega) (by show x.toInt ≤ (0 : Int); omega) hll hp hI (fun H' locs' cells' slots' lsA' stc' ls' h' k1 k2 k3 => ?_)
    refine lg_hs hX (lg_R_le (n + 1)) (hl_0 (d := 25) hs hL h0 h1 k1 k2.1 k2.2) (fun pc2 ls2 st2 h2 g => by rw [g.1]; exact lg_t4) k3 (fun pc2 ls2 st2 h2 g H2 locs2 cells2 slots2 lsA2 stc2 hI2 => ?_)
    obtain ⟨rfl, rfl, rfl, g4, g5⟩ := g
    exact K H2 locs2 cells2 slots2 lsA2 stc2 ls2 h2 k1 ⟨g4, g5⟩ (lg_up hI2)
  by_cases c4 : x.toInt = 4
  · refine lg_help (lo := .ofNat 4) (hi := .ofNat 4) lg_hp4 lw_g4 lw_n4 lw_d4 (tr_lP hs) rfl rfl rfl (by decide) rfl lg_q2 (by decide +kernel) lg_t2 hl hs hL hX hown hxc hn h0 h1 (by rw [c4]; decide) (by rw [c4]; decide) hll hp hI (fun r H' locs' cells' slots' lsA' stc' ls' h' k1 k2 k3 => ?_)
    exact lg_s92 hL hX (tr_l365 hs) rfl rfl rfl (by decide) rfl lg_q6 (by decide +kernel) h0 h1 (Int32.le_toInt r) (Int32.toInt_le r) k1 k2 k3 K
  by_cases c5 : x.toInt = 5
  · refine lg_help (lo := .ofNat 5) (hi := .ofNat 5) lg_hp5 lw_g5 lw_n5 lw_d5 (tr_lM hs) rfl rfl rfl (by decide) rfl lg_q3 (by decide +kernel) lg_t3 hl hs hL hX hown hxc hn h0 h1 (by rw [c5]; decide) (by rw [c5]; decide) hll hp hI (fun r H' locs' cells' slots' lsA' stc' ls' h' k1 k2 k3 => ?_)
    exact lg_s92 hL hX (tr_l405 hs) rfl rfl rfl (by decide) rfl lg_q7 (by decide +kernel) h0 h1 (Int32.le_toInt r) (Int32.toInt_le r) k1 k2 k3 K
  by_cases c1 : x.toInt = 1
  · refine lg_sto (lo := .ofNat 1) (hi := .ofNat 1) (t := 297) hL hX (tr_l1 hs) rfl rfl rfl (by decide) rfl lg_q12 (by decide +kernel) (by decide +kernel) h0 h1 (by show (1 : Int) ≤ x.toInt; omega) (by show x.toInt ≤ (1 : Int); omega) hll hp hI (fun H' locs' cells' slots' lsA' stc' ls' h' k1 k2 k3 => ?_)
    refine lg_hs hX (lg_R_le (n + 1)) (hl_1 (d := 25) hs hL h0 h1 k1 k2.1 k2.2) (fun pc2 ls2 st2 h2 g => by rw [g.1]; exact lg_t4) k3 (fun pc2 ls2 st2 h2 g H2 locs2 cells2 slots2 lsA2 stc2 hI2 => ?_)
    obtain ⟨rfl, rfl, rfl, g4, g5⟩ := g
    exact K H2 locs2 cells2 slots2 lsA2 stc2 ls2 h2 k1 ⟨g4, g5⟩ (lg_up hI2)
  by_cases c2 : x.toInt = 2
  · refine lg_sto (lo := .ofNat 2) (hi := .ofNat 2) (t := 322) hL hX (tr_l2 hs) rfl rfl rfl (by decide) rfl lg_q15 (by decide +kernel) (by decide +kernel) h0 h1 (by show (2 : Int) ≤ x.toInt; omega) (by show x.toInt ≤ (2 : Int); omega) hll hp hI (fun H' locs' cells' slots' lsA' stc' ls' h' k1 k2 k3 => ?_)
    refine lg_hs hX (lg_R_le (n + 1)) (hl_2 (d := 25) hs hL h0 h1 k1 k2.1 k2.2) (fun pc2 ls2 st2 h2 g => by rw [g.1]; exact lg_t4) k3 (fun pc2 ls2 st2 h2 g H2 locs2 cells2 slots2 lsA2 stc2 hI2 => ?_)
    obtain ⟨rfl, rfl, rfl, g4, g5⟩ := g
    exact K H2 locs2 cells2 slots2 lsA2 stc2 ls2 h2 k1 ⟨g4, g5⟩ (lg_up hI2)
  by_cases c3 : x.toInt = 3
  · refine lg_sto (lo := .ofNat 3) (hi := .ofNat 3) (t := 335) hL hX (tr_l3 hs) rfl rfl rfl (by decide) rfl lg_q4 (by decide +kernel) (by decide +kernel) h0 h1 (by show (3 : Int) ≤ x.toInt; omega) (by show x.toInt ≤ (3 : Int); omega) hll hp hI (fun H' locs' cells' slots' lsA' stc' ls' h' k1 k2 k3 => ?_)
    refine lg_hs hX (lg_R_le (n + 1)) (hl_3 (d := 25) hs hL h0 h1 k1 k2.1 k2.2) (fun pc2 ls2 st2 h2 g => by rw [g.1]; exact lg_t4) k3 (fun pc2 ls2 st2 h2 g H2 locs2 cells2 slots2 lsA2 stc2 hI2 => ?_)
    obtain ⟨rfl, rfl, rfl, g4, g5⟩ := g
    exact K H2 locs2 cells2 slots2 lsA2 stc2 ls2 h2 k1 ⟨g4, g5⟩ (lg_up hI2)
  by_cases c6 : x.toInt ≤ 23
  · exact lg_s92 (lo := .ofNat 6) (hi := .ofNat 23) hL hX (tr_lB hs) rfl rfl rfl (by decide) rfl lg_q5 (by decide +kernel) h0 h1 (by show (6 : Int) ≤ x.toInt; omega) (by show x.toInt ≤ (23 : Int); omega) hll hp hI (fun H' locs' cells' slots' lsA' stc' ls' h' k1 k2 k3 => K H' locs' cells' slots' lsA' stc' ls' h' k1 k2 (lg_up k3))
  by_cases c24 : x.toInt = 24
  · exact lg_sZ (lo := .ofNat 24) (hi := .ofNat 24) hL hX (tr_lZ24 hs) rfl rfl rfl (by decide) rfl lg_z24 (by decide +kernel) (by decide +kernel) h0 h1 (by show (24 : Int) ≤ x.toInt; omega) (by show x.toInt ≤ (24 : Int); omega) hll hp hI (fun H' locs' cells' slots' lsA' stc' ls' h' k1 k2 k3 => K H' locs' cells' slots' lsA' stc' ls' h' k1 k2 (lg_up k3))
  by_cases c7 : x.toInt ≤ 34
  · exact lg_s92 (lo := .ofNat 25) (hi := .ofNat 34) hL hX (tr_lC hs) rfl rfl rfl (by decide) rfl lg_q9 (by decide +kernel) h0 h1 (by show (25 : Int) ≤ x.toInt; omega) (by show x.toInt ≤ (34 : Int); omega) hll hp hI (fun H' locs' cells' slots' lsA' stc' ls' h' k1 k2 k3 => K H' locs' cells' slots' lsA' stc' ls' h' k1 k2 (lg_up k3))
  by_cases c35 : x.toInt = 35
  · refine lg_sto (lo := .ofNat 35) (hi := .ofNat 35) (t := 1129) hL hX (tr_l35 hs) rfl rfl rfl (by decide) rfl lg_q13 (by decide +kernel) (by decide +kernel) h0 h1 (by show (35 : Int) ≤ x.toInt; omega) (by show x.toInt ≤ (35 : Int); omega) hll hp hI (fun H' locs' cells' slots' lsA' stc' ls' h' k1 k2 k3 => ?_)
    refine lg_hs hX (lg_R_le (n + 1)) (hl_35 (d := 25) hs hL h0 h1 k1 k2.1 k2.2) (fun pc2 ls2 st2 h2 g => by rw [g.1]; exact lg_t4) k3 (fun pc2 ls2 st2 h2 g H2 locs2 cells2 slots2 lsA2 stc2 hI2 => ?_)
    obtain ⟨rfl, rfl, rfl, g4, g5⟩ := g
    exact K H2 locs2 cells2 slots2 lsA2 stc2 ls2 h2 k1 ⟨g4, g5⟩ (lg_up hI2)
  by_cases c8 : x.toInt ≤ 36
  · exact lg_s92 (lo := .ofNat 36) (hi := .ofNat 36) hL hX (tr_lD hs) rfl rfl rfl (by decide) rfl lg_q10 (by decide +kernel) h0 h1 (by show (36 : Int) ≤ x.toInt; omega) (by show x.toInt ≤ (36 : Int); omega) hll hp hI (fun H' locs' cells' slots' lsA' stc' ls' h' k1 k2 k3 => K H' locs' cells' slots' lsA' stc' ls' h' k1 k2 (lg_up k3))
  by_cases c37 : x.toInt = 37
  · refine lg_sto (lo := .ofNat 37) (hi := .ofNat 37) (t := 1179) hL hX (tr_l37 hs) rfl rfl rfl (by decide) rfl lg_q18 (by decide +kernel) (by decide +kernel) h0 h1 (by show (37 : Int) ≤ x.toInt; omega) (by show x.toInt ≤ (37 : Int); omega) hll hp hI (fun H' locs' cells' slots' lsA' stc' ls' h' k1 k2 k3 => ?_)
    refine lg_hs hX (lg_R_le (n + 1)) (hl_37 (d := 1) hs hL h0 h1 k1 k2.1 k2.2) (fun pc2 ls2 st2 h2 g => by rw [g.1]; exact lg_t4) k3 (fun pc2 ls2 st2 h2 g H2 locs2 cells2 slots2 lsA2 stc2 hI2 => ?_)
    obtain ⟨rfl, rfl, rfl, g4, g5⟩ := g
    exact K H2 locs2 cells2 slots2 lsA2 stc2 ls2 h2 k1 ⟨g4, g5⟩ (lg_up hI2)
  by_cases c38 : x.toInt ≤ 38
  · exact lg_s92 (lo := .ofNat 38) (hi := .ofNat 38) hL hX (tr_lE hs) rfl rfl rfl (by decide) rfl lg_q11 (by decide +kernel) h0 h1 (by show (38 : Int) ≤ x.toInt; omega) (by show x.toInt ≤ (38 : Int); omega) hll hp hI (fun H' locs' cells' slots' lsA' stc' ls' h' k1 k2 k3 => K H' locs' cells' slots' lsA' stc' ls' h' k1 k2 (lg_up k3))
  by_cases c39 : x.toInt = 39
  · refine lg_sto (lo := .ofNat 39) (hi := .ofNat 39) (t := 1217) hL hX (tr_l39 hs) rfl rfl rfl (by decide) rfl lg_q16 (by decide +kernel) (by decide +kernel) h0 h1 (by show (39 : Int) ≤ x.toInt; omega) (by show x.toInt ≤ (39 : Int); omega) hll hp hI (fun H' locs' cells' slots' lsA' stc' ls' h' k1 k2 k3 => ?_)
    refine lg_hs hX (lg_R_le (n + 1)) (hl_39 (d := 25) hs hL h0 h1 k1 k2.1 k2.2) (fun pc2 ls2 st2 h2 g => by rw [g.1]; exact lg_t4) k3 (fun pc2 ls2 st2 h2 g H2 locs2 cells2 slots2 lsA2 stc2 hI2 => ?_)
    obtain ⟨rfl, rfl, rfl, g4, g5⟩ := g
    exact K H2 locs2 cells2 slots2 lsA2 stc2 ls2 h2 k1 ⟨g4, g5⟩ (lg_up hI2)
  by_cases c40 : x.toInt = 40
  · refine lg_sto (lo := .ofNat 40) (hi := .ofNat 40) (t := 1242) hL hX (tr_l40 hs) rfl rfl rfl (by decide) rfl lg_q17 (by decide +kernel) (by decide +kernel) h0 h1 (by show (40 : Int) ≤ x.toInt; omega) (by show x.toInt ≤ (40 : Int); omega) hll hp hI (fun H' locs' cells' slots' lsA' stc' ls' h' k1 k2 k3 => ?_)
    refine lg_hs hX (lg_R_le (n + 1)) (hl_40 (d := 25) hs hL h0 h1 k1 k2.1 k2.2) (fun pc2 ls2 st2 h2 g => by rw [g.1]; exact lg_t4) k3 (fun pc2 ls2 st2 h2 g H2 locs2 cells2 slots2 lsA2 stc2 hI2 => ?_)
    obtain ⟨rfl, rfl, rfl, g4, g5⟩ := g
    exact K H2 locs2 cells2 slots2 lsA2 stc2 ls2 h2 k1 ⟨g4, g5⟩ (lg_up hI2)
  exact lg_s92 (lo := .ofNat 41) (hi := .ofNat 63) hL hX (tr_lG hs) rfl rfl rfl (by decide) rfl lg_q19 (by decide +kernel) h0 h1 (by show (41 : Int) ≤ x.toInt; omega) (by show x.toInt ≤ (63 : Int); omega) hll hp hI (fun H' locs' cells' slots' lsA' stc' ls' h' k1 k2 k3 => K H' locs' cells' slots' lsA' stc' ls' h' k1 k2 (lg_up k3))
theorem lg_loop (hl : l.stackTraces = false) (hs : ab_osc sc) (hL : sc.length ≤ 3072) (hE1 : E.1 = s.heap.size) (hX : eg_ctx E D dT sc p s m #[Value.ref b] meth c 9999 12) (hr : meth.sig.returnType = ret) (hlocks : meth.locks = false) (hown : s.vm.findClass hp_L = some m.cls) (hxc : xc_T E s s.heap) : ∀ (n : Nat), n ≤ 512 → ∀ (i : Int), 0 ≤ i → i ≤ 3072 → (sc.length : Int) < i + 6 * n + 6 → ∀ (H : Heap) (locs : List Loc) (cells slots : Nat) (lsA : Array Slot) (stc : List Value) (ls : eg_L) (h : eg_H), lg_L ls i → ab_hp h ∧ jj h → eg_I E D dT 9999 (lg_R n) s H locs cells slots lsA stc ls [] 999 h 0 0 → W p l e room_1 s m #[Value.ref b] below meth c H locs cells slots (lw_Z below #[Value.ref b] s) (F0 m 23 lsA stc) := by
  intro n
  induction n with
  | zero =>
    intro hn i h0 h1 hlt H locs cells slots lsA stc ls h hll hp hI
    exact lg_head hs hL hX h0 h1 hll hp hI (fun H' locs' cells' slots' lsA' stc' ls' h' k => lg_done hE1 hX hr hlocks k) (fun h6 => by omega)
  | succ n ih =>
    intro hn i h0 h1 hlt H locs cells slots lsA stc ls h hll hp hI
    refine lg_head hs hL hX h0 h1 hll hp hI (fun H' locs' cells' slots' lsA' stc' ls' h' k => lg_done hE1 hX hr hlocks k) (fun h6 x H1 locs1 cells1 slots1 lsA1 stc1 ls1 hh1 x1 x2 x3 x4 x5 => ?_)
    refine lg_body hl hs hL hX hown hxc (by omega) h0 h6 x1 x2 x3 x4 x5 (fun H2 locs2 cells2 slots2 lsA2 stc2 ls2 hh2 y1 y2 y3 => ?_)
    refine lg_next hs hL hX h0 h1 y1 y2 y3 (fun H3 locs3 cells3 slots3 lsA3 stc3 ls3 hh3 z1 z2 z3 => ?_)
    exact ih (by omega) (i + 6) (by omega) (by omega) (by omega) H3 locs3 cells3 slots3 lsA3 stc3 ls3 hh3 z1 z2 z3
end LG
theorem jj_0 : jj eg_h23 := ⟨⟨rfl, fun k hk => absurd hk (by show ¬ (k : Int) < 0; omega), by unfold kwok; decide +kernel, by unfold rwok; decide +kernel⟩, ⟨⟨by decide +kernel, ⟨by decide +kernel, by decide +kernel⟩, fun q hq => absurd hq (by show ¬ (q : Int) < 0; omega), fun q hq => absurd hq (by show ¬ (q : Int) < 0; omega)⟩, rfl, rfl, fun g => absurd g (by decide +kernel), fun g => absurd g (by decide +kernel)⟩, by unfold jf; decide +kernel⟩
/-! the script's ints -/
def lw_sc (L : Nat) (xs : Nat → Int32) : List Value := (List.range L).map (fun k => .int (xs k))
theorem lw_sc_len {L : Nat} {xs : Nat → Int32} : (lw_sc L xs).length = L := by simp [lw_sc]
theorem lw_sc_v {L : Nat} {xs : Nat → Int32} {k : Nat} {v : Value} (h : eg_nth (lw_sc L xs) k = some v) : v = .int (xs k) := by
  rw [eg_nth_eq] at h
  simp only [lw_sc, List.getElem?_map, Option.map_eq_some_iff] at h
  obtain ⟨a, h1, h2⟩ := h
  obtain ⟨h3, h4⟩ := List.getElem?_eq_some_iff.mp h1
  rw [← h2, ← h4, List.getElem_range]
set_option maxHeartbeats 8000000 in
theorem whole_start {p : Program} {e : Env} {s : State} {m : MethodId} {below : List Frame} {meth : Method} {c : Code} (l : Launch) (hl : l.stackTraces = false) {b L : Nat} {xs : Nat → Int32} (hL : L ≤ 3072) (C0 : lw_At p s m meth c b L xs) : W p l e room_1 s m #[Value.ref b] below meth c s.heap [] 0 0 (lw_Z below #[Value.ref b] s) (entryFrame m ([Value.ref b] : List Value).toArray 7) := by
  obtain ⟨hexec, hcode, hret, hml, hown, hts, hXs, hbl, hlocks, hgv, hname⟩ := C0
  obtain ⟨ka, kv, D, dT, hT⟩ := st_T hgv hts hXs hbl
  obtain ⟨E, hE⟩ : ∃ E : eg_X, E = (s.heap.size, b, ka, kv, xs) := ⟨_, rfl⟩
  rw [← hE] at hT
  have hE1 : E.1 = s.heap.size := by rw [hE]
  have hE2 : E.2.1 = b := by rw [hE]
  have hE5 : E.2.2.2.2 = xs := by rw [hE]
  have hsc : ab_osc (lw_sc L xs) := ⟨fun k v h => ⟨_, lw_sc_v h⟩, by rw [lw_sc_len]; omega⟩
  have hX : eg_ctx E D dT (lw_sc L xs) p s m #[Value.ref b] meth c 9999 12 := ⟨hexec, hcode, hml, ⟨R_law, rfl, hown⟩, fun w hw => hts w (List.mem_filter.mp hw).1, hT _ lw_sc_len (fun k v h => by rw [lw_sc_v h]; rfl), hname⟩
  have hl9 := lv_entry [Value.ref b] (n := 7) (Nat.le_of_ble_eq_true rfl)
  have hls : eg_ls E [(0, .float 1)] (lv_args 0 [.ref b]) := by
    refine ⟨.ref b, [], rfl, ?_, rfl⟩
    simp [eg_v, hE2]
  have hh0 : eg_h E D dT 0 eg_h0 s.heap := ⟨⟨Or.inl hE1.symm, rfl⟩, fun a c hc => by rw [lw_h0 hc]; exact Or.inl ⟨rfl, rfl⟩⟩
  rw [lg_entry_eq]
  refine (eg_run_ok eg_pg_ok 20000) 9999 12 20 1000 100000 0 _ _ _ _ _ _ _ _ _ _ _ (ph_sc (lw_sc L xs)) (eg_pg_ok 9999) E D dT p l e room_1 { frames := 2048, cells := 1000, slots := 100000, locals := 84000 } ⟨by decide, by decide⟩ s m _ below meth c s.heap [] 0 0 _ _ [] hX (fun j r hj => by cases hj) ⟨hh0, va_S.rf, ⟨_, hls, hl9⟩, rfl, Nat.le_of_eq (Nat.zero_add 1000), Nat.le_of_eq (Nat.zero_add 100000)⟩ (by show 20 ≤ 2048; decide) (by show 64 * 20 ≤ 84000; decide) ?_
  intro H' locs' cells' slots' lsA' stc' hI hend
  obtain ⟨gH, gS, gL, gst, gc1, gc2⟩ := hI
  have hc1 : cells' + 0 ≤ 1000 := gc1
  have hc2 : slots' + 0 ≤ 100000 := gc2
  refine lg_loop hl hsc (by rw [lw_sc_len]; exact hL) hE1 hX hret hlocks hown (lw_xc hE1 hgv hts) 512 (Nat.le_refl _) 0 (by decide) (by decide) (by rw [lw_sc_len]; omega) H' locs' cells' slots' lsA' stc' eg_ls23 eg_h23 ⟨rfl, rfl, rfl, rfl, 0, rfl, rfl⟩ ⟨hz_hp, jj_0⟩ ⟨⟨⟨Or.inr rfl, gH.1.2⟩, gH.2⟩, gS, gL, gst, by show cells' + 0 ≤ 601024 - 512; omega, by show slots' + 0 ≤ 7293034 - 6 * 512; omega⟩
