/-! BY HAND: longs as they are -/
/-- the long in a slot -/
def hl (h : eg_H) (a k : Nat) : Int64 := match ab_slot h a k with
  | some (.long x) => x
  | _ => 0
theorem hl_same {h h' : eg_H} {a k : Nat} (e : ab_slot h' a k = ab_slot h a k) : hl h' a k = hl h a k := by
  unfold hl
  rw [e]
theorem hl_of {h : eg_H} {a k : Nat} {x : Int64} (e : ab_slot h a k = some (.long x)) : hl h a k = x := by
  unfold hl
  rw [e]
/-- one long is written -/
def hwl (h h' : eg_H) (a k : Nat) (x : Int64) : Prop := ab_hp0 h' ∧ ∀ b m, ab_slot h' b m = if b = a ∧ m = k then some (.long x) else ab_slot h b m
theorem hwl.v {h h' : eg_H} {a k : Nat} {x : Int64} (w : hwl h h' a k x) (b m : Nat) : hl h' b m = if b = a ∧ m = k then x else hl h b m := by
  by_cases e : b = a ∧ m = k
  · rw [if_pos e]
    exact hl_of (by rw [w.2 b m, if_pos e])
  · rw [if_neg e]
    exact hl_same (by rw [w.2 b m, if_neg e])
theorem hwl.i {h h' : eg_H} {a k : Nat} {x : Int64} (w : hwl h h' a k x) (b m : Nat) (hb : ¬ (b = a ∧ m = k)) : hv h' b m = hv h b m := hv_same (by rw [w.2 b m, if_neg hb])
theorem hwl.fr {h h' : eg_H} {a k : Nat} {x : Int64} (w : hwl h h' a k x) {M : ab_M} (hM : ab_inr M a k k = true) : ab_fr M h' h := ab_fr_set hM w.2
theorem hw.l {h h' : eg_H} {a k : Nat} {x : Int32} (w : hw h h' a k x) (b m : Nat) (hb : ¬ (b = a ∧ m = k)) : hl h' b m = hl h b m := hl_same (by rw [w.2 b m, if_neg hb])
def ck_gl (o k a fk : Nat) : Bool := match eg_at o eg_fx k with
  | some (ci, f, _) => Nat.beq f fk && (match ab_get a with
    | some (tag, rg) => Nat.beq tag (100 + ci) && (match ab_sl rg fk with
      | some (.inr 0) => true
      | _ => false)
    | none => false)
  | none => false
def ck_pl (o k a fk : Nat) : Bool := match eg_at o eg_fx k with
  | some (ci, f, _) => Nat.beq f fk && Nat.blt fk (eg_ncl ci) && !(eg_finF ci fk) && decide (eg_fty ci fk = .long) && (match ab_get a with
    | some (tag, rg) => Nat.beq tag (100 + ci) && (match ab_sl rg fk with
      | some (.inr 0) => true
      | _ => false)
    | none => false)
  | none => false
/-- an array of longs, n of them at least -/
def ck_la (a n : Nat) : Bool := match ab_get a with
  | some (tag, [(m, .inr 0)]) => Nat.beq tag 1 && Nat.ble n m
  | _ => false
theorem la_v {h : eg_H} {a n k : Nat} (hp : ab_hp0 h) (ck : ck_la a n = true) (hk : k < n) : ∃ xs rg, ab_get a = some (1, rg) ∧ ab_sl rg k = some (.inr 0) ∧ ab_sh h a 1 xs ∧ xs.length = ab_len rg ∧ eg_nth xs k = some (.long (hl h a k)) := by
  unfold ck_la at ck
  split at ck
  next tag m hg =>
    have c1 := Bool.and_eq_true_iff.mp ck
    obtain rfl := Nat.eq_of_beq_eq_true c1.1
    have c2 := Nat.le_of_ble_eq_true c1.2
    obtain ⟨⟨xs, s1, s2⟩, s3⟩ := hp a _ hg
    have hsl : ab_sl [(m, (.inr 0 : ab_G))] k = some (.inr 0) := by
      have hb : Nat.blt k m = true := Nat.blt_eq.mpr (by omega)
      simp only [ab_sl, hb]
    obtain ⟨v, e1, x, rfl⟩ := s3 k _ hsl
    refine ⟨xs, _, hg, hsl, s1, s2, ?_⟩
    rw [← ab_sh_slot s1, e1, hl_of e1]
  next => cases ck
theorem eg_lc_v (x y : Int64) : ((lg_cmp x y).toInt = 1 ∧ y.toInt < x.toInt) ∨ ((lg_cmp x y).toInt = 0 ∧ x = y) ∨ ((lg_cmp x y).toInt = -1 ∧ x.toInt < y.toInt) := by
  unfold lg_cmp
  split
  next h => exact Or.inl ⟨by decide, Int64.lt_iff_toInt_lt.mp h⟩
  next h =>
    split
    next e => exact Or.inr (Or.inl ⟨by decide, e⟩)
    next e =>
      refine Or.inr (Or.inr ⟨by decide, ?_⟩)
      have h1 : ¬ y.toInt < x.toInt := fun q => h (Int64.lt_iff_toInt_lt.mpr q)
      have h2 : ¬ x.toInt = y.toInt := fun q => e (Int64.toInt_inj.mp q)
      omega
section LR
variable {sc : List Value} {sp u o dq pc : Nat} {K : Nat → eg_L → List Value → eg_H → Prop} {ls : eg_L} {st : List Value} {h : eg_H}
theorem hs_lload_n {k : Fin 4} {x : Int64} (c : ab_at u pc (.lload_n k) 1 = true) (hl : eg_find k.val ls = some (.long x)) (n : hs sc sp u o dq K (pc + 1) ls (.long x :: st) h) : hs sc sp u o dq K pc ls st h := hs_s c rfl (by simp only [eg_ld, hl]; rfl) n
theorem hs_lload {k : Nat} {x : Int64} (c : ab_at u pc (.lload k) 2 = true) (hl : eg_find k ls = some (.long x)) (n : hs sc sp u o dq K (pc + 2) ls (.long x :: st) h) : hs sc sp u o dq K pc ls st h := hs_s c rfl (by simp only [eg_ld, hl]; rfl) n
theorem hs_lconst {v : Fin 2} (c : ab_at u pc (.lconst v) 1 = true) (n : hs sc sp u o dq K (pc + 1) ls (.long (Int64.ofNat v.val) :: st) h) : hs sc sp u o dq K pc ls st h := hs_s (G := eg_cn (.long (Int64.ofNat v.val))) c (by simp only [eg_hd, eg_lok, Nat.beq_refl, eg_hd0, eg_nl_e, Option.map]) rfl n
def ck_lv (o k : Nat) (v : Int64) : Bool := match eg_at o eg_kx k with
  | some (.long w, _) => decide (w = v)
  | _ => false
theorem hs_ldc2v {k : Nat} (v : Int64) (c : ab_at u pc (.ldc2_w k) 3 = true) (ck : ck_lv o k v = true) (n : hs sc sp u o dq K (pc + 3) ls (.long v :: st) h) : hs sc sp u o dq K pc ls st h := by
  unfold ck_lv at ck
  split at ck
  next w p hx =>
    obtain rfl := of_decide_eq_true ck
    exact hs_s (G := eg_cn (.long w)) c (by simp only [eg_hd, eg_lok, Nat.beq_refl, eg_hd0, hx]) rfl n
  next => cases ck
theorem hs_ladd {x y : Int64} (c : ab_at u pc .ladd 1 = true) (n : hs sc sp u o dq K (pc + 1) ls (.long (x + y) :: st) h) : hs sc sp u o dq K pc ls (.long y :: .long x :: st) h := hs_s c rfl (by simp only [eg_b2, eg_ll, eg_nl_e]) n
theorem hs_lmul {x y : Int64} (c : ab_at u pc .lmul 1 = true) (n : hs sc sp u o dq K (pc + 1) ls (.long (x * y) :: st) h) : hs sc sp u o dq K pc ls (.long y :: .long x :: st) h := hs_s c rfl (by simp only [eg_b2, eg_ll, eg_nl_e]) n
theorem hs_lor {x y : Int64} (c : ab_at u pc .lor 1 = true) (n : hs sc sp u o dq K (pc + 1) ls (.long (x ||| y) :: st) h) : hs sc sp u o dq K pc ls (.long y :: .long x :: st) h := hs_s c rfl (by simp only [eg_b2, eg_ll, eg_nl_e]) n
theorem hs_land {x y : Int64} (c : ab_at u pc .land 1 = true) (n : hs sc sp u o dq K (pc + 1) ls (.long (x &&& y) :: st) h) : hs sc sp u o dq K pc ls (.long y :: .long x :: st) h := hs_s c rfl (by simp only [eg_b2, eg_ll, eg_nl_e]) n
theorem hs_lshl {x : Int64} {y : Int32} (c : ab_at u pc .lshl 1 = true) (n : hs sc sp u o dq K (pc + 1) ls (.long (x <<< (y.toInt64 &&& 63)) :: st) h) : hs sc sp u o dq K pc ls (.int y :: .long x :: st) h := hs_s c rfl (by simp only [eg_b2, eg_li, eg_nl_e]) n
theorem hs_lcmp {x y : Int64} (c : ab_at u pc .lcmp 1 = true) (n : ∀ z : Int32, ((z.toInt = 1 ∧ y.toInt < x.toInt) ∨ (z.toInt = 0 ∧ x = y) ∨ (z.toInt = -1 ∧ x.toInt < y.toInt)) → hs sc sp u o dq K (pc + 1) ls (.int z :: st) h) : hs sc sp u o dq K pc ls (.long y :: .long x :: st) h := hs_s c rfl (by simp only [eg_b2, eg_lc, eg_ni_e]) (n (lg_cmp x y) (eg_lc_v x y))
theorem hs_i2l {x : Int32} (c : ab_at u pc .i2l 1 = true) (n : hs sc sp u o dq K (pc + 1) ls (.long x.toInt64 :: st) h) : hs sc sp u o dq K pc ls (.int x :: st) h := hs_s c rfl (by simp only [eg_b1, eg_il, eg_nl_e]) n
theorem hs_l2i {x : Int64} (c : ab_at u pc .l2i 1 = true) (n : hs sc sp u o dq K (pc + 1) ls (.int x.toInt32 :: st) h) : hs sc sp u o dq K pc ls (.long x :: st) h := hs_s c rfl (by simp only [eg_b1, eg_l2, eg_ni_e]) n
/-- locals: a long more; those that lie elsewhere stay -/
def hs_lm (k : Nat) (x : Int64) (ls ls' : eg_L) : Prop := eg_find k ls' = some (.long x) ∧ ∀ k' v, k' ≠ k → k' ≠ k + 1 → (v.category = 1 ∨ k' + 1 ≠ k) → eg_find k' ls = some v → eg_find k' ls' = some v
theorem hs_lm_put {k : Nat} {x : Int64} {ls : eg_L} : hs_lm k x ls ((k, .long x) :: eg_fil (eg_k2 k) ls) := by
  refine ⟨by rw [ab_find_cons, if_pos rfl], fun k' v h1 h2 h3 hf => ?_⟩
  rw [ab_find_cons, if_neg (fun e => h1 e.symm)]
  refine ab_find_fil _ hf ?_
  unfold eg_k2
  have e1 : Nat.beq k' k = false := by
    cases hb : Nat.beq k' k with
    | false => rfl
    | true => exact absurd (Nat.eq_of_beq_eq_true hb) h1
  have e2 : Nat.beq k' (k + 1) = false := by
    cases hb : Nat.beq k' (k + 1) with
    | false => rfl
    | true => exact absurd (Nat.eq_of_beq_eq_true hb) h2
  simp only [e1, e2]
  rcases h3 with h3 | h3
  · simp only [h3]
    cases Nat.beq (k' + 1) k <;> rfl
  · have e3 : Nat.beq (k' + 1) k = false := by
      cases hb : Nat.beq (k' + 1) k with
      | false => rfl
      | true => exact absurd (Nat.eq_of_beq_eq_true hb) h3
    rw [e3]; rfl
theorem hs_lstore_n {k : Fin 4} {x : Int64} (c : ab_at u pc (.lstore_n k) 1 = true) (hk : Nat.blt (k.val + 1) (eg_md u).2.2.1 = true) (n : ∀ ls', hs_lm k.val x ls ls' → hs sc sp u o dq K (pc + 1) ls' st h) : hs sc sp u o dq K pc ls (.long x :: st) h := hs_s (G := eg_s2 k.val) c (by simp only [eg_hd, eg_lok, Nat.beq_refl, eg_hd0, hk, cond_true]) rfl (n _ hs_lm_put)
theorem hs_lstore {k : Nat} {x : Int64} (c : ab_at u pc (.lstore k) 2 = true) (hk : Nat.blt (k + 1) (eg_md u).2.2.1 = true) (n : ∀ ls', hs_lm k x ls ls' → hs sc sp u o dq K (pc + 2) ls' st h) : hs sc sp u o dq K pc ls (.long x :: st) h := hs_s (G := eg_s2 k) c (by simp only [eg_hd, eg_lok, Nat.beq_refl, eg_hd0, hk, cond_true]) rfl (n _ hs_lm_put)
/-- an int more among longs -/
def hs_ln2 (k : Nat) (x : Int32) (ls ls' : eg_L) : Prop := eg_find k ls' = some (.int x) ∧ ∀ k' v, k' ≠ k → (v.category = 1 ∨ k' + 1 ≠ k) → eg_find k' ls = some v → eg_find k' ls' = some v
theorem hs_ln2_put {k : Nat} {x : Int32} {ls : eg_L} : hs_ln2 k x ls ((k, .int x) :: eg_fil (eg_k1 k) ls) := by
  refine ⟨by rw [ab_find_cons, if_pos rfl], fun k' v h1 h3 hf => ?_⟩
  rw [ab_find_cons, if_neg (fun e => h1 e.symm)]
  refine ab_find_fil _ hf ?_
  unfold eg_k1
  have e1 : Nat.beq k' k = false := by
    cases hb : Nat.beq k' k with
    | false => rfl
    | true => exact absurd (Nat.eq_of_beq_eq_true hb) h1
  simp only [e1]
  rcases h3 with h3 | h3
  · simp only [h3]
    cases Nat.beq (k' + 1) k <;> rfl
  · have e3 : Nat.beq (k' + 1) k = false := by
      cases hb : Nat.beq (k' + 1) k with
      | false => rfl
      | true => exact absurd (Nat.eq_of_beq_eq_true hb) h3
    rw [e3]; rfl
theorem hs_istore2_n {k : Fin 4} {x : Int32} (c : ab_at u pc (.istore_n k) 1 = true) (hk : Nat.blt k.val (eg_md u).2.2.1 = true) (n : ∀ ls', hs_ln2 k.val x ls ls' → hs sc sp u o dq K (pc + 1) ls' st h) : hs sc sp u o dq K pc ls (.int x :: st) h := hs_s (G := eg_s1 eg_isI k.val) c (by simp only [eg_hd, eg_lok, Nat.beq_refl, eg_hd0, hk, cond_true]) rfl (n _ hs_ln2_put)
theorem hs_istore2 {k : Nat} {x : Int32} (c : ab_at u pc (.istore k) 2 = true) (hk : Nat.blt k (eg_md u).2.2.1 = true) (n : ∀ ls', hs_ln2 k x ls ls' → hs sc sp u o dq K (pc + 2) ls' st h) : hs sc sp u o dq K pc ls (.int x :: st) h := hs_s (G := eg_s1 eg_isI k) c (by simp only [eg_hd, eg_lok, Nat.beq_refl, eg_hd0, hk, cond_true]) rfl (n _ hs_ln2_put)
theorem hs_iinc2 {k : Nat} {v : Int} {x : Int32} (c : ab_at u pc (.iinc k v) 3 = true) (hk : Nat.blt k (eg_md u).2.2.1 = true) (hl : eg_find k ls = some (.int x)) (n : ∀ ls', hs_ln2 k (x + Int32.ofInt v) ls ls' → hs sc sp u o dq K (pc + 3) ls' st h) : hs sc sp u o dq K pc ls st h := hs_s (G := eg_in k v) c (by simp only [eg_hd, eg_lok, Nat.beq_refl, eg_hd0, hk, cond_true]) (by simp only [eg_in, hl, eg_ni_e]) (n _ hs_ln2_put)
/-- fields and arrays of longs -/
theorem hs_gfl {k a : Nat} (fk : Nat) (c : ab_at u pc (.getfield k) 3 = true) (ck : ck_gl o k a fk = true) (hp : ab_hp0 h) (n : hs sc sp u o dq K (pc + 3) ls (.long (hl h a fk) :: st) h) : hs sc sp u o dq K pc ls (.ref a :: st) h := by
  unfold ck_gl at ck
  cases hx : eg_at o eg_fx k with
  | none => rw [hx] at ck; cases ck
  | some e =>
    obtain ⟨ci, f, p⟩ := e
    rw [hx] at ck
    simp only at ck
    have c1 := Bool.and_eq_true_iff.mp ck
    obtain rfl := Nat.eq_of_beq_eq_true c1.1
    have c2 := c1.2
    cases hg : ab_get a with
    | none => rw [hg] at c2; cases c2
    | some cc =>
      obtain ⟨tag, rg⟩ := cc
      rw [hg] at c2
      simp only at c2
      have c3 := Bool.and_eq_true_iff.mp c2
      obtain rfl := Nat.eq_of_beq_eq_true c3.1
      have c4 := c3.2
      split at c4
      next hq =>
        obtain ⟨⟨xs, s1, -⟩, s3⟩ := hp a _ hg
        obtain ⟨v, e1, x, rfl⟩ := s3 _ _ hq
        rw [hl_of e1] at n
        rw [ab_sh_slot s1] at e1
        have e2 := ab_sh_obj s1
        refine hs_s (G := eg_gf ci f) c (by simp only [eg_hd, eg_lok, Nat.beq_refl, eg_hd0, hx]) ?_ n
        simp only [eg_gf, eg_obj, e2, Nat.beq_refl, e1]
      next => cases c4
theorem hs_pfl {k a : Nat} {x : Int64} (fk : Nat) (c : ab_at u pc (.putfield k) 3 = true) (ck : ck_pl o k a fk = true) (hp : ab_hp0 h) (n : ∀ h', hwl h h' a fk x → hs sc sp u o dq K (pc + 3) ls st h') : hs sc sp u o dq K pc ls (.long x :: .ref a :: st) h := by
  unfold ck_pl at ck
  cases hx : eg_at o eg_fx k with
  | none => rw [hx] at ck; cases ck
  | some e =>
    obtain ⟨ci, f, p⟩ := e
    rw [hx] at ck
    simp only at ck
    have c1 := Bool.and_eq_true_iff.mp ck
    have c2 := Bool.and_eq_true_iff.mp c1.1
    have c3 := Bool.and_eq_true_iff.mp c2.1
    have c4 := Bool.and_eq_true_iff.mp c3.1
    obtain rfl := Nat.eq_of_beq_eq_true c4.1
    have hfin : (Nat.blt f (eg_ncl ci) && (!(eg_finF ci f) || (Nat.beq o ci && decide ((eg_md u).1.name = "<init>")))) = true := by rw [c4.2, c3.2]; rfl
    have hfit : eg_fit (eg_fty ci f) (.long x) = true := by rw [of_decide_eq_true c2.2]; rfl
    have c6 := c1.2
    cases hg : ab_get a with
    | none => rw [hg] at c6; cases c6
    | some cc =>
      obtain ⟨tag, rg⟩ := cc
      rw [hg] at c6
      simp only at c6
      have c7 := Bool.and_eq_true_iff.mp c6
      obtain rfl := Nat.eq_of_beq_eq_true c7.1
      have c8 := c7.2
      split at c8
      next hsl =>
        obtain ⟨⟨xs, s1, s2⟩, -⟩ := hp a _ hg
        have h6 := ab_sh_obj s1
        have hkx : f < xs.length := by rw [s2]; exact ab_sl_len hsl
        obtain ⟨p1, p2⟩ := ab_objset (k := f) (w := .long x) h6
        have hslot := ab_slot_set (w := .long x) s1 hkx p2 p1
        refine hs_s (G := eg_pf (eg_fit (eg_fty ci f)) ci f) c (by simp only [eg_hd, eg_lok, Nat.beq_refl, eg_hd0, hx, hfin, cond_true]) ?_ (n _ ⟨ab_hp_set hp hg s1 hsl ⟨x, rfl⟩ p2 p1 hkx, hslot⟩)
        simp only [eg_pf, eg_obj, h6, Nat.beq_refl, hfit, Bool.and_self]
      next => cases c8
theorem hs_laload {a : Nat} {x : Int32} (m : Nat) (c : ab_at u pc .laload 1 = true) (ck : ck_la a m = true) (hp : ab_hp0 h) (h1 : 0 ≤ x.toInt) (h2 : x.toInt < (m : Int)) (n : hs sc sp u o dq K (pc + 1) ls (.long (hl h a x.toInt.toNat) :: st) h) : hs sc sp u o dq K pc ls (.int x :: .ref a :: st) h := by
  obtain ⟨xs, rg, -, -, s1, -, e1⟩ := la_v hp ck (k := x.toInt.toNat) (by omega)
  have g1 := ab_sh_arr (t := 1) (by decide) s1
  refine hs_s (G := eg_ar sc (fun t => Nat.beq t 1)) c rfl ?_ n
  simp only [eg_ar, eg_arr, g1, Nat.beq_refl, ab_ix h1, e1]
theorem hs_lastore {a : Nat} {x : Int32} {y : Int64} (m : Nat) (c : ab_at u pc .lastore 1 = true) (ck : ck_la a m = true) (hp : ab_hp0 h) (h1 : 0 ≤ x.toInt) (h2 : x.toInt < (m : Int)) (n : ∀ h', hwl h h' a x.toInt.toNat y → hs sc sp u o dq K (pc + 1) ls st h') : hs sc sp u o dq K pc ls (.long y :: .int x :: .ref a :: st) h := by
  obtain ⟨xs, rg, hg, hsl, s1, s2, e1⟩ := la_v hp ck (k := x.toInt.toNat) (by omega)
  have h6 := ab_sh_arr (t := 1) (by decide) s1
  have hkx : x.toInt.toNat < xs.length := by rw [s2]; exact ab_sl_len hsl
  obtain ⟨p1, p2⟩ := ab_arrset (k := x.toInt.toNat) (w := .long y) (by decide) h6
  have hslot := ab_slot_set (w := .long y) s1 hkx p2 p1
  refine hs_s (G := eg_aw (fun t => Nat.beq t 1)) c rfl ?_ (n _ ⟨ab_hp_set hp hg s1 hsl ⟨y, rfl⟩ p2 p1 hkx, hslot⟩)
  simp only [eg_aw, eg_arr, h6, Nat.beq_refl, ab_ix h1, e1, eg_nar, cond_true]
end LR
