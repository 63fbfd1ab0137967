/-! BY HAND: slots and calls -/
theorem hv_of {h : eg_H} {a k : Nat} {x : Int32} (e : ab_slot h a k = some (.int x)) : hv h a k = x := by
  unfold hv
  rw [e]
theorem hv_slot {h : eg_H} {a k tag : Nat} {rg : List (Nat × ab_G)} {q : Int × Int} (hp : ab_hp0 h) (hg : ab_get a = some (tag, rg)) (hs : ab_sl rg k = some (.inl q)) : ab_slot h a k = some (.int (hv h a k)) ∧ q.1 ≤ (hv h a k).toInt ∧ (hv h a k).toInt ≤ q.2 := by
  obtain ⟨-, h2⟩ := hp a _ hg
  obtain ⟨v, h3, x, rfl, h4, h5⟩ := h2 k _ hs
  rw [hv_of h3]
  exact ⟨h3, h4, h5⟩
/-- one int is written -/
def hw (h h' : eg_H) (a k : Nat) (x : Int32) : Prop := ab_hp0 h' ∧ ∀ b m, ab_slot h' b m = if b = a ∧ m = k then some (.int x) else ab_slot h b m
theorem hw.v {h h' : eg_H} {a k : Nat} {x : Int32} (w : hw h h' a k x) (b m : Nat) : hv h' b m = if b = a ∧ m = k then x else hv h b m := by
  by_cases e : b = a ∧ m = k
  · rw [if_pos e]
    exact hv_of (by rw [w.2 b m, if_pos e])
  · rw [if_neg e]
    unfold hv
    rw [w.2 b m, if_neg e]
/-- what these writes leave alone -/
def ab_Mnp (M : ab_M) : Bool := M.all (fun m => ab_npr m.1 m.2.1 m.2.2)
theorem ab_Mnp_v {M : ab_M} (ck : ab_Mnp M = true) {a k : Nat} (hk : ab_pr a k = true) : ab_inr M a k k = false := by
  induction M with
  | nil => rfl
  | cons m M ih =>
    obtain ⟨b, f1, t1⟩ := m
    have c1 := Bool.and_eq_true_iff.mp (show (ab_npr b f1 t1 && ab_Mnp M) = true from ck)
    unfold ab_inr
    cases hc : (Nat.beq a b && Nat.ble f1 k && Nat.ble k t1) with
    | true =>
      have d1 := Bool.and_eq_true_iff.mp hc
      have d2 := Bool.and_eq_true_iff.mp d1.1
      obtain rfl := Nat.eq_of_beq_eq_true d2.1
      have := ab_npr_v c1.1 (Nat.le_of_ble_eq_true d2.2) (Nat.le_of_ble_eq_true d1.2)
      rw [this] at hk
      cases hk
    | false => exact ih c1.2
theorem ab_J.fr {M : ab_M} {h h' : eg_H} (hJ : ab_J h) (ck : ab_Mnp M = true) (f : ab_fr M h' h) : ab_J h' := hJ.same (fun a k hk => f a k (ab_Mnp_v ck hk))
theorem hw.fr {h h' : eg_H} {a k : Nat} {x : Int32} (w : hw h h' a k x) {M : ab_M} (hM : ab_inr M a k k = true) : ab_fr M h' h := ab_fr_set hM w.2
def ck_gf (o k a fk : Nat) : Bool := match eg_at o eg_fx k with
  | some (ci, f, _) => Nat.beq f fk && (match ab_get a with
    | some (tag, rg) => Nat.beq tag (100 + ci) && (match ab_sl rg fk with
      | some (.inl _) => true
      | _ => false)
    | none => false)
  | none => false
def ck_gr (o k a fk b : Nat) : Bool := match eg_at o eg_fx k with
  | some (ci, f, _) => Nat.beq f fk && (match ab_get a with
    | some (tag, rg) => Nat.beq tag (100 + ci) && (match ab_sl rg fk with
      | some (.inr (c + 2)) => Nat.beq c b
      | _ => false)
    | none => false)
  | none => false
def ck_pf (o k a fk : Nat) (lo hi : Int) : Bool := match eg_at o eg_fx k with
  | some (ci, f, _) => Nat.beq f fk && Nat.blt fk (eg_ncl ci) && !(eg_finF ci fk) && ab_bool (eg_fty ci fk) (lo, hi) && (match ab_get a with
    | some (tag, rg) => Nat.beq tag (100 + ci) && (match ab_sl rg fk with
      | some (.inl (l2, h2)) => decide (l2 ≤ lo) && decide (hi ≤ h2)
      | _ => false)
    | none => false)
  | none => false
def ck_ar (t a k1 k2 : Nat) (lo hi : Int) : Bool := match ab_get a with
  | some (tag, rg) => Nat.beq tag t && (match ab_jr rg k1 k2 with
    | some (l2, h2) => decide (lo ≤ l2) && decide (h2 ≤ hi)
    | none => false)
  | none => false
def ck_aw (t a k1 k2 : Nat) (lo hi : Int) : Bool := match ab_get a with
  | some (tag, rg) => Nat.beq tag t && ab_nar t (lo, hi) && (match ab_mr rg k1 k2 with
    | some (l2, h2) => decide (l2 ≤ lo) && decide (hi ≤ h2)
    | none => false)
  | none => false
/-- what ints of an array are -/
theorem hv_ar {h : eg_H} {t a k1 k2 k : Nat} {lo hi : Int} (hp : ab_hp0 h) (ck : ck_ar t a k1 k2 lo hi = true) (h1 : k1 ≤ k) (h2 : k ≤ k2) : (∃ xs, eg_get h a = some (.inl (t, xs)) ∧ eg_nth xs k = some (.int (hv h a k)) ∨ 100 ≤ t) ∧ ab_slot h a k = some (.int (hv h a k)) ∧ lo ≤ (hv h a k).toInt ∧ (hv h a k).toInt ≤ hi := by
  unfold ck_ar at ck
  cases hg : ab_get a with
  | none => rw [hg] at ck; cases ck
  | some c =>
    obtain ⟨tag, rg⟩ := c
    rw [hg] at ck
    simp only at ck
    have c1 := Bool.and_eq_true_iff.mp ck
    obtain rfl := Nat.eq_of_beq_eq_true c1.1
    have c2 := c1.2
    split at c2
    next l2 h2' hj =>
      have c3 := Bool.and_eq_true_iff.mp c2
      have c4 := of_decide_eq_true c3.1
      have c5 := of_decide_eq_true c3.2
      obtain ⟨lo', hi', g1, g2, g3⟩ := ab_jr_v hj k h1 h2
      obtain ⟨e1, e2, e3⟩ := hv_slot hp hg g1
      simp only at e2 e3
      refine ⟨?_, e1, by omega, by omega⟩
      obtain ⟨⟨xs, s1, s2⟩, -⟩ := hp a _ hg
      rw [ab_sh_slot s1] at e1
      by_cases ht : tag < 100
      · exact ⟨xs, Or.inl ⟨ab_sh_arr ht s1, e1⟩⟩
      · exact ⟨xs, Or.inr (by omega)⟩
    next => cases c2
section HM
variable {sc : List Value} {sp u o dq pc : Nat} {K : Nat → eg_L → List Value → eg_H → Prop} {ls : eg_L} {st : List Value} {h : eg_H}
theorem hs_gfi {k a : Nat} (fk : Nat) (c : ab_at u pc (.getfield k) 3 = true) (ck : ck_gf o k a fk = true) (hp : ab_hp0 h) (n : hs sc sp u o dq K (pc + 3) ls (.int (hv h a fk) :: st) h) : hs sc sp u o dq K pc ls (.ref a :: st) h := by
  unfold ck_gf at ck
  cases hx : eg_at o eg_fx k with
  | none => rw [hx] at ck; cases ck
  | some e =>
    obtain ⟨ci, f, p⟩ := e
    rw [hx] at ck
    simp only at ck
    have c1 := Bool.and_eq_true_iff.mp ck
    obtain rfl := Nat.eq_of_beq_eq_true c1.1
    have c2 := c1.2
    cases hg : ab_get a with
    | none => rw [hg] at c2; cases c2
    | some cc =>
      obtain ⟨tag, rg⟩ := cc
      rw [hg] at c2
      simp only at c2
      have c3 := Bool.and_eq_true_iff.mp c2
      obtain rfl := Nat.eq_of_beq_eq_true c3.1
      have c4 := c3.2
      split at c4
      next q hq =>
        obtain ⟨e1, -, -⟩ := hv_slot hp hg hq
        obtain ⟨⟨xs, s1, -⟩, -⟩ := hp a _ hg
        rw [ab_sh_slot s1] at e1
        have e2 := ab_sh_obj s1
        refine hs_s (G := eg_gf ci f) c (by simp only [eg_hd, eg_lok, Nat.beq_refl, eg_hd0, hx]) ?_ n
        simp only [eg_gf, eg_obj, e2, Nat.beq_refl, e1]
      next => cases c4
theorem hs_gfr {k a : Nat} (fk b : Nat) (c : ab_at u pc (.getfield k) 3 = true) (ck : ck_gr o k a fk b = true) (hp : ab_hp0 h) (n : hs sc sp u o dq K (pc + 3) ls (.ref b :: st) h) : hs sc sp u o dq K pc ls (.ref a :: st) h := by
  unfold ck_gr at ck
  cases hx : eg_at o eg_fx k with
  | none => rw [hx] at ck; cases ck
  | some e =>
    obtain ⟨ci, f, p⟩ := e
    rw [hx] at ck
    simp only at ck
    have c1 := Bool.and_eq_true_iff.mp ck
    obtain rfl := Nat.eq_of_beq_eq_true c1.1
    have c2 := c1.2
    cases hg : ab_get a with
    | none => rw [hg] at c2; cases c2
    | some cc =>
      obtain ⟨tag, rg⟩ := cc
      rw [hg] at c2
      simp only at c2
      have c3 := Bool.and_eq_true_iff.mp c2
      obtain rfl := Nat.eq_of_beq_eq_true c3.1
      have c4 := c3.2
      split at c4
      next b' hq =>
        obtain rfl := Nat.eq_of_beq_eq_true c4
        obtain ⟨⟨xs, s1, -⟩, s3⟩ := hp a _ hg
        obtain ⟨v, e1, e3⟩ := s3 _ _ hq
        obtain rfl : v = .ref b' := e3
        rw [ab_sh_slot s1] at e1
        have e2 := ab_sh_obj s1
        refine hs_s (G := eg_gf ci f) c (by simp only [eg_hd, eg_lok, Nat.beq_refl, eg_hd0, hx]) ?_ n
        simp only [eg_gf, eg_obj, e2, Nat.beq_refl, e1]
      next => cases c4
theorem hs_pfi {k a : Nat} {x : Int32} (fk : Nat) (lo hi : Int) (c : ab_at u pc (.putfield k) 3 = true) (ck : ck_pf o k a fk lo hi = true) (hp : ab_hp0 h) (h1 : lo ≤ x.toInt) (h2 : x.toInt ≤ hi) (n : ∀ h', hw h h' a fk x → hs sc sp u o dq K (pc + 3) ls st h') : hs sc sp u o dq K pc ls (.int x :: .ref a :: st) h := by
  unfold ck_pf at ck
  cases hx : eg_at o eg_fx k with
  | none => rw [hx] at ck; cases ck
  | some e =>
    obtain ⟨ci, f, p⟩ := e
    rw [hx] at ck
    simp only at ck
    have c1 := Bool.and_eq_true_iff.mp ck
    have c2 := Bool.and_eq_true_iff.mp c1.1
    have c3 := Bool.and_eq_true_iff.mp c2.1
    have c4 := Bool.and_eq_true_iff.mp c3.1
    obtain rfl := Nat.eq_of_beq_eq_true c4.1
    have hfin : (Nat.blt f (eg_ncl ci) && (!(eg_finF ci f) || (Nat.beq o ci && decide ((eg_md u).1.name = "<init>")))) = true := by rw [c4.2, c3.2]; rfl
    have hfit : eg_fit (eg_fty ci f) (.int x) = true := by
      have c5 := c2.2
      cases hty : eg_fty ci f with
      | int => rfl
      | boolean =>
        rw [hty] at c5
        have c6 := Bool.and_eq_true_iff.mp c5
        have c7 := of_decide_eq_true c6.1
        have c8 := of_decide_eq_true c6.2
        simp only at c7 c8
        have : x.toInt = 0 ∨ x.toInt = 1 := by omega
        rcases this with e | e
        · obtain rfl : x = 0 := Int32.toInt_inj.mp (by rw [e]; rfl)
          rfl
        · obtain rfl : x = 1 := Int32.toInt_inj.mp (by rw [e]; rfl)
          rfl
      | _ => rw [hty] at c5; cases c5
    have c6 := c1.2
    cases hg : ab_get a with
    | none => rw [hg] at c6; cases c6
    | some cc =>
      obtain ⟨tag, rg⟩ := cc
      rw [hg] at c6
      simp only at c6
      have c7 := Bool.and_eq_true_iff.mp c6
      obtain rfl := Nat.eq_of_beq_eq_true c7.1
      have c8 := c7.2
      split at c8
      next l2 h2' hsl =>
        have d1 := Bool.and_eq_true_iff.mp c8
        have d2 := of_decide_eq_true d1.1
        have d3 := of_decide_eq_true d1.2
        obtain ⟨⟨xs, s1, s2⟩, -⟩ := hp a _ hg
        have h6 := ab_sh_obj s1
        have hkx : f < xs.length := by rw [s2]; exact ab_sl_len hsl
        obtain ⟨p1, p2⟩ := ab_objset (k := f) (w := .int x) h6
        have hslot := ab_slot_set (w := .int x) s1 hkx p2 p1
        refine hs_s (G := eg_pf (eg_fit (eg_fty ci f)) ci f) c (by simp only [eg_hd, eg_lok, Nat.beq_refl, eg_hd0, hx, hfin, cond_true]) ?_ (n _ ⟨ab_hp_set hp hg s1 hsl ⟨x, rfl, by show l2 ≤ _; omega, by show _ ≤ h2'; omega⟩ p2 p1 hkx, hslot⟩)
        simp only [eg_pf, eg_obj, h6, Nat.beq_refl, hfit, Bool.and_self]
      next => cases c8
/-- an int out of an array -/
theorem hs_ald {i : Instr} {ok : Nat → Bool} {t a : Nat} {x : Int32} (k1 k2 : Nat) (lo hi : Int) (c : ab_at u pc i 1 = true) (hG : eg_hd [] sc u o pc i 1 = some (eg_ar sc ok)) (hok : ok t = true ∧ t < 100) (ck : ck_ar t a k1 k2 lo hi = true) (hp : ab_hp0 h) (h1 : (k1 : Int) ≤ x.toInt) (h2 : x.toInt ≤ (k2 : Int)) (n : lo ≤ (hv h a x.toInt.toNat).toInt → (hv h a x.toInt.toNat).toInt ≤ hi → hs sc sp u o dq K (pc + 1) ls (.int (hv h a x.toInt.toNat) :: st) h) : hs sc sp u o dq K pc ls (.int x :: .ref a :: st) h := by
  obtain ⟨⟨xs, g1⟩, -, g2, g3⟩ := hv_ar (k := x.toInt.toNat) hp ck (by omega) (by omega)
  rcases g1 with ⟨g1, g4⟩ | g1
  · refine hs_s c hG ?_ (n g2 g3)
    have h0 : 0 ≤ x.toInt := by omega
    simp only [eg_ar, eg_arr, g1, hok.1, ab_ix h0, g4]
  · omega
theorem hs_iaload {a : Nat} {x : Int32} (k1 k2 : Nat) (lo hi : Int) (c : ab_at u pc .iaload 1 = true) (ck : ck_ar 0 a k1 k2 lo hi = true) (hp : ab_hp0 h) (h1 : (k1 : Int) ≤ x.toInt) (h2 : x.toInt ≤ (k2 : Int)) (n : lo ≤ (hv h a x.toInt.toNat).toInt → (hv h a x.toInt.toNat).toInt ≤ hi → hs sc sp u o dq K (pc + 1) ls (.int (hv h a x.toInt.toNat) :: st) h) : hs sc sp u o dq K pc ls (.int x :: .ref a :: st) h := hs_ald k1 k2 lo hi c rfl ⟨rfl, by decide⟩ ck hp h1 h2 n
theorem hs_baload {a : Nat} {x : Int32} (t : Nat) (k1 k2 : Nat) (lo hi : Int) (c : ab_at u pc .baload 1 = true) (ht : (Nat.beq t 2 || Nat.beq t 3) = true ∧ t < 100) (ck : ck_ar t a k1 k2 lo hi = true) (hp : ab_hp0 h) (h1 : (k1 : Int) ≤ x.toInt) (h2 : x.toInt ≤ (k2 : Int)) (n : lo ≤ (hv h a x.toInt.toNat).toInt → (hv h a x.toInt.toNat).toInt ≤ hi → hs sc sp u o dq K (pc + 1) ls (.int (hv h a x.toInt.toNat) :: st) h) : hs sc sp u o dq K pc ls (.int x :: .ref a :: st) h := hs_ald (ok := fun t => Nat.beq t 2 || Nat.beq t 3) k1 k2 lo hi c rfl ht ck hp h1 h2 n
/-- an int into an array -/
theorem hs_awr {i : Instr} {ok : Nat → Bool} {t a : Nat} {x y : Int32} (k1 k2 : Nat) (lo hi : Int) (c : ab_at u pc i 1 = true) (hG : eg_hd [] sc u o pc i 1 = some (eg_aw ok)) (hok : ok t = true ∧ t < 100) (ck : ck_aw t a k1 k2 lo hi = true) (hp : ab_hp0 h) (h1 : (k1 : Int) ≤ x.toInt) (h2 : x.toInt ≤ (k2 : Int)) (h3 : lo ≤ y.toInt) (h4 : y.toInt ≤ hi) (n : ∀ h', hw h h' a x.toInt.toNat y → hs sc sp u o dq K (pc + 1) ls st h') : hs sc sp u o dq K pc ls (.int y :: .int x :: .ref a :: st) h := by
  unfold ck_aw at ck
  cases hg : ab_get a with
  | none => rw [hg] at ck; cases ck
  | some cc =>
    obtain ⟨tag, rg⟩ := cc
    rw [hg] at ck
    simp only at ck
    have c1 := Bool.and_eq_true_iff.mp ck
    have c2 := Bool.and_eq_true_iff.mp c1.1
    obtain rfl := Nat.eq_of_beq_eq_true c2.1
    have c3 := c1.2
    split at c3
    next l2 h2' hm =>
      have d1 := Bool.and_eq_true_iff.mp c3
      have d2 := of_decide_eq_true d1.1
      have d3 := of_decide_eq_true d1.2
      have hx0 : 0 ≤ x.toInt := by omega
      obtain ⟨lo', hi', g1, g2, g3⟩ := ab_mr_v hm x.toInt.toNat (by omega) (by omega)
      obtain ⟨⟨xs, s1, s2⟩, -⟩ := hp a _ hg
      have h6 := ab_sh_arr hok.2 s1
      have hkx : x.toInt.toNat < xs.length := by rw [s2]; exact ab_sl_len g1
      obtain ⟨w0, hw0⟩ : ∃ w, eg_nth xs x.toInt.toNat = some w := ⟨_, by rw [eg_nth_eq, List.getElem?_eq_getElem hkx]⟩
      obtain ⟨p1, p2⟩ := ab_arrset (k := x.toInt.toNat) (w := .int y) hok.2 h6
      have hslot := ab_slot_set (w := .int y) s1 hkx p2 p1
      have hnar := ab_narrow (x := y) c2.2 ⟨h3, h4⟩
      refine hs_s c hG ?_ (n _ ⟨ab_hp_set hp hg s1 g1 ⟨y, rfl, by show lo' ≤ _; omega, by show _ ≤ hi'; omega⟩ p2 p1 hkx, hslot⟩)
      simp only [eg_aw, eg_arr, h6, hok.1, ab_ix hx0, hw0, hnar]
    next => cases c3
theorem hs_iastore {a : Nat} {x y : Int32} (k1 k2 : Nat) (lo hi : Int) (c : ab_at u pc .iastore 1 = true) (ck : ck_aw 0 a k1 k2 lo hi = true) (hp : ab_hp0 h) (h1 : (k1 : Int) ≤ x.toInt) (h2 : x.toInt ≤ (k2 : Int)) (h3 : lo ≤ y.toInt) (h4 : y.toInt ≤ hi) (n : ∀ h', hw h h' a x.toInt.toNat y → hs sc sp u o dq K (pc + 1) ls st h') : hs sc sp u o dq K pc ls (.int y :: .int x :: .ref a :: st) h := hs_awr k1 k2 lo hi c rfl ⟨rfl, by decide⟩ ck hp h1 h2 h3 h4 n
theorem hs_bastore {a : Nat} {x y : Int32} (t : Nat) (k1 k2 : Nat) (lo hi : Int) (c : ab_at u pc .bastore 1 = true) (ht : (Nat.beq t 2 || Nat.beq t 3) = true ∧ t < 100) (ck : ck_aw t a k1 k2 lo hi = true) (hp : ab_hp0 h) (h1 : (k1 : Int) ≤ x.toInt) (h2 : x.toInt ≤ (k2 : Int)) (h3 : lo ≤ y.toInt) (h4 : y.toInt ≤ hi) (n : ∀ h', hw h h' a x.toInt.toNat y → hs sc sp u o dq K (pc + 1) ls st h') : hs sc sp u o dq K pc ls (.int y :: .int x :: .ref a :: st) h := hs_awr (ok := fun t => Nat.beq t 2 || Nat.beq t 3) k1 k2 lo hi c rfl ht ck hp h1 h2 h3 h4 n
end HM
