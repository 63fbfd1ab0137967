/-! what the run over intervals speaks of -/
theorem ab_fi_eq {α : Type} (x : Int) (k : Int → α) : ab_fi x k = k x := by
  unfold ab_fi
  split
  · split <;> rfl
  · split <;> rfl
theorem ab_fn_eq {α : Type} (x : Nat) (k : Nat → α) : ab_fn x k = k x := by
  unfold ab_fn
  split <;> rfl
def ab_slot (h : eg_H) (a k : Nat) : Option Value := match eg_get h a with
  | some (.inl q) => eg_nth q.2 k
  | some (.inr q) => eg_nth q.2 k
  | none => none
def ab_gv (g : ab_G) (v : Value) : Prop := match g with
  | .inl q => ∃ x : Int32, v = .int x ∧ q.1 ≤ x.toInt ∧ x.toInt ≤ q.2
  | .inr 0 => ∃ x : Int64, v = .long x
  | .inr 1 => False
  | .inr (k + 2) => v = .ref k
def ab_sh (h : eg_H) (a tag : Nat) (xs : List Value) : Prop := (tag < 100 ∧ eg_get h a = some (.inl (tag, xs))) ∨ (∃ ci, tag = 100 + ci ∧ eg_get h a = some (.inr (ci, xs)))
/-- the int in a slot -/
def hv (h : eg_H) (a k : Nat) : Int32 := match ab_slot h a k with
  | some (.int x) => x
  | _ => 0
/-- codes of a sentence: how high the row of truths is ahead of each; none takes what isn't there -/
def wf_d (c : Int) : Int := if c = 20 then 0 else if c = 21 then -1 else if c = 22 then -1 else 1
def wf_h (f : Nat → Int) : Nat → Int
  | 0 => 0
  | i + 1 => wf_h f i + wf_d (f i)
def wf_ok (f : Nat → Int) (n : Nat) : Prop := ∀ i, i < n → (f i = 20 → 1 ≤ wf_h f i) ∧ (f i = 21 ∨ f i = 22 → 2 ≤ wf_h f i)
def ab_cd (h : eg_H) (a b i : Nat) : Int := (hv h a (b + 1 + 3 * i)).toInt
def ab_Jc (h : eg_H) (a b : Nat) : Prop := wf_ok (ab_cd h a b) (hv h a b).toInt.toNat
/-- lines of a book: what is no days is a promise's -/
def ab_Jb (h : eg_H) : Prop := ∀ k : Nat, (hv h 113 k).toInt ≠ 4 → 0 ≤ (hv h 114 k).toInt ∧ (hv h 114 k).toInt ≤ 9
/-- what holds of several slots together at all times -/
def ab_J (h : eg_H) : Prop := ab_Jc h 184 126 ∧ ab_Jc h 201 126 ∧ ab_Jc h 201 433 ∧ ab_Jb h
/-- the slots that it speaks of -/
def ab_pr (a k : Nat) : Bool := ((Nat.beq a 184 || Nat.beq a 201) && Nat.ble 126 k) || Nat.beq a 113 || Nat.beq a 114
theorem hv_same {h h' : eg_H} {a k : Nat} (e : ab_slot h' a k = ab_slot h a k) : hv h' a k = hv h a k := by
  unfold hv
  rw [e]
theorem ab_Jc.same {h h' : eg_H} {a b : Nat} (hJ : ab_Jc h a b) (e : ∀ k, b ≤ k → ab_slot h' a k = ab_slot h a k) : ab_Jc h' a b := by
  have e1 : ab_cd h' a b = ab_cd h a b := funext (fun i => by
    unfold ab_cd
    rw [hv_same (e _ (by omega))])
  unfold ab_Jc at hJ ⊢
  rw [e1, hv_same (e b (Nat.le_refl _))]
  exact hJ
theorem ab_J.same {h h' : eg_H} (hJ : ab_J h) (e : ∀ a k, ab_pr a k = true → ab_slot h' a k = ab_slot h a k) : ab_J h' := by
  obtain ⟨h1, h2, h3, h4⟩ := hJ
  have p1 : ∀ k, 126 ≤ k → ab_pr 184 k = true := fun k hk => by
    unfold ab_pr
    rw [Nat.ble_eq.mpr hk]; rfl
  have p2 : ∀ k, 126 ≤ k → ab_pr 201 k = true := fun k hk => by
    unfold ab_pr
    rw [Nat.ble_eq.mpr hk]; rfl
  refine ⟨h1.same (fun k hk => e _ _ (p1 k hk)), h2.same (fun k hk => e _ _ (p2 k hk)), h3.same (fun k hk => e _ _ (p2 k (by omega))), fun k hd => ?_⟩
  have q1 : ab_pr 113 k = true := by unfold ab_pr; cases Nat.ble 126 k <;> rfl
  have q2 : ab_pr 114 k = true := by unfold ab_pr; cases Nat.ble 126 k <;> rfl
  rw [hv_same (e 113 k q1)] at hd
  rw [hv_same (e 114 k q2)]
  exact h4 k hd
def ab_hp0 (h : eg_H) : Prop := ∀ a c, ab_get a = some c → (∃ xs, ab_sh h a c.1 xs ∧ xs.length = ab_len c.2) ∧ ∀ k g, ab_sl c.2 k = some g → ∃ v, ab_slot h a k = some v ∧ ab_gv g v
def ab_hp (h : eg_H) : Prop := ab_hp0 h ∧ ab_J h
def ab_fr (M : ab_M) (h h0 : eg_H) : Prop := ∀ a k, ab_inr M a k k = false → ab_slot h a k = ab_slot h0 a k
def ab_v (ν : Nat → Int) (n : Nat) (A : ab_A) (v : Value) : Prop := match A with
  | .inl q => ∃ x : Int32, v = .int x ∧ q.1 < n ∧ x.toInt = ν q.1 + q.2
  | .inr 0 => ∃ x : Int64, v = .long x
  | .inr 1 => v = .float 1
  | .inr (k + 2) => v = .ref k
def ab_vs (ν : Nat → Int) (n : Nat) : List ab_A → List Value → Prop
  | [], c => c = []
  | A :: l, c => ∃ v t, c = v :: t ∧ ab_v ν n A v ∧ ab_vs ν n l t
def ab_vl (ν : Nat → Int) (n : Nat) (ls : List (Nat × ab_A)) (lc : eg_L) : Prop := ∀ k A, (k, A) ∈ ls → ∃ v, eg_find k lc = some v ∧ ab_v ν n A v
def ab_be (ν : Nat → Int) (n j : Nat) (B : ab_B) : Prop := j < n ∧ B.1 ≤ ν j ∧ ν j ≤ B.2.1 ∧ (B.2.2.1 = true → ν j ≠ 0) ∧ ∀ b r, B.2.2.2 = some (b, r) → b < n ∧ ν b + r ≤ ν j
def ab_e (ν : Nat → Int) (n : Nat) (en : ab_E) : Prop := ∀ j B, eg_find j en = some B → ab_be ν n j B
def ab_vo (ν : Nat → Int) (n : Nat) (ov : ab_O) (h : eg_H) : Prop := ∀ key j d, eg_find key ov = some (j, d) → ∃ x : Int32, ab_slot h (key / 1024) (key % 1024) = some (.int x) ∧ j < n ∧ x.toInt = ν j + d
def ab_r (L : Nat) (ν : Nat → Int) (σ : ab_S) (ls : eg_L) (st : List Value) (h : eg_H) : Prop :=
  (2 ≤ σ.1 ∧ ν 0 = 0 ∧ ν 1 = L) ∧ ab_e ν σ.1 σ.2.1 ∧ ab_vl ν σ.1 σ.2.2.1 ls ∧ ab_vs ν σ.1 σ.2.2.2.1 st ∧ ab_vo ν σ.1 σ.2.2.2.2 h ∧ ab_hp h
/-- more symbols -/
def ab_ext (ν ν' : Nat → Int) (n : Nat) : Prop := ∀ j, j < n → ν' j = ν j
theorem ab_ext.rf {ν : Nat → Int} {n : Nat} : ab_ext ν ν n := fun _ _ => rfl
theorem ab_ext.tr {ν ν' ν2 : Nat → Int} {n n' : Nat} (h : ab_ext ν ν' n) (h2 : ab_ext ν' ν2 n') (hn : n ≤ n') : ab_ext ν ν2 n := fun j hj => (h2 j (Nat.lt_of_lt_of_le hj hn)).trans (h j hj)
theorem ab_v.up {ν ν' : Nat → Int} {n n' : Nat} {A : ab_A} {v : Value} (h : ab_v ν n A v) (he : ab_ext ν ν' n) (hn : n ≤ n') : ab_v ν' n' A v := by
  match A, h with
  | .inl q, ⟨x, e, hj, hx⟩ => exact ⟨x, e, Nat.lt_of_lt_of_le hj hn, by rw [he _ hj]; exact hx⟩
  | .inr 0, h => exact h
  | .inr 1, h => exact h
  | .inr (k + 2), h => exact h
theorem ab_vs.up {ν ν' : Nat → Int} {n n' : Nat} {l : List ab_A} {c : List Value} (h : ab_vs ν n l c) (he : ab_ext ν ν' n) (hn : n ≤ n') : ab_vs ν' n' l c := by
  induction l generalizing c with
  | nil => exact h
  | cons A l ih =>
    obtain ⟨v, t, e, hv, ht⟩ := h
    exact ⟨v, t, e, hv.up he hn, ih ht⟩
theorem ab_vl.up {ν ν' : Nat → Int} {n n' : Nat} {l : List (Nat × ab_A)} {c : eg_L} (h : ab_vl ν n l c) (he : ab_ext ν ν' n) (hn : n ≤ n') : ab_vl ν' n' l c := fun k A hm => by
  obtain ⟨v, h1, h2⟩ := h k A hm
  exact ⟨v, h1, h2.up he hn⟩
theorem ab_be.up {ν ν' : Nat → Int} {n n' j : Nat} {B : ab_B} (h : ab_be ν n j B) (he : ab_ext ν ν' n) (hn : n ≤ n') : ab_be ν' n' j B := by
  obtain ⟨h1, h2, h3, h4, h5⟩ := h
  have e := he j h1
  refine ⟨Nat.lt_of_lt_of_le h1 hn, by rw [e]; exact h2, by rw [e]; exact h3, by rw [e]; exact h4, fun b r hb => ?_⟩
  obtain ⟨g1, g2⟩ := h5 b r hb
  exact ⟨Nat.lt_of_lt_of_le g1 hn, by rw [e, he b g1]; exact g2⟩
theorem ab_e.up {ν ν' : Nat → Int} {n n' : Nat} {en : ab_E} (h : ab_e ν n en) (he : ab_ext ν ν' n) (hn : n ≤ n') : ab_e ν' n' en := fun j B hf => (h j B hf).up he hn
theorem ab_vo.up {ν ν' : Nat → Int} {n n' : Nat} {ov : ab_O} {h : eg_H} (hv : ab_vo ν n ov h) (he : ab_ext ν ν' n) (hn : n ≤ n') : ab_vo ν' n' ov h := fun key j d hf => by
  obtain ⟨x, h1, h2, h3⟩ := hv key j d hf
  exact ⟨x, h1, Nat.lt_of_lt_of_le h2 hn, by rw [he _ h2]; exact h3⟩
theorem ab_find_cons {α : Type} (k j : Nat) (v : α) (l : List (Nat × α)) : eg_find k ((j, v) :: l) = if j = k then some v else eg_find k l := by
  have e : eg_find k ((j, v) :: l) = (match Nat.beq j k with
    | true => some v
    | false => eg_find k l) := rfl
  rw [e]
  by_cases h : j = k
  · rw [if_pos h, h, Nat.beq_refl]
  · rw [if_neg h]
    cases hb : Nat.beq j k with
    | true => exact absurd (Nat.eq_of_beq_eq_true hb) h
    | false => rfl
theorem ab_e.cons {ν : Nat → Int} {n j : Nat} {B : ab_B} {en : ab_E} (h : ab_e ν n en) (hB : ab_be ν n j B) : ab_e ν n ((j, B) :: en) := fun k C hf => by
  rw [ab_find_cons] at hf
  by_cases e : j = k
  · rw [if_pos e] at hf
    cases hf
    rw [← e]; exact hB
  · rw [if_neg e] at hf
    exact h k C hf
theorem ab_vo.cons {ν : Nat → Int} {n key j : Nat} {d : Int} {ov : ab_O} {h : eg_H} (hv : ab_vo ν n ov h) (hB : ∃ x : Int32, ab_slot h (key / 1024) (key % 1024) = some (.int x) ∧ j < n ∧ x.toInt = ν j + d) : ab_vo ν n ((key, j, d) :: ov) h := fun k i c hf => by
  rw [ab_find_cons] at hf
  by_cases e : key = k
  · rw [if_pos e] at hf
    cases hf
    rw [← e]; exact hB
  · rw [if_neg e] at hf
    exact hv k i c hf
theorem ab_key_d (a k : Nat) (hk : k < 1024) : ab_key a k / 1024 = a ∧ ab_key a k % 1024 = k := by
  unfold ab_key
  omega
/-- one symbol more -/
def ab_upd (ν : Nat → Int) (n : Nat) (x : Int) : Nat → Int := fun j => if j = n then x else ν j
theorem ab_upd_ext {ν : Nat → Int} {n : Nat} {x : Int} : ab_ext ν (ab_upd ν n x) n := fun j hj => by
  unfold ab_upd
  rw [if_neg (by omega)]
theorem ab_upd_n {ν : Nat → Int} {n : Nat} {x : Int} : ab_upd ν n x n = x := by
  unfold ab_upd
  rw [if_pos rfl]
theorem ab_upd_be {ν : Nat → Int} {n : Nat} {x lo hi : Int} (h1 : lo ≤ x) (h2 : x ≤ hi) : ab_be (ab_upd ν n x) (n + 1) n (lo, hi, false, none) := by
  refine ⟨Nat.lt_succ_self n, ?_, ?_, (fun h => by cases h), fun b r hb => by cases hb⟩
  · rw [ab_upd_n]; exact h1
  · rw [ab_upd_n]; exact h2
theorem ab_base {L : Nat} {ν ν' : Nat → Int} {n n' : Nat} (h : 2 ≤ n ∧ ν 0 = 0 ∧ ν 1 = L) (he : ab_ext ν ν' n) (hn : n ≤ n') : 2 ≤ n' ∧ ν' 0 = 0 ∧ ν' 1 = L :=
  ⟨by omega, by rw [he 0 (by omega)]; exact h.2.1, by rw [he 1 (by omega)]; exact h.2.2⟩
/-- what an int may be -/
theorem ab_iv_v {ν : Nat → Int} {n : Nat} {en : ab_E} (he : ab_e ν n en) (h0 : ν 0 = 0) {j : Nat} {d : Int} {x : Int32} (hx : x.toInt = ν j + d) : (ab_iv en j d).1 ≤ x.toInt ∧ x.toInt ≤ (ab_iv en j d).2 := by
  unfold ab_iv
  match j with
  | 0 => rw [hx, h0]; simp
  | j + 1 =>
    simp only [Nat.succ_eq_add_one]
    cases hf : eg_find (j + 1) en with
    | none => exact ⟨Int32.le_toInt x, Int32.toInt_le x⟩
    | some B =>
      obtain ⟨lo, hi, q⟩ := B
      obtain ⟨-, h2, h3, -⟩ := he _ _ hf
      simp only at h2 h3 ⊢
      omega
/-- a handler of the run and one of the engine -/
def ab_ok (sc : List Value) (M : ab_M) (G : eg_O) (g : ab_S → ab_N) : Prop := ∀ (ν : Nat → Int) (σ : ab_S) (K : List (Nat × ab_S)) (ls : eg_L) (st : List Value) (h : eg_H), ab_r sc.length ν σ ls st h → g σ = some K →
  ∃ (t : Nat) (σ' : ab_S) (ν' : Nat → Int) (ls' : eg_L) (st' : List Value) (h' : eg_H), (t, σ') ∈ K ∧ G ls st 999 h 0 0 = some (t, ls', st', 999, h', 0, 0) ∧ ab_r sc.length ν' σ' ls' st' h' ∧ ab_ext ν ν' σ.1 ∧ σ.1 ≤ σ'.1 ∧ ab_fr M h' h
theorem ab_fr.rf {M : ab_M} {h : eg_H} : ab_fr M h h := fun _ _ _ => rfl
/-- nothing but the stack: no symbol more -/
theorem ab_ok0 {sc : List Value} {M : ab_M} {G : eg_O} {n : Nat} {en : ab_E} {ls : List (Nat × ab_A)} {st st2 : List ab_A} {ov : ab_O} {ν : Nat → Int} {lc : eg_L} {sn sn' : List Value} {h : eg_H} (hr : ab_r sc.length ν (n, en, ls, st, ov) lc sn h) (hG : G lc sn 999 h 0 0 = some (0, lc, sn', 999, h, 0, 0)) {K : List (Nat × ab_S)} (hK : ab_go (n, en, ls, st2, ov) = some K) (hs : ab_vs ν n st2 sn') :
  ∃ (t : Nat) (σ' : ab_S) (ν' : Nat → Int) (ls' : eg_L) (st' : List Value) (h' : eg_H), (t, σ') ∈ K ∧ G lc sn 999 h 0 0 = some (t, ls', st', 999, h', 0, 0) ∧ ab_r sc.length ν' σ' ls' st' h' ∧ ab_ext ν ν' n ∧ n ≤ σ'.1 ∧ ab_fr M h' h := by
  cases hK
  obtain ⟨hb, he, hl, -, ho, hh⟩ := hr
  exact ⟨0, _, ν, lc, sn', h, List.mem_cons_self, hG, ⟨hb, he, hl, hs, ho, hh⟩, ab_ext.rf, Nat.le_refl _, ab_fr.rf⟩
/-- a new int on the stack -/
theorem ab_ok1 {sc : List Value} {M : ab_M} {G : eg_O} {n : Nat} {en : ab_E} {ls : List (Nat × ab_A)} {st st2 st3 : List ab_A} {ov : ab_O} {ν : Nat → Int} {lc : eg_L} {sn sn' : List Value} {h : eg_H} {x : Int32} {lo hi : Int} (hr : ab_r sc.length ν (n, en, ls, st, ov) lc sn h) (hG : G lc sn 999 h 0 0 = some (0, lc, .int x :: sn', 999, h, 0, 0)) (hs : ab_vs ν n st2 sn') (h1 : lo ≤ x.toInt) (h2 : x.toInt ≤ hi) {K : List (Nat × ab_S)} (hK : ab_go (ab_fresh (n, en, ls, st3, ov) lo hi st2) = some K) :
  ∃ (t : Nat) (σ' : ab_S) (ν' : Nat → Int) (ls' : eg_L) (st' : List Value) (h' : eg_H), (t, σ') ∈ K ∧ G lc sn 999 h 0 0 = some (t, ls', st', 999, h', 0, 0) ∧ ab_r sc.length ν' σ' ls' st' h' ∧ ab_ext ν ν' n ∧ n ≤ σ'.1 ∧ ab_fr M h' h := by
  simp only [ab_fresh, ab_fi_eq] at hK
  cases hK
  obtain ⟨hb, he, hl, -, ho, hh⟩ := hr
  have hx := ab_upd_ext (ν := ν) (n := n) (x := x.toInt)
  refine ⟨0, _, ab_upd ν n x.toInt, lc, _, h, List.mem_cons_self, hG, ⟨ab_base hb hx (Nat.le_succ n), (he.up hx (Nat.le_succ n)).cons (ab_upd_be h1 h2), hl.up hx (Nat.le_succ n), ⟨_, _, rfl, ⟨x, rfl, Nat.lt_succ_self n, ?_⟩, hs.up hx (Nat.le_succ n)⟩, ho.up hx (Nat.le_succ n), hh⟩, hx, Nat.le_succ n, ab_fr.rf⟩
  show x.toInt = ab_upd ν n x.toInt n + 0
  rw [ab_upd_n]; omega
/-! lists of locals -/
theorem ab_find_fil {α : Type} {k : Nat} {l : List (Nat × α)} {v : α} (p : Nat × α → Bool) (h : eg_find k l = some v) (hp : p (k, v) = true) : eg_find k (eg_fil p l) = some v := by
  induction l with
  | nil => cases h
  | cons q l ih =>
    obtain ⟨a, w⟩ := q
    rw [ab_find_cons] at h
    unfold eg_fil
    by_cases e : a = k
    · rw [if_pos e] at h
      cases h
      rw [e, hp]
      simp only
      rw [ab_find_cons, if_pos rfl]
    · rw [if_neg e] at h
      cases hb : p (a, w) with
      | true =>
        simp only
        rw [ab_find_cons, if_neg e]
        exact ih h
      | false => exact ih h
theorem ab_fil_mem {α : Type} {l : List α} {p : α → Bool} {a : α} (h : a ∈ eg_fil p l) : a ∈ l ∧ p a = true := by
  induction l with
  | nil => cases h
  | cons b l ih =>
    unfold eg_fil at h
    cases hb : p b with
    | true =>
      rw [hb] at h
      rcases List.mem_cons.mp h with e | e
      · exact ⟨by rw [e]; exact List.mem_cons_self, by rw [e]; exact hb⟩
      · exact ⟨List.mem_cons_of_mem _ (ih e).1, (ih e).2⟩
    | false =>
      rw [hb] at h
      exact ⟨List.mem_cons_of_mem _ (ih h).1, (ih h).2⟩
theorem ab_is1_c {ν : Nat → Int} {n : Nat} {A : ab_A} {v : Value} (h : ab_v ν n A v) : eg_is1 v = ab_is1 A ∧ v.category = bif ab_is1 A then 1 else 2 := by
  match A, h with
  | .inl q, ⟨x, e, _, _⟩ => rw [e]; exact ⟨rfl, rfl⟩
  | .inr 0, ⟨x, e⟩ => rw [e]; exact ⟨rfl, rfl⟩
  | .inr 1, e => rw [show v = _ from e]; exact ⟨rfl, rfl⟩
  | .inr (k + 2), e => rw [show v = _ from e]; exact ⟨rfl, rfl⟩
/-- a local more, some gone -/
theorem ab_vl.put {ν : Nat → Int} {n k : Nat} {A : ab_A} {v : Value} {ls : List (Nat × ab_A)} {lc : eg_L} (hl : ab_vl ν n ls lc) (hv : ab_v ν n A v) (p : Nat × ab_A → Bool) (q : Nat × Value → Bool) (hpq : ∀ j B w, ab_v ν n B w → p (j, B) = true → q (j, w) = true ∧ j ≠ k) : ab_vl ν n ((k, A) :: eg_fil p ls) ((k, v) :: eg_fil q lc) := by
  intro j B hm
  rw [ab_find_cons]
  rcases List.mem_cons.mp hm with e | e
  · cases e
    rw [if_pos rfl]
    exact ⟨v, rfl, hv⟩
  · obtain ⟨h1, h2⟩ := ab_fil_mem e
    obtain ⟨w, g1, g2⟩ := hl j B h1
    obtain ⟨h3, h4⟩ := hpq j B w g2 h2
    rw [if_neg (fun e => h4 e.symm)]
    exact ⟨w, ab_find_fil q g1 h3, g2⟩
theorem ab_k1_v {ν : Nat → Int} {n k j : Nat} {B : ab_A} {w : Value} (h : ab_v ν n B w) (hp : ab_k1 k (j, B) = true) : eg_k1 k (j, w) = true ∧ j ≠ k := by
  have hc := (ab_is1_c h).2
  unfold ab_k1 at hp
  unfold eg_k1
  simp only [hc]
  have h1 := Bool.and_eq_true_iff.mp hp
  refine ⟨?_, fun e => ?_⟩
  · rw [h1.1]
    cases hb : ab_is1 B with
    | true => cases Nat.beq (j + 1) k <;> rfl
    | false =>
      have h2 := h1.2
      simp only [hb] at h2
      cases hj : Nat.beq (j + 1) k with
      | true => rw [hj] at h2; cases h2
      | false => rfl
  · have h2 := h1.1
    simp only [e, Nat.beq_refl] at h2
    cases h2
theorem ab_k2_v {ν : Nat → Int} {n k j : Nat} {B : ab_A} {w : Value} (h : ab_v ν n B w) (hp : ab_k2 k (j, B) = true) : eg_k2 k (j, w) = true ∧ j ≠ k := by
  have hc := (ab_is1_c h).2
  unfold ab_k2 at hp
  unfold eg_k2
  simp only [hc]
  have h1 := Bool.and_eq_true_iff.mp hp
  have h3 := Bool.and_eq_true_iff.mp h1.2
  refine ⟨?_, fun e => ?_⟩
  · rw [h1.1, h3.1]
    cases hb : ab_is1 B with
    | true => cases Nat.beq (j + 1) k <;> rfl
    | false =>
      have h2 := h3.2
      simp only [hb] at h2
      cases hj : Nat.beq (j + 1) k with
      | true => rw [hj] at h2; cases h2
      | false => rfl
  · have h2 := h1.1
    simp only [e, Nat.beq_refl] at h2
    cases h2
