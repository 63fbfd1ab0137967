/-! lists -/
theorem eg_nth_eq {α : Type} (l : List α) (k : Nat) : eg_nth l k = l[k]? := by
  induction l generalizing k with
  | nil => simp [eg_nth]
  | cons a l ih => cases k with
    | zero => simp [eg_nth]
    | succ k => simp [eg_nth, ih]
theorem eg_put_len {α : Type} (l : List α) (k : Nat) (v : α) : (eg_put l k v).length = l.length := by
  induction l generalizing k with
  | nil => simp [eg_put]
  | cons a l ih => cases k with
    | zero => simp [eg_put]
    | succ k => simp [eg_put, ih]
theorem eg_put_nth {α : Type} (l : List α) (k j : Nat) (v : α) : eg_nth (eg_put l k v) j = if j = k then (eg_nth l k).map (fun _ => v) else eg_nth l j := by
  induction l generalizing k j with
  | nil => simp [eg_put, eg_nth]
  | cons a l ih => cases k with
    | zero => cases j with
      | zero => simp [eg_put, eg_nth]
      | succ j => simp [eg_put, eg_nth]
    | succ k => cases j with
      | zero => simp [eg_put, eg_nth]
      | succ j => simp [eg_put, eg_nth, ih]
theorem eg_get_set {h : eg_H} {a : Nat} {c0 c : eg_C} (h0 : eg_get h a = some c0) (b : Nat) : eg_get (eg_set h a c) b = if b = a then some c else eg_get h b := by
  unfold eg_get at h0
  cases hr : eg_nth h (a / 16) with
  | none => rw [hr] at h0; cases h0
  | some r =>
    rw [hr] at h0
    simp only at h0
    have hs : eg_set h a c = eg_put h (a / 16) (eg_put r (a % 16) c) := by unfold eg_set; rw [hr]
    unfold eg_get
    rw [hs, eg_put_nth]
    by_cases hq : b / 16 = a / 16
    · rw [if_pos hq, hr]
      simp only [Option.map_some]
      rw [eg_put_nth]
      by_cases hm : b % 16 = a % 16
      · have hb : b = a := by omega
        rw [if_pos hm, h0, if_pos hb]
        rfl
      · have hb : ¬ b = a := fun e => hm (by rw [e])
        rw [if_neg hm, if_neg hb, hq, hr]
    · have hb : ¬ b = a := fun e => hq (by rw [e])
      rw [if_neg hq, if_neg hb]
theorem eg_find_mem {α : Type} {k : Nat} {l : List (Nat × α)} {v : α} (h : eg_find k l = some v) : (k, v) ∈ l := by
  induction l with
  | nil => simp [eg_find] at h
  | cons q l ih =>
    obtain ⟨a, w⟩ := q
    unfold eg_find at h
    cases hb : Nat.beq a k with
    | true =>
      rw [hb] at h
      have e := Nat.eq_of_beq_eq_true hb
      cases h
      rw [e]
      exact List.mem_cons_self
    | false =>
      rw [hb] at h
      exact List.mem_cons_of_mem _ (ih h)
theorem eg_at_mem {α : Type} {o k : Nat} {t : List (List (Nat × α))} {v : α} (h : eg_at o t k = some v) : ∃ l, t[o]? = some l ∧ (k, v) ∈ l := by
  unfold eg_at at h
  rw [eg_nth_eq] at h
  cases hl : t[o]? with
  | none => rw [hl] at h; cases h
  | some l => rw [hl] at h; exact ⟨l, rfl, eg_find_mem h⟩
theorem eg_seek_mem {t : Nat} {l : eg_W} {q : Nat × Instr × Nat} (h : q ∈ eg_seek t l) : q ∈ l := by
  induction l with
  | nil => simp [eg_seek] at h
  | cons r l ih =>
    obtain ⟨a, i, n⟩ := r
    unfold eg_seek at h
    cases hb : Nat.beq a t with
    | true => rw [hb] at h; exact h
    | false => rw [hb] at h; exact List.mem_cons_of_mem _ (ih h)
/-! values -/
/-- where the law's own cells begin, the script, the text, its bytes; the script's ints -/
abbrev eg_X : Type := Nat × Nat × Nat × Nat × (Nat → Int32)
def eg_v (E : eg_X) (a c : Value) : Prop := match a with
  | .int v => c = .int v
  | .long v => c = .long v
  | .null => c = .null
  | .ref k => c = .ref (E.1 + k)
  | .retAddr j => c = .int (E.2.2.2.2 j)
  | .float w => if w = 0 then ∃ x, c = .int x else if w = 1 then c = .ref E.2.1 else if w = 2 then c = .ref E.2.2.1 else if w = 3 then c = .ref E.2.2.2.1 else (c = .null ∨ ∃ a, c = .ref a)
  | .double _ => False
def eg_vs (E : eg_X) : List Value → List Value → Prop
  | [], c => c = []
  | a :: l, c => ∃ v t, c = v :: t ∧ eg_v E a v ∧ eg_vs E l t
def eg_ls (E : eg_X) : eg_L → List (Nat × Value) → Prop
  | [], c => c = []
  | q :: l, c => ∃ v t, c = (q.1, v) :: t ∧ eg_v E q.2 v ∧ eg_ls E l t
theorem eg_v_I {E : eg_X} {a c : Value} (h : eg_v E a c) (hi : eg_isI a = true) : ∃ x, c = .int x := by
  cases a with
  | int v => exact ⟨_, h⟩
  | retAddr j => exact ⟨_, h⟩
  | float w =>
    have hw : w = 0 := by simpa [eg_isI] using hi
    simp only [eg_v] at h
    rw [if_pos hw] at h
    exact h
  | _ => simp [eg_isI] at hi
theorem eg_v_J {E : eg_X} {a c : Value} (h : eg_v E a c) (hi : eg_isJ a = true) : ∃ x, c = .long x := by
  cases a with
  | long v => exact ⟨_, h⟩
  | _ => simp [eg_isJ] at hi
theorem eg_v_A {E : eg_X} {a c : Value} (h : eg_v E a c) (hi : eg_isA a = true) : ∃ x, c = .ref x := by
  cases a with
  | ref k => exact ⟨_, h⟩
  | float w =>
    have hw : (w = 1 ∨ w = 2) ∨ w = 3 := by simpa [eg_isA] using hi
    unfold eg_v at h
    rcases hw with (rfl | rfl) | rfl <;> exact ⟨_, h⟩
  | _ => simp [eg_isA] at hi
theorem eg_v_Q {E : eg_X} {a c : Value} (h : eg_v E a c) (hi : eg_isQ a = true) : c = .null ∨ ∃ x, c = .ref x := by
  cases a with
  | ref k => exact Or.inr ⟨_, h⟩
  | null => exact Or.inl h
  | float w =>
    have hw : ((w = 1 ∨ w = 2) ∨ w = 3) ∨ w = 4 := by simpa [eg_isQ] using hi
    unfold eg_v at h
    rcases hw with ((rfl | rfl) | rfl) | rfl
    · exact Or.inr ⟨_, h⟩
    · exact Or.inr ⟨_, h⟩
    · exact Or.inr ⟨_, h⟩
    · exact h
  | _ => simp [eg_isQ] at hi
theorem eg_v_cat {E : eg_X} {a c : Value} (h : eg_v E a c) : c.category = a.category := by
  cases a with
  | int v => cases (show c = _ from h); rfl
  | long v => cases (show c = _ from h); rfl
  | null => cases (show c = _ from h); rfl
  | ref k => cases (show c = _ from h); rfl
  | retAddr j => cases (show c = _ from h); rfl
  | float w =>
    simp only [eg_v] at h
    split at h
    · obtain ⟨x, rfl⟩ := h; rfl
    · split at h
      · cases h; rfl
      · split at h
        · cases h; rfl
        · split at h
          · cases h; rfl
          · rcases h with rfl | ⟨a, rfl⟩ <;> rfl
  | double w => exact h.elim
theorem eg_ni_v {v : Int32} {w : Value} (h : eg_ni v = some w) : w = .int v := by
  unfold eg_ni at h
  have e0 : v = Int32.ofNat v.toBitVec.toNat := by
    apply Int32.toBitVec_inj.mp
    simp
  split at h
  next hn => rw [hn] at e0; cases h; rw [e0]; rfl
  next n hn => rw [hn] at e0; cases h; rw [e0]
theorem eg_nl_v {v : Int64} {w : Value} (h : eg_nl v = some w) : w = .long v := by
  unfold eg_nl at h
  have e0 : v = Int64.ofNat v.toBitVec.toNat := by
    apply Int64.toBitVec_inj.mp
    simp
  split at h
  next hn => rw [hn] at e0; cases h; rw [e0]; rfl
  next n hn => rw [hn] at e0; cases h; rw [e0]
theorem eg_ls_find {E : eg_X} {l : eg_L} {c : List (Nat × Value)} (h : eg_ls E l c) {k : Nat} {a : Value} (hm : (k, a) ∈ l) : ∃ v, (k, v) ∈ c ∧ eg_v E a v := by
  induction l generalizing c with
  | nil => cases hm
  | cons q l ih =>
    obtain ⟨v, t, rfl, hv, ht⟩ := h
    rcases List.mem_cons.mp hm with e | e
    · rw [← e] at hv ⊢
      exact ⟨v, List.mem_cons_self, hv⟩
    · obtain ⟨w, h1, h2⟩ := ih ht e
      exact ⟨w, List.mem_cons_of_mem _ h1, h2⟩
theorem eg_ls_fil {E : eg_X} {l : eg_L} {c : List (Nat × Value)} (h : eg_ls E l c) (p q : Nat × Value → Bool) (hp : ∀ (k : Nat) (a v : Value), eg_v E a v → p (k, a) = q (k, v)) : eg_ls E (eg_fil p l) (c.filter q) := by
  induction l generalizing c with
  | nil => unfold eg_ls at h; subst h; rfl
  | cons r l ih =>
    obtain ⟨v, t, rfl, hv, ht⟩ := h
    obtain ⟨k, a⟩ := r
    have e := hp k a v hv
    unfold eg_fil
    rw [List.filter_cons]
    cases hb : p (k, a) with
    | true =>
      rw [← e, hb, if_pos rfl]
      exact ⟨v, _, rfl, hv, ih ht⟩
    | false =>
      rw [← e, hb, if_neg (by decide)]
      exact ih ht
theorem eg_ls_args {E : eg_X} (as vs : List Value) (h : eg_vs E as vs) (i : Nat) : eg_ls E (eg_args i as) (lv_args i vs) := by
  induction as generalizing vs i with
  | nil => unfold eg_vs at h; subst h; rfl
  | cons a as ih =>
    obtain ⟨v, t, rfl, hv, ht⟩ := h
    refine ⟨v, _, rfl, hv, ?_⟩
    have hc := eg_v_cat hv
    by_cases h2 : a.category = 2
    · rw [if_pos (by rw [hc]; exact h2)]
      have : Nat.beq a.category 2 = true := by rw [h2]; rfl
      rw [this]
      exact ih t ht _
    · rw [if_neg (by rw [hc]; exact h2)]
      have : Nat.beq a.category 2 = false := by
        cases hb : Nat.beq a.category 2 with
        | false => rfl
        | true => exact absurd (Nat.eq_of_beq_eq_true hb) h2
      rw [this]
      exact ih t ht _
theorem eg_cat_sum {E : eg_X} (as vs : List Value) (h : eg_vs E as vs) : (vs.map fun v => v.category).sum = eg_cat as := by
  induction as generalizing vs with
  | nil => unfold eg_vs at h; subst h; rfl
  | cons a as ih =>
    obtain ⟨v, t, rfl, hv, ht⟩ := h
    simp only [List.map_cons, List.sum_cons, eg_cat]
    rw [ih t ht, eg_v_cat hv]
theorem eg_cat_sl {E : eg_X} (as vs : List Value) (h : eg_vs E as vs) : (lg_sl vs).length = eg_cat as := by
  induction as generalizing vs with
  | nil => unfold eg_vs at h; subst h; rfl
  | cons a as ih =>
    obtain ⟨v, t, rfl, hv, ht⟩ := h
    have e1 : lg_sl (v :: t) = (if v.category = 2 then [.val v, .second] else [.val v]) ++ lg_sl t := by simp [lg_sl]
    rw [e1, List.length_append, ih t ht, eg_cat, ← eg_v_cat hv]
    rcases lv_cat v with h1 | h1 <;> rw [h1] <;> simp
