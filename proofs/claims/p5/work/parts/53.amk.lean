/-! summaries, one by one -/
def ab_osc (sc : List Value) : Prop := (∀ k v, eg_nth sc k = some v → ∃ x : Int32, v = .int x) ∧ sc.length < 2 ^ 31
/-- it holds for every script, wherever the law stops -/
def ab_Tr (q : ab_Q) : Prop := ∀ sc sp, ab_osc sc → ab_trs sc sp q
def eg_pok (x : Nat × eg_W) : Bool := eg_ord x.2
theorem eg_pt_ord : eg_pt.all (fun l => l.all eg_pok) = true := by decide +kernel
theorem eg_pg9_ord : eg_ord pg_9999 = true := by decide +kernel
theorem ab_ord_all : ab_ordok := by
  intro u
  unfold eg_pg
  cases hb : Nat.beq u 9999 with
  | true => exact eg_pg9_ord
  | false =>
    simp only
    cases hl : eg_nth eg_pt (u / 64) with
    | none => rfl
    | some l =>
      simp only
      cases hf : eg_find u l with
      | none => rfl
      | some w =>
        rw [eg_nth_eq] at hl
        exact List.all_eq_true.mp (List.all_eq_true.mp eg_pt_ord l (List.mem_of_getElem? hl)) (u, w) (eg_find_mem hf)
theorem ab_mk {T : List ab_Q} {stops : List Nat} {n : Nat} {q : ab_Q} (h : ab_good none T stops n q = true) (hT : ∀ x ∈ T, ab_Tr x) : ab_Tr q := fun _ _ hs => ab_good_ok hs.1 hs.2 ab_ord_all (Or.inl rfl) (fun x hx => hT x hx _ _ hs) h
theorem ab_l0 : ∀ x ∈ ([] : List ab_Q), ab_Tr x := fun _ h => nomatch h
theorem ab_l1 {q : ab_Q} {T : List ab_Q} (h : ab_Tr q) (hT : ∀ x ∈ T, ab_Tr x) : ∀ x ∈ q :: T, ab_Tr x := fun x hx => by
  rcases List.mem_cons.mp hx with e | e
  · rw [e]; exact h
  · exact hT x e
