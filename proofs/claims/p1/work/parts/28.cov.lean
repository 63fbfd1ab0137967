/-! each script lies in one of the cases -/
theorem cv_F {p : List (Int × Int)} : ∀ {lo : Int}, eg_covF lo p = true → ∀ z : Int, lo ≤ z → z ≤ 2147483647 → ∃ r ∈ p, r.1 ≤ z ∧ z ≤ r.2 := by
  induction p with
  | nil =>
    intro lo h z h1 h2
    have h3 : (2147483647 : Int) < lo := of_decide_eq_true h
    omega
  | cons r l ih =>
    intro lo h z h1 h2
    unfold eg_covF at h
    simp only [Bool.and_eq_true, decide_eq_true_eq] at h
    obtain ⟨⟨e1, e2⟩, e3⟩ := h
    by_cases hz : z ≤ r.2
    · exact ⟨r, List.mem_cons_self, by omega, hz⟩
    · obtain ⟨r', g1, g2⟩ := ih e3 z (by omega) h2
      exact ⟨r', List.mem_cons_of_mem _ g1, g2⟩
theorem cv_prod (xs : Nat → Int32) (pt : List (List (Int × Int))) : ∀ k : Nat, pt.all eg_cov = true → ∃ en ∈ eg_prod pt, en.length = pt.length ∧ ∀ j r, eg_nth en j = some r → r.1 ≤ (xs (k + j)).toInt ∧ (xs (k + j)).toInt ≤ r.2 := by
  induction pt with
  | nil => exact fun k _ => ⟨[], by simp [eg_prod], rfl, fun j r h => by cases h⟩
  | cons p pt ih =>
    intro k h
    simp only [List.all_cons, Bool.and_eq_true] at h
    obtain ⟨en, h1, h2, h3⟩ := ih (k + 1) h.2
    obtain ⟨r, g1, g2, g3⟩ := cv_F h.1 (xs k).toInt (by have := (xs k).le_toInt; simpa using this) (by have := (xs k).toInt_lt; omega)
    refine ⟨r :: en, ?_, by simp [h2], fun j q hj => ?_⟩
    · simp only [eg_prod, List.mem_flatMap, List.mem_map]
      exact ⟨r, g1, en, h1, rfl⟩
    · cases j with
      | zero => cases hj; exact ⟨g2, g3⟩
      | succ j =>
        have := h3 j q hj
        rw [show k + (j + 1) = k + 1 + j by omega]
        exact this
theorem cv_mks (E : eg_X) (en : List (Int × Int)) : ∀ k : Nat, (∀ j r, eg_nth en j = some r → r.1 ≤ (E.2.2.2.2 (k + j)).toInt ∧ (E.2.2.2.2 (k + j)).toInt ≤ r.2) → ∀ j v, eg_nth (eg_mks k en) j = some v → eg_v E v (.int (E.2.2.2.2 (k + j))) := by
  induction en with
  | nil => intro k h j v hj; cases hj
  | cons r en ih =>
    intro k h j v hj
    cases j with
    | zero =>
      have h0 := h 0 r rfl
      unfold eg_mks at hj
      by_cases hr : r.1 = r.2
      · rw [if_pos hr] at hj
        cases hj
        show Value.int (E.2.2.2.2 (k + 0)) = Value.int (Int32.ofInt r.1)
        rw [show r.1 = (E.2.2.2.2 (k + 0)).toInt by omega, Int32.ofInt_toInt]
      · rw [if_neg hr] at hj
        cases hj
        rfl
    | succ j =>
      have h9 := ih (k + 1) (fun j r hj => by
        have := h (j + 1) r hj
        rw [show k + 1 + j = k + (j + 1) by omega]
        exact this) j v hj
      rw [show k + (j + 1) = k + 1 + j by omega]
      exact h9
theorem cv_len (en : List (Int × Int)) : ∀ k : Nat, (eg_mks k en).length = en.length := by
  induction en with
  | nil => intro k; rfl
  | cons r en ih => intro k; simp [eg_mks, ih]
/-- of a script: the case that it lies in -/
theorem cv_of (E : eg_X) {pt : List (List (Int × Int))} (h : pt.all eg_cov = true ∧ pt.length = 6) : ∃ en ∈ eg_prod pt, eg_en E en ∧ (eg_mks 0 en).length = 6 ∧ ∀ j v, eg_nth (eg_mks 0 en) j = some v → eg_v E v (.int (E.2.2.2.2 j)) := by
  obtain ⟨en, h1, h2, h3⟩ := cv_prod E.2.2.2.2 pt 0 h.1
  refine ⟨en, h1, fun j r hj => by have := h3 j r hj; rwa [Nat.zero_add] at this, by rw [cv_len, h2]; exact h.2, fun j v hj => ?_⟩
  have := cv_mks E en 0 h3 j v hj
  rwa [Nat.zero_add] at this
theorem cv_case {t : Nat} {en : List (Int × Int)} (h : eg_case t en = true) : ∃ (pc' : Nat) (ls' : eg_L) (hn' : Nat) (h' : eg_H), eg_run en (eg_mks 0 en) 99999 0 20000 9999 12 20 0 0 t (eg_seek t (eg_pg 9999)) eg_ls23 [] eg_hn23 eg_h23 = some (3, pc', ls', [.int 1], hn', h') := by
  unfold eg_case at h
  split at h
  next a b w c d heq =>
    have hw : w = 1 := by simpa using h
    subst hw
    exact ⟨_, _, _, _, heq⟩
  next => cases h
/-- the law's end for a script that is too short -/
noncomputable def lf_case (L : Nat) : Bool := match eg_run [] (eg_rep (.float 0) L) 99999 0 20000 9999 12 20 0 0 23 (eg_seek 23 (eg_pg 9999)) eg_ls23 [] eg_hn23 eg_h23 with
  | some (3, _, _, [.int w], _, _) => w == 1
  | _ => false
theorem lf_v {L : Nat} (h : lf_case L = true) : ∃ (pc' : Nat) (ls' : eg_L) (hn' : Nat) (h' : eg_H), eg_run [] (eg_rep (.float 0) L) 99999 0 20000 9999 12 20 0 0 23 (eg_seek 23 (eg_pg 9999)) eg_ls23 [] eg_hn23 eg_h23 = some (3, pc', ls', [.int 1], hn', h') := by
  unfold lf_case at h
  split at h
  next a b w c d heq =>
    have hw : w = 1 := by simpa using h
    subst hw
    exact ⟨_, _, _, _, heq⟩
  next => cases h
theorem lf_ok : ∀ L, L < 6 → lf_case L = true := by decide +kernel
def lf_en : List (Int × Int) := [(-2147483648, 2147483647), (-2147483648, 2147483647), (-2147483648, 2147483647), (-2147483648, 2147483647), (-2147483648, 2147483647), (-2147483648, 2147483647)]
theorem lf_in : eg_prod pt_0 = [lf_en] := by decide +kernel
theorem lf_6 : eg_req (eg_run lf_en (eg_mks 0 lf_en) 9999 39 200 9999 12 20 0 0 23 (eg_seek 23 (eg_pg 9999)) eg_ls23 [] eg_hn23 eg_h23) 9 39 eg_ls23 [.int 63, .retAddr 0] eg_hn23 eg_h23 = true := by decide +kernel
/-- the beginning, with room kept -/
theorem ph_6x : eg_req (eg_run [] (eg_rep (.float 0) 6) 9999 23 20000 9999 12 20 600001 7302226 0 (eg_pg 9999) [(0, .float 1)] [] 0 eg_h0) 9 23 eg_ls23 [] eg_hn23 eg_h23 = true := by decide +kernel
/-! the calls of the helpers -/
noncomputable def xq_run (t sp : Nat) (en : List (Int × Int)) : Bool := eg_req (eg_run en (eg_mks 0 en) 9999 sp 200 9999 12 20 0 0 t (eg_seek t (eg_pg 9999)) eg_ls23 [] eg_hn23 eg_h23) 9 sp eg_ls23 [.ref 204, (eg_mks 0 en).getD 2 .null, (eg_mks 0 en).getD 1 .null, .ref 0] eg_hn23 eg_h23
theorem xq_4 : ∀ en ∈ eg_prod pt_4, xq_run 348 362 en = true := List.all_eq_true.mp (by decide +kernel)
theorem xq_5 : ∀ en ∈ eg_prod pt_4, xq_run 416 430 en = true := List.all_eq_true.mp (by decide +kernel)
noncomputable def xe_case (t : Nat) (en : List (Int × Int)) : Bool := match eg_run en (eg_mks 0 en) 99999 0 20000 9999 12 20 0 0 t (eg_seek t (eg_pg 9999)) eg_ls23 [.int 1] 999 eg_h23 with
  | some (3, _, _, [.int w], _, _) => w == 1
  | _ => false
theorem xe_v {t : Nat} {en : List (Int × Int)} (h : xe_case t en = true) : ∃ (pc' : Nat) (ls' : eg_L) (hn' : Nat) (h' : eg_H), eg_run en (eg_mks 0 en) 99999 0 20000 9999 12 20 0 0 t (eg_seek t (eg_pg 9999)) eg_ls23 [.int 1] 999 eg_h23 = some (3, pc', ls', [.int 1], hn', h') := by
  unfold xe_case at h
  split at h
  next a b w c d heq =>
    have hw : w = 1 := by simpa using h
    subst hw
    exact ⟨_, _, _, _, heq⟩
  next => cases h
theorem xe_4 : ∀ en ∈ eg_prod pt_4, xe_case 365 en = true := List.all_eq_true.mp (by decide +kernel)
theorem xe_5 : ∀ en ∈ eg_prod pt_4, xe_case 433 en = true := List.all_eq_true.mp (by decide +kernel)
/-- what stands at the places 1 and 2 of a case of pt_4 -/
theorem xe_12 : ∀ en ∈ eg_prod pt_4, eg_nth (eg_mks 0 en) 1 = some ((eg_mks 0 en).getD 1 .null) ∧ eg_nth (eg_mks 0 en) 2 = some ((eg_mks 0 en).getD 2 .null) := by decide +kernel
