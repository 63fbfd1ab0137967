/-! a SENTENCE, token by token -/
/-- what stands open: true a bracket, false a not; nots are over where a one is whole -/
def dn : List Bool → List Bool
  | [] => []
  | false :: F => dn F
  | true :: F => true :: F
theorem dn_le : ∀ F : List Bool, (dn F).length ≤ F.length
  | [] => Nat.le_refl _
  | false :: F => Nat.le_succ_of_le (dn_le F)
  | true :: _ => Nat.le_refl _
theorem dn_dn : ∀ F : List Bool, dn (dn F) = dn F
  | [] => rfl
  | false :: F => dn_dn F
  | true :: _ => rfl
theorem dn_c : ∀ F : List Bool, dn F = [] ∨ ∃ G, dn F = true :: G
  | [] => Or.inl rfl
  | false :: F => dn_c F
  | true :: F => Or.inr ⟨F, rfl⟩
/-- what a one begins with: 1 a bracket, 2 a not, 3 how it is, 4 a man, 5 a measure -/
def ss_k (t : tx_K) : Nat := if t.1 = 2 ∧ t.2.1 = 40 then 1 else if 4 ≤ t.1 then (if t.2.1 = 10631 then 2 else if t.2.1 = 220610 ∨ t.2.1 = 283288069 ∨ t.2.1 = 122079 ∨ t.2.1 = 10506715 ∨ t.2.1 = 276903499 then 3 else if t.2.1 = 79 ∨ t.2.1 = 555 then 4 else if t.2.1 = 394725 ∨ t.2.1 = 400557 ∨ t.2.1 = 212302449 then 5 else 0) else 0
theorem sk_1 {t : tx_K} (h : t.1 = 2) (e : t.2.1 = 40) : ss_k t = 1 := if_pos ⟨h, e⟩
theorem sk_w {t : tx_K} (h : 4 ≤ t.1) : ss_k t = if t.2.1 = 10631 then 2 else if t.2.1 = 220610 ∨ t.2.1 = 283288069 ∨ t.2.1 = 122079 ∨ t.2.1 = 10506715 ∨ t.2.1 = 276903499 then 3 else if t.2.1 = 79 ∨ t.2.1 = 555 then 4 else if t.2.1 = 394725 ∨ t.2.1 = 400557 ∨ t.2.1 = 212302449 then 5 else 0 := by
  unfold ss_k
  rw [if_neg (by omega), if_pos h]
theorem sk_2 {t : tx_K} (h : 4 ≤ t.1) (e : t.2.1 = 10631) : ss_k t = 2 := by
  rw [sk_w h, if_pos e]
theorem sk_3 {t : tx_K} (h : 4 ≤ t.1) (e : t.2.1 = 220610 ∨ t.2.1 = 283288069 ∨ t.2.1 = 122079 ∨ t.2.1 = 10506715 ∨ t.2.1 = 276903499) : ss_k t = 3 := by
  rw [sk_w h, if_neg (by omega), if_pos e]
theorem sk_4 {t : tx_K} (h : 4 ≤ t.1) (e : t.2.1 = 79 ∨ t.2.1 = 555) : ss_k t = 4 := by
  rw [sk_w h, if_neg (by omega), if_neg (by omega), if_pos e]
theorem sk_5 {t : tx_K} (h : 4 ≤ t.1) (e : t.2.1 = 394725 ∨ t.2.1 = 400557 ∨ t.2.1 = 212302449) : ss_k t = 5 := by
  rw [sk_w h, if_neg (by omega), if_neg (by omega), if_neg (by omega), if_pos e]
theorem sk_0 {t : tx_K} (h1 : ¬ (t.1 = 2 ∧ t.2.1 = 40)) (h2 : ¬ (4 ≤ t.1 ∧ (t.2.1 = 10631 ∨ t.2.1 = 220610 ∨ t.2.1 = 283288069 ∨ t.2.1 = 122079 ∨ t.2.1 = 10506715 ∨ t.2.1 = 276903499 ∨ t.2.1 = 79 ∨ t.2.1 = 555 ∨ t.2.1 = 394725 ∨ t.2.1 = 400557 ∨ t.2.1 = 212302449))) : ss_k t = 0 := by
  by_cases h : 4 ≤ t.1
  · rw [sk_w h, if_neg (by omega), if_neg (by omega), if_neg (by omega), if_neg (by omega)]
  · unfold ss_k
    rw [if_neg h1, if_neg h]
def sb1 {α : Type} (x : Sum ER α) (k : Option (Sum ER Nat)) : Option (Sum ER Nat) := match x with
  | .inl e => some (.inl e)
  | .inr _ => k
theorem sb1_l {α : Type} {x : Sum ER α} {k : Option (Sum ER Nat)} {e : ER} (h : x = .inl e) : sb1 x k = some (.inl e) := by rw [h]; rfl
theorem sb1_r {α : Type} {x : Sum ER α} {k : Option (Sum ER Nat)} {a : α} (h : x = .inr a) : sb1 x k = k := by rw [h]; rfl
abbrev SK_T : Type := Bool → List Bool → Nat → Nat → Option (Sum ER Nat)
section SS
variable (tk : Nat → tx_K) (ta : Nat → Nat) (ps : PS)
/-- where a one must begin -/
noncomputable def s_op (k : SK_T) (F : List Bool) (n j : Nat) : Option (Sum ER Nat) := if ss_k (tk j) = 0 then some (.inl (1, ta j)) else if 20 ≤ n ∨ 8 ≤ F.length then some (.inl (4, ta j)) else if ss_k (tk j) = 1 then k false (true :: F) (n + 1) (j + 1) else if ss_k (tk j) = 2 then k false (false :: F) (n + 1) (j + 1) else if ss_k (tk j) = 3 then k true (dn F) (n + 1) (j + 1) else if ss_k (tk j) = 4 then sb1 (sp_old ps 0 4 (tk (j + 1)) (ta (j + 1))) (k true (dn F) (n + 1) (j + 2)) else if (tk (j + 1)).1 = 2 ∧ 60 ≤ (tk (j + 1)).2.1 ∧ (tk (j + 1)).2.1 ≤ 62 then sb1 (sp_num (tk (j + 2)) (ta (j + 2)) 0 999) (k true (dn F) (n + 1) (j + 3)) else some (.inl (1, ta (j + 1)))
def s_cl (k : SK_T) (F : List Bool) (n j : Nat) : Option (Sum ER Nat) := match F with
  | true :: G => k true (dn G) n (j + 1)
  | _ => some (.inl (1, ta j))
/-- behind a one -/
def s_wh (k : SK_T) (F : List Bool) (n j : Nat) : Option (Sum ER Nat) := if 4 ≤ (tk j).1 ∧ ((tk j).2.1 = 1111 ∨ (tk j).2.1 = 423) then k false F n (j + 1) else if (tk j).1 = 0 then (if F = [] then some (.inr n) else some (.inl (1, ta j))) else if (tk j).1 = 2 ∧ (tk j).2.1 = 41 then s_cl ta k F n j else some (.inl (1, ta j))
noncomputable def ss : Nat → SK_T
  | 0, _, _, _, _ => none
  | f + 1, false, F, n, j => s_op tk ta ps (ss f) F n j
  | f + 1, true, F, n, j => s_wh tk ta (ss f) F n j
/-- it comes to x -/
def ssx (w : Bool) (F : List Bool) (n j : Nat) (x : Sum ER Nat) : Prop := ∃ f, ss tk ta ps f w F n j = some x
end SS
section SX
variable {tk : Nat → tx_K} {ta : Nat → Nat} {ps : PS} {F G : List Bool} {n j : Nat} {x y : Sum ER Nat}
theorem ssx_z {w : Bool} (h : ss tk ta ps 0 w F n j = some x) : False := by
  have h : (none : Option (Sum ER Nat)) = some x := h
  cases h
theorem ssx_o {w' : Bool} {F' : List Bool} {n' j' : Nat} (e : ∀ k : SK_T, s_op tk ta ps k F n j = k w' F' n' j') : ssx tk ta ps false F n j x ↔ ssx tk ta ps w' F' n' j' x := by
  constructor
  · rintro ⟨f, h⟩
    cases f with
    | zero => exact (ssx_z h).elim
    | succ f =>
      have h : s_op tk ta ps (ss tk ta ps f) F n j = some x := h
      exact ⟨f, (e (ss tk ta ps f)).symm.trans h⟩
  · rintro ⟨f, h⟩
    refine ⟨f + 1, ?_⟩
    show s_op tk ta ps (ss tk ta ps f) F n j = some x
    exact (e (ss tk ta ps f)).trans h
theorem ssx_oe (e : ∀ k : SK_T, s_op tk ta ps k F n j = some y) : ssx tk ta ps false F n j x ↔ x = y := by
  constructor
  · rintro ⟨f, h⟩
    cases f with
    | zero => exact (ssx_z h).elim
    | succ f =>
      have h : s_op tk ta ps (ss tk ta ps f) F n j = some x := h
      exact (Option.some.inj ((e (ss tk ta ps f)).symm.trans h)).symm
  · intro g
    refine ⟨1, ?_⟩
    show s_op tk ta ps (ss tk ta ps 0) F n j = some x
    rw [g]
    exact e (ss tk ta ps 0)
theorem ssx_w {w' : Bool} {F' : List Bool} {n' j' : Nat} (e : ∀ k : SK_T, s_wh tk ta k F n j = k w' F' n' j') : ssx tk ta ps true F n j x ↔ ssx tk ta ps w' F' n' j' x := by
  constructor
  · rintro ⟨f, h⟩
    cases f with
    | zero => exact (ssx_z h).elim
    | succ f =>
      have h : s_wh tk ta (ss tk ta ps f) F n j = some x := h
      exact ⟨f, (e (ss tk ta ps f)).symm.trans h⟩
  · rintro ⟨f, h⟩
    refine ⟨f + 1, ?_⟩
    show s_wh tk ta (ss tk ta ps f) F n j = some x
    exact (e (ss tk ta ps f)).trans h
theorem ssx_we (e : ∀ k : SK_T, s_wh tk ta k F n j = some y) : ssx tk ta ps true F n j x ↔ x = y := by
  constructor
  · rintro ⟨f, h⟩
    cases f with
    | zero => exact (ssx_z h).elim
    | succ f =>
      have h : s_wh tk ta (ss tk ta ps f) F n j = some x := h
      exact (Option.some.inj ((e (ss tk ta ps f)).symm.trans h)).symm
  · intro g
    refine ⟨1, ?_⟩
    show s_wh tk ta (ss tk ta ps 0) F n j = some x
    rw [g]
    exact e (ss tk ta ps 0)
theorem o_0 (h : ss_k (tk j) = 0) : ssx tk ta ps false F n j x ↔ x = .inl (1, ta j) := ssx_oe (fun k => by
  unfold s_op
  rw [if_pos h])
theorem o_f (h : ss_k (tk j) ≠ 0) (hn : 20 ≤ n ∨ 8 ≤ F.length) : ssx tk ta ps false F n j x ↔ x = .inl (4, ta j) := ssx_oe (fun k => by
  unfold s_op
  rw [if_neg h, if_pos hn])
theorem o_1 (h : ss_k (tk j) = 1) (hn : n < 20) (hF : F.length < 8) : ssx tk ta ps false F n j x ↔ ssx tk ta ps false (true :: F) (n + 1) (j + 1) x := ssx_o (fun k => by
  unfold s_op
  rw [if_neg (by omega), if_neg (by omega), if_pos h])
theorem o_2 (h : ss_k (tk j) = 2) (hn : n < 20) (hF : F.length < 8) : ssx tk ta ps false F n j x ↔ ssx tk ta ps false (false :: F) (n + 1) (j + 1) x := ssx_o (fun k => by
  unfold s_op
  rw [if_neg (by omega), if_neg (by omega), if_neg (by omega), if_pos h])
theorem o_3 (h : ss_k (tk j) = 3) (hn : n < 20) (hF : F.length < 8) : ssx tk ta ps false F n j x ↔ ssx tk ta ps true (dn F) (n + 1) (j + 1) x := ssx_o (fun k => by
  unfold s_op
  rw [if_neg (by omega), if_neg (by omega), if_neg (by omega), if_neg (by omega), if_pos h])
theorem o_4 {v : Int} (h : ss_k (tk j) = 4) (hn : n < 20) (hF : F.length < 8) (e : sp_old ps 0 4 (tk (j + 1)) (ta (j + 1)) = .inr v) : ssx tk ta ps false F n j x ↔ ssx tk ta ps true (dn F) (n + 1) (j + 2) x := ssx_o (fun k => by
  unfold s_op
  rw [if_neg (by omega), if_neg (by omega), if_neg (by omega), if_neg (by omega), if_neg (by omega), if_pos h, sb1_r e])
theorem o_4e {r : ER} (h : ss_k (tk j) = 4) (hn : n < 20) (hF : F.length < 8) (e : sp_old ps 0 4 (tk (j + 1)) (ta (j + 1)) = .inl r) : ssx tk ta ps false F n j x ↔ x = .inl r := ssx_oe (fun k => by
  unfold s_op
  rw [if_neg (by omega), if_neg (by omega), if_neg (by omega), if_neg (by omega), if_neg (by omega), if_pos h, sb1_l e])
theorem o_5 {v : Int} (h : ss_k (tk j) = 5) (hn : n < 20) (hF : F.length < 8) (hs : (tk (j + 1)).1 = 2 ∧ 60 ≤ (tk (j + 1)).2.1 ∧ (tk (j + 1)).2.1 ≤ 62) (e : sp_num (tk (j + 2)) (ta (j + 2)) 0 999 = .inr v) : ssx tk ta ps false F n j x ↔ ssx tk ta ps true (dn F) (n + 1) (j + 3) x := ssx_o (fun k => by
  unfold s_op
  rw [if_neg (by omega), if_neg (by omega), if_neg (by omega), if_neg (by omega), if_neg (by omega), if_neg (by omega), if_pos hs, sb1_r e])
theorem o_5e {r : ER} (h : ss_k (tk j) = 5) (hn : n < 20) (hF : F.length < 8) (hs : (tk (j + 1)).1 = 2 ∧ 60 ≤ (tk (j + 1)).2.1 ∧ (tk (j + 1)).2.1 ≤ 62) (e : sp_num (tk (j + 2)) (ta (j + 2)) 0 999 = .inl r) : ssx tk ta ps false F n j x ↔ x = .inl r := ssx_oe (fun k => by
  unfold s_op
  rw [if_neg (by omega), if_neg (by omega), if_neg (by omega), if_neg (by omega), if_neg (by omega), if_neg (by omega), if_pos hs, sb1_l e])
theorem o_5s (h : ss_k (tk j) = 5) (hn : n < 20) (hF : F.length < 8) (hs : ¬ ((tk (j + 1)).1 = 2 ∧ 60 ≤ (tk (j + 1)).2.1 ∧ (tk (j + 1)).2.1 ≤ 62)) : ssx tk ta ps false F n j x ↔ x = .inl (1, ta (j + 1)) := ssx_oe (fun k => by
  unfold s_op
  rw [if_neg (by omega), if_neg (by omega), if_neg (by omega), if_neg (by omega), if_neg (by omega), if_neg (by omega), if_neg hs])
theorem w_j (h : 4 ≤ (tk j).1 ∧ ((tk j).2.1 = 1111 ∨ (tk j).2.1 = 423)) : ssx tk ta ps true F n j x ↔ ssx tk ta ps false F n (j + 1) x := ssx_w (fun k => by
  unfold s_wh
  rw [if_pos h])
theorem w_e (h : (tk j).1 = 0) : ssx tk ta ps true [] n j x ↔ x = .inr n := ssx_we (fun k => by
  unfold s_wh
  rw [if_neg (by omega), if_pos h, if_pos rfl])
theorem w_c (h : (tk j).1 = 2 ∧ (tk j).2.1 = 41) : ssx tk ta ps true (true :: G) n j x ↔ ssx tk ta ps true (dn G) n (j + 1) x := ssx_w (fun k => by
  unfold s_wh
  rw [if_neg (by omega), if_neg (by omega), if_pos h]
  rfl)
theorem w_f (h1 : ¬ (4 ≤ (tk j).1 ∧ ((tk j).2.1 = 1111 ∨ (tk j).2.1 = 423))) (h2 : (tk j).1 = 0 → F ≠ []) (h3 : (tk j).1 = 2 → (tk j).2.1 = 41 → F = []) : ssx tk ta ps true F n j x ↔ x = .inl (1, ta j) := ssx_we (fun k => by
  unfold s_wh
  rw [if_neg h1]
  by_cases a : (tk j).1 = 0
  · rw [if_pos a, if_neg (h2 a)]
  · rw [if_neg a]
    by_cases b : (tk j).1 = 2 ∧ (tk j).2.1 = 41
    · rw [if_pos b, h3 b.1 b.2]
      rfl
    · rw [if_neg b])
end SX
