/-! what a headland's lines say -/
/-- a draft: numbers (0 wide, 1 high, 2 grows, 3 storm, 4 men, 5 promises, 6 clashes, 7 sized, 8 grown, 9 stormy), rows (0 men's names, 1 and 2 their doors, 3 promises' names, 4 giver, 6 and 7 trees, 10 on: for each promise, those that clash with it) -/
abbrev PS : Type := (Nat → Int) × (Nat → Nat → Int)
def uf (f : Nat → Int) (k : Nat) (v : Int) : Nat → Int := fun j => if j = k then v else f j
def ug (g : Nat → Nat → Int) (a k : Nat) (v : Int) : Nat → Nat → Int := fun b j => if b = a ∧ j = k then v else g b j
theorem uf_v {f : Nat → Int} {k j : Nat} {v : Int} : uf f k v j = if j = k then v else f j := rfl
theorem ug_v {g : Nat → Nat → Int} {a k b j : Nat} {v : Int} : ug g a k v b j = if b = a ∧ j = k then v else g b j := rfl
theorem ug_n {g : Nat → Nat → Int} {a k b j : Nat} {v : Int} (h : ¬ b = a) : ug g a k v b j = g b j := by rw [ug_v, if_neg (fun q => h q.1)]
abbrev ER : Type := Int × Nat
def sbn {α β : Type} (x : Sum ER α) (k : α → Sum ER β) : Sum ER β := match x with
  | .inl e => .inl e
  | .inr a => k a
theorem sbn_l {α β : Type} {x : Sum ER α} {k : α → Sum ER β} {e : ER} (h : x = .inl e) : sbn x k = .inl e := by rw [h]; rfl
theorem sbn_r {α β : Type} {x : Sum ER α} {k : α → Sum ER β} {a : α} (h : x = .inr a) : sbn x k = k a := by rw [h]; rfl
/-- something stands in this cell -/
def occ (ps : PS) (x y : Int) : Prop := (∃ m : Nat, (m : Int) < ps.1 4 ∧ ps.2 1 m = x ∧ ps.2 2 m = y) ∨ (∃ p : Nat, (p : Int) < ps.1 5 ∧ ps.2 6 p = x ∧ ps.2 7 p = y)
/-- a name: none of the words kept back -/
noncomputable def sp_nam (t : tx_K) (a : Nat) : Sum ER Int := @ite _ (4 ≤ t.1 ∧ isnm t.2.1) (Classical.propDecidable _) (.inr t.2.1) (.inl (1, a))
/-- a new one -/
noncomputable def sp_new (ps : PS) (t : tx_K) (a : Nat) : Sum ER Int := sbn (sp_nam t a) (fun c => if sf (ps.2 0) c (ps.1 4).toNat ≠ -1 ∨ sf (ps.2 3) c (ps.1 5).toNat ≠ -1 then .inl (3, a) else .inr c)
/-- one told already, of row k with n of them -/
noncomputable def sp_old (ps : PS) (k n : Nat) (t : tx_K) (a : Nat) : Sum ER Int := sbn (sp_nam t a) (fun c => if sf (ps.2 k) c (ps.1 n).toNat = -1 then .inl (3, a) else .inr (sf (ps.2 k) c (ps.1 n).toNat))
noncomputable def sp_cell (ps : PS) (t1 : tx_K) (a1 : Nat) (t2 : tx_K) (a2 : Nat) : Sum ER (Int × Int) := sbn (sp_num t1 a1 0 (ps.1 0 - 1)) (fun x => sbn (sp_num t2 a2 0 (ps.1 1 - 1)) (fun y => @ite _ (occ ps x y) (Classical.propDecidable _) (.inl (3, a2)) (.inr (x, y))))
section SP
variable (tk : Nat → tx_K) (ta : Nat → Nat)
/-- lines, where j tokens have been taken, the last of them the line's first word; what is left then, and how many have been taken -/
noncomputable def sp_size (ps : PS) (j : Nat) : Sum ER (PS × Nat) := if ps.1 7 ≠ 0 ∨ ps.1 4 ≠ 0 ∨ ps.1 5 ≠ 0 then .inl (3, ta (j - 1)) else sbn (sp_num (tk j) (ta j) 2 8) (fun w => sbn (sp_num (tk (j + 1)) (ta (j + 1)) 2 8) (fun hh => .inr ((uf (uf (uf ps.1 7 1) 0 w) 1 hh, ps.2), j + 2)))
noncomputable def sp_man (ps : PS) (j : Nat) : Sum ER (PS × Nat) := if 6 ≤ ps.1 4 then .inl (4, ta (j - 1)) else sbn (sp_new ps (tk j) (ta j)) (fun c => sbn (sp_cell ps (tk (j + 1)) (ta (j + 1)) (tk (j + 2)) (ta (j + 2))) (fun xy => .inr ((uf ps.1 4 (ps.1 4 + 1), ug (ug (ug ps.2 0 (ps.1 4).toNat c) 1 (ps.1 4).toNat xy.1) 2 (ps.1 4).toNat xy.2), j + 3)))
noncomputable def sp_prom (ps : PS) (j : Nat) : Sum ER (PS × Nat) := if 10 ≤ ps.1 5 then .inl (4, ta (j - 1)) else sbn (sp_new ps (tk j) (ta j)) (fun c => sbn (sp_old ps 0 4 (tk (j + 1)) (ta (j + 1))) (fun gv => sbn (sp_old ps 0 4 (tk (j + 2)) (ta (j + 2))) (fun hs => if hs = gv then .inl (3, ta (j + 2)) else sbn (sp_cell ps (tk (j + 3)) (ta (j + 3)) (tk (j + 4)) (ta (j + 4))) (fun xy => sbn (sp_num (tk (j + 5)) (ta (j + 5)) 0 60) (fun _ => sbn (sp_num (tk (j + 6)) (ta (j + 6)) 0 399) (fun _ => .inr ((uf ps.1 5 (ps.1 5 + 1), ug (ug (ug (ug ps.2 3 (ps.1 5).toNat c) 4 (ps.1 5).toNat gv) 6 (ps.1 5).toNat xy.1) 7 (ps.1 5).toNat xy.2), j + 7)))))))
/-- whether the two clash: rows 10 on hold, for each, the others -/
noncomputable def sp_clash (ps : PS) (j : Nat) : Sum ER (PS × Nat) := if 8 ≤ ps.1 6 then .inl (4, ta (j - 1)) else sbn (sp_old ps 3 5 (tk j) (ta j)) (fun p => sbn (sp_old ps 3 5 (tk (j + 1)) (ta (j + 1))) (fun q => if p = q ∨ ps.2 (10 + p.toNat) q.toNat ≠ 0 then .inl (3, ta (j + 1)) else .inr ((uf ps.1 6 (ps.1 6 + 1), ug (ug ps.2 (10 + p.toNat) q.toNat 1) (10 + q.toNat) p.toNat 1), j + 2)))
noncomputable def sp_grow (ps : PS) (j : Nat) : Sum ER (PS × Nat) := if ps.1 8 ≠ 0 then .inl (3, ta (j - 1)) else sbn (sp_num (tk j) (ta j) 0 9) (fun v => .inr ((uf (uf ps.1 8 1) 2 v, ps.2), j + 1))
noncomputable def sp_stor (ps : PS) (j : Nat) : Sum ER (PS × Nat) := if ps.1 9 ≠ 0 then .inl (3, ta (j - 1)) else sbn (sp_num (tk j) (ta j) 0 12) (fun v => .inr ((uf (uf ps.1 9 1) 3 v, ps.2), j + 1))
noncomputable def sp_line (ps : PS) (j : Nat) : Sum ER (PS × Nat) := if 4 ≤ (tk (j - 1)).1 then (if (tk (j - 1)).2.1 = 237307 then sp_size tk ta ps j else if (tk (j - 1)).2.1 = 9518 then sp_man tk ta ps j else if (tk (j - 1)).2.1 = 6465242723 then sp_prom tk ta ps j else if (tk (j - 1)).2.1 = 1831769 then sp_clash tk ta ps j else if (tk (j - 1)).2.1 = 4085956 then sp_grow tk ta ps j else if (tk (j - 1)).2.1 = 10502473 then sp_stor tk ta ps j else .inl (1, ta (j - 1))) else .inl (1, ta (j - 1))
/-- all lines; n lines told already, j tokens taken -/
noncomputable def sp_all : Nat → PS → Nat → Nat → Sum ER (PS × Nat)
  | 0, _, _, j => .inl (1, ta (j - 1))
  | k + 1, ps, n, j => if (tk j).1 = 0 then .inr (ps, n) else sbn (sp_line tk ta ps (j + 1)) (fun r => if (tk r.2).1 = 2 ∧ (tk r.2).2.1 = 59 then sp_all k r.1 (n + 1) (r.2 + 1) else .inl (1, ta r.2))
end SP
