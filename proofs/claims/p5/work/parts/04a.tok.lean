/-! the tables say what the words say -/
def eg_chk {α : Type} (f : Nat → α → Bool) : Nat → List (List α) → Bool
  | _, [] => true
  | o, l :: t => l.all (f o) && eg_chk f (o + 1) t
theorem eg_chk_v {α : Type} {f : Nat → α → Bool} {n o : Nat} {t : List (List α)} {l : List α} {e : α} (h : eg_chk f n t = true) (hl : t[o]? = some l) (he : e ∈ l) : f (n + o) e = true := by
  induction t generalizing n o with
  | nil => simp at hl
  | cons a t ih =>
    unfold eg_chk at h
    have h2 := Bool.and_eq_true_iff.mp h
    cases o with
    | zero =>
      simp at hl
      subst hl
      exact List.all_eq_true.mp h2.1 e he
    | succ o =>
      have := ih (n := n + 1) (o := o) h2.2 (by simpa using hl)
      rw [show n + (o + 1) = n + 1 + o by omega]
      exact this
/-- all rows of one class -/
def eg_row {α : Type} (f : Nat → α → Bool) (o : Nat) (t : List (List α)) : Bool := match eg_nth t o with
  | some l => l.all (f o)
  | none => true
def eg_fok (o : Nat) (e : Nat × Nat × Nat × Nat) : Bool := match eg_nth eg_own o, eg_nth vwCl e.2.1 with
  | some n, some q => Nat.blt e.2.2.1 q.2.2 && goodWord (.fieldLink n e.1 (q.2.1 e.2.2.1).1 (q.2.1 e.2.2.1).2.1 (q.2.1 e.2.2.1).2.2.1) && decide (lw_tbl[e.2.2.2]? = some (.fieldLink n e.1 (q.2.1 e.2.2.1).1 (q.2.1 e.2.2.1).2.1 (q.2.1 e.2.2.1).2.2.1))
  | _, _ => false
def eg_cok (o : Nat) (e : Nat × Nat × Nat × Nat × Nat × Nat × Nat × Nat × Nat) : Bool := match eg_nth eg_own o, eg_nth eg_own e.2.2.2.2.1 with
  | some n, some n' => (match lw_tbl[e.2.2.2.1]? with
    | some (.code y b k r) =>
      (match e.2.1 with
      | 0 => decide (lw_tbl[e.2.2.1]? = some (.methodLink n e.1 y)) && decide (lw_tbl[e.2.2.2.2.2.2.1]? = some (.instanceMethod y)) && decide (lw_tbl[e.2.2.2.2.2.2.2.1]? = some (.selects n' y y))
      | 1 => decide (lw_tbl[e.2.2.1]? = some (.methodLink n e.1 y)) && decide (lw_tbl[e.2.2.2.2.2.2.1]? = some (.instanceMethod y)) && decide (y.name = "<init>")
      | 2 => decide (lw_tbl[e.2.2.1]? = some (.methodLink n e.1 y)) && decide (lw_tbl[e.2.2.2.2.2.2.1]? = some (.static y))
      | 3 => decide (lw_tbl[e.2.2.1]? = some (.methodLinkNest n e.1 y "PromiseTrees")) && decide (lw_tbl[e.2.2.2.2.2.2.1]? = some (.instanceMethod y)) && decide (y.name = "<init>")
      | 5 => decide (lw_tbl[e.2.2.1]? = some (.methodLink n e.1 Lib.Math.min.name)) && decide (lw_tbl[e.2.2.2.2.2.2.1]? = some (.static Lib.Math.min.name)) && decide (lw_tbl[e.2.2.2.1]? = some (.code Lib.Math.min.name Lib.Math.min.code 2 (some .int))) && decide (lw_tbl[e.2.2.2.2.2.2.2.2]? = some (.initialized "java/lang/Math"))
      | 6 => decide (lw_tbl[e.2.2.1]? = some (.methodLink n e.1 Lib.Math.max.name)) && decide (lw_tbl[e.2.2.2.2.2.2.1]? = some (.static Lib.Math.max.name)) && decide (lw_tbl[e.2.2.2.1]? = some (.code Lib.Math.max.name Lib.Math.max.code 2 (some .int))) && decide (lw_tbl[e.2.2.2.2.2.2.2.2]? = some (.initialized "java/lang/Math"))
      | 7 => decide (lw_tbl[e.2.2.1]? = some (.methodLink n e.1 Lib.Math.abs.name)) && decide (lw_tbl[e.2.2.2.2.2.2.1]? = some (.static Lib.Math.abs.name)) && decide (lw_tbl[e.2.2.2.1]? = some (.code Lib.Math.abs.name Lib.Math.abs.code 1 (some .int))) && decide (lw_tbl[e.2.2.2.2.2.2.2.2]? = some (.initialized "java/lang/Math"))
      | _ => decide (lw_tbl[e.2.2.1]? = some (.methodLink n e.1 Lib.objectInit)) && decide (lw_tbl[e.2.2.2.2.2.2.1]? = some (.instanceMethod Lib.objectInit)) && decide (y = Lib.objectInit ∧ b = ⟨#[0xb1]⟩ ∧ k = 1 ∧ r = none))
      && (Nat.ble 4 e.2.1 || (decide (lw_tbl[e.2.2.2.2.2.2.2.2]? = some (.initialized y.cls)) && decide (n' = y.cls) && Nat.ble k 40 && plainName y.cls && decide (y.cls ≠ "java/lang/invoke/MethodHandle") && decide (y.cls ≠ "java/lang/invoke/VarHandle") && decide ((parseMethodDescriptor y.desc).map (fun d => d.parameters.length) = some e.2.2.2.2.2.1)))
    | _ => false)
  | _, _ => false
def eg_kok (o : Nat) (e : Nat × Value × Nat) : Bool := match eg_nth eg_own o with
  | some n => (match e.2.1 with
    | .int v => decide (lw_tbl[e.2.2]? = some (.constant n e.1 v))
    | .long v => decide (lw_tbl[e.2.2]? = some (.constantLong n e.1 v))
    | _ => false)
  | none => false
def eg_nok (o : Nat) (e : Nat × Nat × Nat × Nat × Nat) : Bool := match eg_nth eg_own o, eg_nth vwCl e.2.1 with
  | some n, some q => decide (lw_tbl[e.2.2.1]? = some (.classLink n e.1 q.1)) && decide (lw_tbl[e.2.2.2.1]? = some (.instantiable q.1 q.2.2)) && decide (lw_tbl[e.2.2.2.2]? = some (.initialized q.1))
  | _, _ => false
