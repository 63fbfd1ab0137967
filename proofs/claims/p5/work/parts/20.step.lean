/-! the tables of calls -/
theorem eg_cx_v {o k kind pl mu o' np pa pb pi : Nat} (h : eg_at o eg_cx k = some (kind, pl, mu, o', np, pa, pb, pi)) : ∃ n : String, eg_own[o]? = some n ∧
    ((4 ≤ kind ∧ ((kind = 5 ∧ Cond.methodLink n k Lib.Math.min.name ∈ eg_ws ∧ Cond.static Lib.Math.min.name ∈ eg_ws ∧ Cond.code Lib.Math.min.name Lib.Math.min.code 2 (some .int) ∈ eg_ws ∧ Cond.initialized "java/lang/Math" ∈ eg_ws) ∨ (kind = 6 ∧ Cond.methodLink n k Lib.Math.max.name ∈ eg_ws ∧ Cond.static Lib.Math.max.name ∈ eg_ws ∧ Cond.code Lib.Math.max.name Lib.Math.max.code 2 (some .int) ∈ eg_ws ∧ Cond.initialized "java/lang/Math" ∈ eg_ws) ∨ (kind = 7 ∧ Cond.methodLink n k Lib.Math.abs.name ∈ eg_ws ∧ Cond.static Lib.Math.abs.name ∈ eg_ws ∧ Cond.code Lib.Math.abs.name Lib.Math.abs.code 1 (some .int) ∈ eg_ws ∧ Cond.initialized "java/lang/Math" ∈ eg_ws) ∨ (¬ kind = 5 ∧ ¬ kind = 6 ∧ ¬ kind = 7 ∧ Cond.methodLink n k Lib.objectInit ∈ eg_ws ∧ Cond.instanceMethod Lib.objectInit ∈ eg_ws ∧ Cond.code Lib.objectInit ⟨#[0xb1]⟩ 1 none ∈ eg_ws))) ∨
     (kind < 4 ∧ ∃ (y : MethodName) (b : ByteArray) (kk : Nat) (r : Option FieldType), eg_own[o']? = some y.cls ∧ lw_tbl[mu]? = some (.code y b kk r) ∧ kk ≤ 40 ∧ plainName y.cls = true ∧ y.cls ≠ "java/lang/invoke/MethodHandle" ∧ y.cls ≠ "java/lang/invoke/VarHandle" ∧ (parseMethodDescriptor y.desc).map (fun d => d.parameters.length) = some np ∧ Cond.initialized y.cls ∈ eg_ws ∧
      ((kind = 0 ∧ Cond.methodLink n k y ∈ eg_ws ∧ Cond.instanceMethod y ∈ eg_ws ∧ Cond.selects y.cls y y ∈ eg_ws) ∨ (kind = 1 ∧ Cond.methodLink n k y ∈ eg_ws ∧ Cond.instanceMethod y ∈ eg_ws ∧ y.name = "<init>") ∨ (kind = 2 ∧ Cond.methodLink n k y ∈ eg_ws ∧ Cond.static y ∈ eg_ws) ∨ (kind = 3 ∧ Cond.methodLinkNest n k y "PromiseTrees" ∈ lw_tbl ∧ Cond.instanceMethod y ∈ eg_ws ∧ y.name = "<init>")))) := by
  have h1 := eg_row_v ck_all rfl h
  unfold eg_cok at h1
  simp only [eg_nth_eq] at h1
  cases hn : eg_own[o]? with
  | none => rw [hn] at h1; cases h1
  | some n =>
    rw [hn] at h1
    refine ⟨n, rfl, ?_⟩
    cases hn' : eg_own[o']? with
    | none => rw [hn'] at h1; cases h1
    | some n' =>
      rw [hn'] at h1
      simp only at h1
      split at h1
      next y b kk r hc =>
        match kind, h1 with
        | 0, h1 =>
          simp only [Bool.and_eq_true, Bool.or_eq_true, decide_eq_true_eq] at h1
          obtain ⟨⟨⟨a1, a2⟩, a3⟩, h2⟩ := h1
          rcases h2 with h2 | ⟨⟨⟨⟨⟨⟨b1, b2⟩, b3⟩, b4⟩, b5⟩, b6⟩, b7⟩
          · cases h2
          · subst b2
            exact Or.inr ⟨by omega, y, b, kk, r, rfl, hc, Nat.le_of_ble_eq_true b3, b4, b5, b6, b7, eg_tb_in b1 rfl, Or.inl ⟨rfl, eg_tb_in a1 rfl, eg_tb_in a2 rfl, eg_tb_in a3 rfl⟩⟩
        | 1, h1 =>
          simp only [Bool.and_eq_true, Bool.or_eq_true, decide_eq_true_eq] at h1
          obtain ⟨⟨⟨a1, a2⟩, a3⟩, h2⟩ := h1
          rcases h2 with h2 | ⟨⟨⟨⟨⟨⟨b1, b2⟩, b3⟩, b4⟩, b5⟩, b6⟩, b7⟩
          · cases h2
          · subst b2
            exact Or.inr ⟨by omega, y, b, kk, r, rfl, hc, Nat.le_of_ble_eq_true b3, b4, b5, b6, b7, eg_tb_in b1 rfl, Or.inr (Or.inl ⟨rfl, eg_tb_in a1 rfl, eg_tb_in a2 rfl, a3⟩)⟩
        | 2, h1 =>
          simp only [Bool.and_eq_true, Bool.or_eq_true, decide_eq_true_eq] at h1
          obtain ⟨⟨a1, a2⟩, h2⟩ := h1
          rcases h2 with h2 | ⟨⟨⟨⟨⟨⟨b1, b2⟩, b3⟩, b4⟩, b5⟩, b6⟩, b7⟩
          · cases h2
          · subst b2
            exact Or.inr ⟨by omega, y, b, kk, r, rfl, hc, Nat.le_of_ble_eq_true b3, b4, b5, b6, b7, eg_tb_in b1 rfl, Or.inr (Or.inr (Or.inl ⟨rfl, eg_tb_in a1 rfl, eg_tb_in a2 rfl⟩))⟩
        | 3, h1 =>
          simp only [Bool.and_eq_true, Bool.or_eq_true, decide_eq_true_eq] at h1
          obtain ⟨⟨⟨a1, a2⟩, a3⟩, h2⟩ := h1
          rcases h2 with h2 | ⟨⟨⟨⟨⟨⟨b1, b2⟩, b3⟩, b4⟩, b5⟩, b6⟩, b7⟩
          · cases h2
          · subst b2
            exact Or.inr ⟨by omega, y, b, kk, r, rfl, hc, Nat.le_of_ble_eq_true b3, b4, b5, b6, b7, eg_tb_in b1 rfl, Or.inr (Or.inr (Or.inr ⟨rfl, List.mem_of_getElem? a1, eg_tb_in a2 rfl, a3⟩))⟩
        | 5, h1 =>
          simp only [Bool.and_eq_true, decide_eq_true_eq] at h1
          obtain ⟨⟨⟨⟨a1, a2⟩, a3⟩, a4⟩, -⟩ := h1
          exact Or.inl ⟨by omega, Or.inl ⟨rfl, eg_tb_in a1 rfl, eg_tb_in a2 rfl, eg_tb_in a3 rfl, eg_tb_in a4 rfl⟩⟩
        | 6, h1 =>
          simp only [Bool.and_eq_true, decide_eq_true_eq] at h1
          obtain ⟨⟨⟨⟨a1, a2⟩, a3⟩, a4⟩, -⟩ := h1
          exact Or.inl ⟨by omega, Or.inr (Or.inl ⟨rfl, eg_tb_in a1 rfl, eg_tb_in a2 rfl, eg_tb_in a3 rfl, eg_tb_in a4 rfl⟩)⟩
        | 7, h1 =>
          simp only [Bool.and_eq_true, decide_eq_true_eq] at h1
          obtain ⟨⟨⟨⟨a1, a2⟩, a3⟩, a4⟩, -⟩ := h1
          exact Or.inl ⟨by omega, Or.inr (Or.inr (Or.inl ⟨rfl, eg_tb_in a1 rfl, eg_tb_in a2 rfl, eg_tb_in a3 rfl, eg_tb_in a4 rfl⟩))⟩
        | 4, h1 =>
          simp only [Bool.and_eq_true, decide_eq_true_eq] at h1
          obtain ⟨⟨⟨a1, a2⟩, rfl, rfl, rfl, rfl⟩, -⟩ := h1
          exact Or.inl ⟨by omega, Or.inr (Or.inr (Or.inr ⟨by omega, by omega, by omega, eg_tb_in a1 rfl, eg_tb_in a2 rfl, eg_tb_in hc rfl⟩))⟩
        | j + 8, h1 =>
          simp only [Bool.and_eq_true, decide_eq_true_eq] at h1
          obtain ⟨⟨⟨a1, a2⟩, rfl, rfl, rfl, rfl⟩, -⟩ := h1
          exact Or.inl ⟨by omega, Or.inr (Or.inr (Or.inr ⟨by omega, by omega, by omega, eg_tb_in a1 rfl, eg_tb_in a2 rfl, eg_tb_in hc rfl⟩))⟩
      next => cases h1
/-- the receiver -/
theorem eg_rcv_v {kind o' : Nat} {h : eg_H} {as st as2 st2 : List Value} (e : eg_rcv kind o' h as st = some (as2, st2)) : (kind = 2 ∧ as2 = as ∧ st2 = st) ∨ (¬ kind = 2 ∧ ∃ v, st = v :: st2 ∧ as2 = v :: as ∧ ((∃ b, v = .ref b ∧ (kind = 0 → ∃ fs, eg_get h b = some (.inr (o', fs)))) ∨ (kind = 0 ∧ v = .float 2 ∧ o' = 16))) := by
  unfold eg_rcv at e
  split at e
  · refine Or.inr ⟨by omega, ?_⟩
    split at e
    next b st3 =>
      split at e
      next ci fs ho =>
        cases hb : Nat.beq ci o' with
        | false => rw [hb] at e; cases e
        | true =>
          rw [hb] at e
          cases e
          obtain rfl := Nat.eq_of_beq_eq_true hb
          exact ⟨_, rfl, rfl, Or.inl ⟨b, rfl, fun _ => ⟨fs, eg_obj_v ho⟩⟩⟩
      next => cases e
    next w st3 =>
      cases hb : (w == 2 && Nat.beq o' 16) with
      | false => rw [hb] at e; cases e
      | true =>
        rw [hb] at e
        cases e
        have h9 := Bool.and_eq_true_iff.mp hb
        have hw : w = 2 := by simpa using h9.1
        subst hw
        exact ⟨_, rfl, rfl, Or.inr ⟨rfl, rfl, Nat.eq_of_beq_eq_true h9.2⟩⟩
    next => cases e
  · cases e
    exact Or.inl ⟨rfl, rfl, rfl⟩
  next hk0 hk2 =>
    refine Or.inr ⟨fun q => hk2 q, ?_⟩
    split at e
    next b st3 =>
      cases e
      exact ⟨_, rfl, rfl, Or.inl ⟨b, rfl, fun q => absurd q (fun q => hk0 q)⟩⟩
    next => cases e
