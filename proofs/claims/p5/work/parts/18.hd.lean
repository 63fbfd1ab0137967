/-! every instruction that the engine runs -/
theorem ww_38 : Cond.fieldLink "java/lang/String" 38 "java/lang/String" "COMPACT_STRINGS" "Z" ∈ eg_ws := eg_tb_in (p := 183) (by decide +kernel) rfl
theorem ww_1053 : Cond.fieldLink "java/lang/String" 1053 "jdk/internal/util/Preconditions" "SIOOBE_FORMATTER" "Ljava/util/function/BiFunction;" ∈ eg_ws := eg_tb_in (p := 199) (by decide +kernel) rfl
theorem ww_9 : Cond.fieldLink "java/lang/String" 9 "java/lang/String" "value" "[B" ∈ eg_ws := eg_tb_in (p := 2138) (by decide +kernel) rfl
theorem ww_15 : Cond.fieldLink "java/lang/String" 15 "java/lang/String" "coder" "B" ∈ eg_ws := eg_tb_in (p := 2139) (by decide +kernel) rfl
theorem ww_aI : Cond.arrayClass .int ∈ eg_ws := eg_tb_in (p := 270) (by decide +kernel) rfl
theorem ww_aJ : Cond.arrayClass .long ∈ eg_ws := eg_tb_in (p := 269) (by decide +kernel) rfl
theorem ww_aB : Cond.arrayClass .byte ∈ eg_ws := eg_tb_in (p := 167) (by decide +kernel) rfl
theorem ww_aZ : Cond.arrayClass .boolean ∈ eg_ws := eg_tb_in (p := 672) (by decide +kernel) rfl
theorem eg_map_v {α β : Type} {f : α → β} {x : Option α} {g : β} (h : x.map f = some g) : ∃ a, x = some a ∧ f a = g := Option.map_eq_some_iff.mp h
set_option maxHeartbeats 4000000 in
theorem eg_hd_ok {en : List (Int × Int)} {sc : List Value} {u o pc len : Nat} {i : Instr} {g : eg_O} (h : eg_hd en sc u o pc i len = some g) (hd : decode (eg_md u).2.1 pc = .ok (i, len)) : eg_OK en sc u o pc len g := by
  unfold eg_hd at h
  cases hl : eg_lok i len with
  | false => rw [hl] at h; cases h
  | true =>
    rw [hl] at h
    simp only at h
    cases i with
    | iload_n k =>
      obtain rfl := Nat.eq_of_beq_eq_true (show Nat.beq len 1 = true from hl)
      cases (show some (eg_ld eg_isI k.val) = some g from h)
      exact ok_iload_n hd
    | iload k =>
      obtain rfl := Nat.eq_of_beq_eq_true (show Nat.beq len 2 = true from hl)
      cases (show some (eg_ld eg_isI k) = some g from h)
      exact ok_iload hd
    | lload_n k =>
      obtain rfl := Nat.eq_of_beq_eq_true (show Nat.beq len 1 = true from hl)
      cases (show some (eg_ld eg_isJ k.val) = some g from h)
      exact ok_lload_n hd
    | lload k =>
      obtain rfl := Nat.eq_of_beq_eq_true (show Nat.beq len 2 = true from hl)
      cases (show some (eg_ld eg_isJ k) = some g from h)
      exact ok_lload hd
    | aload_n k =>
      obtain rfl := Nat.eq_of_beq_eq_true (show Nat.beq len 1 = true from hl)
      cases (show some (eg_ld eg_isA k.val) = some g from h)
      exact ok_aload_n hd
    | aload k =>
      obtain rfl := Nat.eq_of_beq_eq_true (show Nat.beq len 2 = true from hl)
      cases (show some (eg_ld eg_isA k) = some g from h)
      exact ok_aload hd
    | iconst n =>
      obtain rfl := Nat.eq_of_beq_eq_true (show Nat.beq len 1 = true from hl)
      obtain ⟨a, h1, rfl⟩ := eg_map_v h
      exact ok_iconst hd h1
    | bipush n =>
      obtain rfl := Nat.eq_of_beq_eq_true (show Nat.beq len 2 = true from hl)
      obtain ⟨a, h1, rfl⟩ := eg_map_v h
      exact ok_bipush hd h1
    | sipush n =>
      obtain rfl := Nat.eq_of_beq_eq_true (show Nat.beq len 3 = true from hl)
      obtain ⟨a, h1, rfl⟩ := eg_map_v h
      exact ok_sipush hd h1
    | lconst n =>
      obtain rfl := Nat.eq_of_beq_eq_true (show Nat.beq len 1 = true from hl)
      obtain ⟨a, h1, rfl⟩ := eg_map_v h
      exact ok_lconst hd h1
    | ldc k =>
      obtain rfl := Nat.eq_of_beq_eq_true (show Nat.beq len 2 = true from hl)
      simp only [eg_hd0] at h
      split at h
      next v q ha => cases h; exact ok_ldc hd ha
      next =>
        cases hb : (Nat.beq o 8 && Nat.beq k 52) with
        | false => rw [hb] at h; cases h
        | true =>
          rw [hb] at h
          cases h
          have h9 := Bool.and_eq_true_iff.mp hb
          obtain rfl := Nat.eq_of_beq_eq_true h9.2
          exact ok_ldcS hd (Nat.eq_of_beq_eq_true h9.1)
    | ldc_w k =>
      obtain rfl := Nat.eq_of_beq_eq_true (show Nat.beq len 3 = true from hl)
      simp only [eg_hd0] at h
      split at h
      next v q ha => cases h; exact ok_ldc_w hd ha
      next => cases h
    | ldc2_w k =>
      obtain rfl := Nat.eq_of_beq_eq_true (show Nat.beq len 3 = true from hl)
      simp only [eg_hd0] at h
      split at h
      next v q ha => cases h; exact ok_ldc2_w hd ha
      next => cases h
    | iadd =>
      obtain rfl := Nat.eq_of_beq_eq_true (show Nat.beq len 1 = true from hl)
      cases h
      exact ok_iadd hd
    | isub =>
      obtain rfl := Nat.eq_of_beq_eq_true (show Nat.beq len 1 = true from hl)
      cases h
      exact ok_isub hd
    | imul =>
      obtain rfl := Nat.eq_of_beq_eq_true (show Nat.beq len 1 = true from hl)
      cases h
      exact ok_imul hd
    | iand =>
      obtain rfl := Nat.eq_of_beq_eq_true (show Nat.beq len 1 = true from hl)
      cases h
      exact ok_iand hd
    | ior =>
      obtain rfl := Nat.eq_of_beq_eq_true (show Nat.beq len 1 = true from hl)
      cases h
      exact ok_ior hd
    | ixor =>
      obtain rfl := Nat.eq_of_beq_eq_true (show Nat.beq len 1 = true from hl)
      cases h
      exact ok_ixor hd
    | idiv =>
      obtain rfl := Nat.eq_of_beq_eq_true (show Nat.beq len 1 = true from hl)
      cases h
      exact ok_idiv hd
    | irem =>
      obtain rfl := Nat.eq_of_beq_eq_true (show Nat.beq len 1 = true from hl)
      cases h
      exact ok_irem hd
    | ishl =>
      obtain rfl := Nat.eq_of_beq_eq_true (show Nat.beq len 1 = true from hl)
      cases h
      exact ok_ishl hd
    | ishr =>
      obtain rfl := Nat.eq_of_beq_eq_true (show Nat.beq len 1 = true from hl)
      cases h
      exact ok_ishr hd
    | iushr =>
      obtain rfl := Nat.eq_of_beq_eq_true (show Nat.beq len 1 = true from hl)
      cases h
      exact ok_iushr hd
    | ladd =>
      obtain rfl := Nat.eq_of_beq_eq_true (show Nat.beq len 1 = true from hl)
      cases h
      exact ok_ladd hd
    | lsub =>
      obtain rfl := Nat.eq_of_beq_eq_true (show Nat.beq len 1 = true from hl)
      cases h
      exact ok_lsub hd
    | lmul =>
      obtain rfl := Nat.eq_of_beq_eq_true (show Nat.beq len 1 = true from hl)
      cases h
      exact ok_lmul hd
    | land =>
      obtain rfl := Nat.eq_of_beq_eq_true (show Nat.beq len 1 = true from hl)
      cases h
      exact ok_land hd
    | lor =>
      obtain rfl := Nat.eq_of_beq_eq_true (show Nat.beq len 1 = true from hl)
      cases h
      exact ok_lor hd
    | lxor =>
      obtain rfl := Nat.eq_of_beq_eq_true (show Nat.beq len 1 = true from hl)
      cases h
      exact ok_lxor hd
    | lshl =>
      obtain rfl := Nat.eq_of_beq_eq_true (show Nat.beq len 1 = true from hl)
      cases h
      exact ok_lshl hd
    | lshr =>
      obtain rfl := Nat.eq_of_beq_eq_true (show Nat.beq len 1 = true from hl)
      cases h
      exact ok_lshr hd
    | lushr =>
      obtain rfl := Nat.eq_of_beq_eq_true (show Nat.beq len 1 = true from hl)
      cases h
      exact ok_lushr hd
    | lcmp =>
      obtain rfl := Nat.eq_of_beq_eq_true (show Nat.beq len 1 = true from hl)
      cases h
      exact ok_lcmp hd
    | ineg =>
      obtain rfl := Nat.eq_of_beq_eq_true (show Nat.beq len 1 = true from hl)
      cases h
      exact ok_ineg hd
    | i2l =>
      obtain rfl := Nat.eq_of_beq_eq_true (show Nat.beq len 1 = true from hl)
      cases h
      exact ok_i2l hd
    | l2i =>
      obtain rfl := Nat.eq_of_beq_eq_true (show Nat.beq len 1 = true from hl)
      cases h
      exact ok_l2i hd
    | i2b =>
      obtain rfl := Nat.eq_of_beq_eq_true (show Nat.beq len 1 = true from hl)
      cases h
      exact ok_i2b hd
    | i2c =>
      obtain rfl := Nat.eq_of_beq_eq_true (show Nat.beq len 1 = true from hl)
      cases h
      exact ok_i2c hd
    | dup =>
      obtain rfl := Nat.eq_of_beq_eq_true (show Nat.beq len 1 = true from hl)
      cases h
      exact ok_dup hd
    | pop =>
      obtain rfl := Nat.eq_of_beq_eq_true (show Nat.beq len 1 = true from hl)
      cases h
      exact ok_pop hd
    | dup_x1 =>
      obtain rfl := Nat.eq_of_beq_eq_true (show Nat.beq len 1 = true from hl)
      cases h
      exact ok_dup_x1 hd
    | dup2 =>
      obtain rfl := Nat.eq_of_beq_eq_true (show Nat.beq len 1 = true from hl)
      cases h
      exact ok_dup2 hd
    | iaload =>
      obtain rfl := Nat.eq_of_beq_eq_true (show Nat.beq len 1 = true from hl)
      cases h
      exact ok_iaload hd
    | laload =>
      obtain rfl := Nat.eq_of_beq_eq_true (show Nat.beq len 1 = true from hl)
      cases h
      exact ok_laload hd
    | baload =>
      obtain rfl := Nat.eq_of_beq_eq_true (show Nat.beq len 1 = true from hl)
      cases h
      exact ok_baload hd
    | aaload =>
      obtain rfl := Nat.eq_of_beq_eq_true (show Nat.beq len 1 = true from hl)
      cases h
      exact ok_aaload hd
    | arraylength =>
      obtain rfl := Nat.eq_of_beq_eq_true (show Nat.beq len 1 = true from hl)
      cases h
      exact ok_al hd
    | goto off =>
      obtain rfl := Nat.eq_of_beq_eq_true (show Nat.beq len 3 = true from hl)
      obtain ⟨a, h1, rfl⟩ := eg_map_v h
      exact ok_goto hd h1
    | ifCond k off =>
      obtain rfl := Nat.eq_of_beq_eq_true (show Nat.beq len 3 = true from hl)
      obtain ⟨a, h1, rfl⟩ := eg_map_v h
      exact ok_if hd h1
    | if_icmp k off =>
      obtain rfl := Nat.eq_of_beq_eq_true (show Nat.beq len 3 = true from hl)
      obtain ⟨a, h1, rfl⟩ := eg_map_v h
      exact ok_ic hd h1
    | tableswitch d lo hi offs =>
      cases h
      exact ok_tb hd
    | lookupswitch d ps =>
      cases (show some (eg_lk pc d ps) = some g from h)
      exact ok_lk hd
    | istore_n k =>
      obtain rfl := Nat.eq_of_beq_eq_true (show Nat.beq len 1 = true from hl)
      simp only [eg_hd0] at h
      cases hb : Nat.blt (k.val) (eg_md u).2.2.1 with
      | false => rw [hb] at h; cases h
      | true => rw [hb] at h; cases h; exact ok_istore_n hd (Nat.blt_eq.mp hb)
    | istore k =>
      obtain rfl := Nat.eq_of_beq_eq_true (show Nat.beq len 2 = true from hl)
      simp only [eg_hd0] at h
      cases hb : Nat.blt (k) (eg_md u).2.2.1 with
      | false => rw [hb] at h; cases h
      | true => rw [hb] at h; cases h; exact ok_istore hd (Nat.blt_eq.mp hb)
    | lstore_n k =>
      obtain rfl := Nat.eq_of_beq_eq_true (show Nat.beq len 1 = true from hl)
      simp only [eg_hd0] at h
      cases hb : Nat.blt (k.val + 1) (eg_md u).2.2.1 with
      | false => rw [hb] at h; cases h
      | true => rw [hb] at h; cases h; exact ok_lstore_n hd (Nat.blt_eq.mp hb)
    | lstore k =>
      obtain rfl := Nat.eq_of_beq_eq_true (show Nat.beq len 2 = true from hl)
      simp only [eg_hd0] at h
      cases hb : Nat.blt (k + 1) (eg_md u).2.2.1 with
      | false => rw [hb] at h; cases h
      | true => rw [hb] at h; cases h; exact ok_lstore hd (Nat.blt_eq.mp hb)
    | astore_n k =>
      obtain rfl := Nat.eq_of_beq_eq_true (show Nat.beq len 1 = true from hl)
      simp only [eg_hd0] at h
      cases hb : Nat.blt (k.val) (eg_md u).2.2.1 with
      | false => rw [hb] at h; cases h
      | true => rw [hb] at h; cases h; exact ok_astore_n hd (Nat.blt_eq.mp hb)
    | astore k =>
      obtain rfl := Nat.eq_of_beq_eq_true (show Nat.beq len 2 = true from hl)
      simp only [eg_hd0] at h
      cases hb : Nat.blt (k) (eg_md u).2.2.1 with
      | false => rw [hb] at h; cases h
      | true => rw [hb] at h; cases h; exact ok_astore hd (Nat.blt_eq.mp hb)
    | iinc k n =>
      obtain rfl := Nat.eq_of_beq_eq_true (show Nat.beq len 3 = true from hl)
      simp only [eg_hd0] at h
      cases hb : Nat.blt k (eg_md u).2.2.1 with
      | false => rw [hb] at h; cases h
      | true => rw [hb] at h; cases h; exact ok_iinc hd (Nat.blt_eq.mp hb)
    | getfield k =>
      obtain rfl := Nat.eq_of_beq_eq_true (show Nat.beq len 3 = true from hl)
      simp only [eg_hd0] at h
      split at h
      next ci fk q ha => cases h; exact ok_gf hd ha
      next =>
        cases ho : Nat.beq o 16 with
        | false => rw [ho] at h; cases h
        | true =>
          rw [ho] at h
          have ho := Nat.eq_of_beq_eq_true ho
          cases h9 : Nat.beq k 9 with
          | true =>
            rw [h9] at h
            cases h
            obtain rfl := Nat.eq_of_beq_eq_true h9
            exact ok_gt hd ho ww_9 (fun hT => ⟨_, (hT.2.2.2.2.1.1 0 (by decide)).2.2.1, by simp [eg_v]⟩)
          | false =>
            rw [h9] at h
            cases h15 : Nat.beq k 15 with
            | true =>
              rw [h15] at h
              cases h
              obtain rfl := Nat.eq_of_beq_eq_true h15
              exact ok_gt hd ho ww_15 (fun hT => ⟨_, (hT.2.2.2.2.1.1 0 (by decide)).2.1, rfl⟩)
            | false => rw [h15] at h; cases h
    | getstatic k =>
      obtain rfl := Nat.eq_of_beq_eq_true (show Nat.beq len 3 = true from hl)
      simp only [eg_hd0] at h
      cases ho : Nat.beq o 16 with
      | false => rw [ho] at h; cases h
      | true =>
        rw [ho] at h
        have ho := Nat.eq_of_beq_eq_true ho
        cases h9 : Nat.beq k 38 with
        | true =>
          rw [h9] at h
          cases h
          obtain rfl := Nat.eq_of_beq_eq_true h9
          exact ok_gs hd ho ww_38 (fun hT => ⟨_, hT.2.2.2.2.2.1, rfl⟩)
        | false =>
          rw [h9] at h
          cases h15 : Nat.beq k 1053 with
          | true =>
            rw [h15] at h
            cases h
            obtain rfl := Nat.eq_of_beq_eq_true h15
            exact ok_gs hd ho ww_1053 (fun hT => by
              rcases hT.2.2.2.2.2.2.1 with z | ⟨a, z⟩
              · exact ⟨_, z, by simp [eg_v]⟩
              · exact ⟨_, z, by simp [eg_v]⟩)
          | false => rw [h15] at h; cases h
    | putfield k =>
      obtain rfl := Nat.eq_of_beq_eq_true (show Nat.beq len 3 = true from hl)
      simp only [eg_hd0] at h
      split at h
      next ci fk q ha =>
        cases hb : (Nat.blt fk (eg_ncl ci) && (!(eg_finF ci fk) || (Nat.beq o ci && decide ((eg_md u).1.name = "<init>")))) with
        | false => rw [hb] at h; cases h
        | true =>
          rw [hb] at h
          cases h
          exact ok_pf hd ha (Bool.and_eq_true_iff.mp hb).2
      next => cases h
    | iastore =>
      obtain rfl := Nat.eq_of_beq_eq_true (show Nat.beq len 1 = true from hl)
      cases h
      exact ok_aw hd (fun _ => rfl) (fun h => by cases h) (fun h => by cases h) (fun h => by cases h)
    | lastore =>
      obtain rfl := Nat.eq_of_beq_eq_true (show Nat.beq len 1 = true from hl)
      cases h
      exact ok_aw hd (fun h => by cases h) (fun _ => rfl) (fun h => by cases h) (fun h => by cases h)
    | bastore =>
      obtain rfl := Nat.eq_of_beq_eq_true (show Nat.beq len 1 = true from hl)
      cases h
      exact ok_aw hd (fun h => by cases h) (fun h => by cases h) (fun _ => rfl) (fun _ => rfl)
    | aastore =>
      obtain rfl := Nat.eq_of_beq_eq_true (show Nat.beq len 1 = true from hl)
      cases h
      exact ok_aq hd
    | new k =>
      obtain rfl := Nat.eq_of_beq_eq_true (show Nat.beq len 3 = true from hl)
      simp only [eg_hd0] at h
      split at h
      next ci q ha => cases h; exact ok_new hd ha
      next => cases h
    | newarray ty =>
      obtain rfl := Nat.eq_of_beq_eq_true (show Nat.beq len 2 = true from hl)
      cases ty with
      | int => cases h; exact ok_na hd (by decide) ww_aI (fun _ => rfl) (by decide) (fun h => h) (fun _ => rfl)
      | long => cases h; exact ok_na hd (by decide) ww_aJ (fun _ => rfl) (by decide) (fun h => h) (fun _ => rfl)
      | byte => cases h; exact ok_na hd (by decide) ww_aB (fun _ => rfl) (by decide) (fun h => h) (fun _ => rfl)
      | boolean => cases h; exact ok_na hd (by decide) ww_aZ (fun _ => rfl) (by decide) (fun h => h) (fun _ => rfl)
      | _ => cases (show (none : Option eg_O) = some g from h)
    | anewarray k =>
      obtain rfl := Nat.eq_of_beq_eq_true (show Nat.beq len 3 = true from hl)
      simp only [eg_hd0] at h
      split at h
      next ci q ha =>
        obtain ⟨t, h1, rfl⟩ := eg_map_v h
        exact ok_an hd ha h1
      next => cases h
    | _ => cases (show (none : Option eg_O) = some g from h)
