/-! every instruction of the run is one of the engine -/
set_option maxHeartbeats 4000000 in
theorem ah_hd {sc : List Value} {M : ab_M} (hsc : ∀ k v, eg_nth sc k = some v → ∃ x : Int32, v = .int x) (hlen : sc.length < 2 ^ 31) {u o pc len : Nat} {i : Instr} {g : ab_S → ab_N} (h : ab_hd M u o pc i len = some g) : ∃ G, eg_hd [] sc u o pc i len = some G ∧ ab_ok sc M G g := by
  unfold ab_hd at h
  unfold eg_hd
  cases hl : eg_lok i len with
  | false => rw [hl] at h; cases h
  | true =>
    rw [hl] at h
    simp only at h ⊢
    have c0 : ∀ {ν : Nat → Int} {n : Nat} (v : Int32), 2 ≤ n → ν 0 = 0 → ab_v ν n (.inl (0, v.toInt)) (.int v) := fun {ν n} v h2 h0 => ⟨v, rfl, by simp only; omega, by simp only; rw [h0]; omega⟩
    cases i with
    | iload_n k => cases h; exact ⟨_, rfl, ah_ld ab_isI_v⟩
    | iload k => cases h; exact ⟨_, rfl, ah_ld ab_isI_v⟩
    | lload_n k => cases h; exact ⟨_, rfl, ah_ld ab_isJ_v⟩
    | lload k => cases h; exact ⟨_, rfl, ah_ld ab_isJ_v⟩
    | aload_n k => cases h; exact ⟨_, rfl, ah_ld ab_isR_v⟩
    | aload k => cases h; exact ⟨_, rfl, ah_ld ab_isR_v⟩
    | iconst n => cases h; exact ⟨_, by simp only [eg_hd0, eg_ni_e]; rfl, ah_cn (c0 _)⟩
    | bipush n => cases h; exact ⟨_, by simp only [eg_hd0, eg_ni_e]; rfl, ah_cn (c0 _)⟩
    | sipush n => cases h; exact ⟨_, by simp only [eg_hd0, eg_ni_e]; rfl, ah_cn (c0 _)⟩
    | lconst n => cases h; exact ⟨_, by simp only [eg_hd0, eg_nl_e]; rfl, ah_cn (fun _ _ => ⟨_, rfl⟩)⟩
    | ldc k =>
      simp only [ab_hd0] at h
      split at h
      next v q ha => cases h; exact ⟨_, by simp only [eg_hd0, ha], ah_cn (c0 _)⟩
      next => cases h
    | ldc_w k =>
      simp only [ab_hd0] at h
      split at h
      next v q ha => cases h; exact ⟨_, by simp only [eg_hd0, ha], ah_cn (c0 _)⟩
      next => cases h
    | ldc2_w k =>
      simp only [ab_hd0] at h
      split at h
      next v q ha => cases h; exact ⟨eg_cn (.long v), by simp only [eg_hd0, ha], ah_cn (fun _ _ => ⟨v, rfl⟩)⟩
      next => cases h
    | iadd => cases h; exact ⟨_, rfl, ah_ad⟩
    | isub => cases h; exact ⟨_, rfl, ah_sb⟩
    | imul => cases h; exact ⟨_, rfl, ah_b2 ab_num_mul (fun _ _ => rfl)⟩
    | iand => cases h; exact ⟨_, rfl, ah_b2 ab_num_and (fun _ _ => rfl)⟩
    | ior => cases h; exact ⟨_, rfl, ah_b2 ab_num_or (fun _ _ => rfl)⟩
    | ixor => cases h; exact ⟨_, rfl, ah_b2 (ab_num_any (fun x y => x ^^^ y)) (fun _ _ => rfl)⟩
    | idiv => cases h; exact ⟨_, rfl, ah_dv ab_num_div⟩
    | irem => cases h; exact ⟨_, rfl, ah_dv ab_num_rem⟩
    | ishl => cases h; exact ⟨_, rfl, ah_b2 ab_num_shl (fun _ _ => rfl)⟩
    | ishr => cases h; exact ⟨_, rfl, ah_b2 ab_num_shr (fun _ _ => rfl)⟩
    | iushr => cases h; exact ⟨_, rfl, ah_b2 ab_num_ushr (fun _ _ => rfl)⟩
    | ladd => cases h; exact ⟨_, rfl, ah_ll⟩
    | lsub => cases h; exact ⟨_, rfl, ah_ll⟩
    | lmul => cases h; exact ⟨_, rfl, ah_ll⟩
    | land => cases h; exact ⟨_, rfl, ah_ll⟩
    | lor => cases h; exact ⟨_, rfl, ah_ll⟩
    | lxor => cases h; exact ⟨_, rfl, ah_ll⟩
    | lshl => cases h; exact ⟨_, rfl, ah_li⟩
    | lshr => cases h; exact ⟨_, rfl, ah_li⟩
    | lushr => cases h; exact ⟨_, rfl, ah_li⟩
    | lcmp => cases h; exact ⟨_, rfl, ah_lc⟩
    | ineg => cases h; exact ⟨_, rfl, ah_ineg⟩
    | i2l => cases h; exact ⟨_, rfl, ah_il⟩
    | l2i => cases h; exact ⟨_, rfl, ah_l2⟩
    | i2b => cases h; exact ⟨_, rfl, ah_i2b⟩
    | dup => cases h; exact ⟨_, rfl, ah_dup⟩
    | pop => cases h; exact ⟨_, rfl, ah_pop⟩
    | dup_x1 => cases h; exact ⟨_, rfl, ah_dx⟩
    | dup2 => cases h; exact ⟨_, rfl, ah_d2⟩
    | goto off =>
      obtain ⟨t, h1, rfl⟩ := eg_map_v h
      exact ⟨_, by simp only [eg_hd0, h1]; rfl, ah_jp⟩
    | ifCond c off =>
      obtain ⟨t, h1, rfl⟩ := eg_map_v h
      exact ⟨_, by simp only [eg_hd0, h1]; rfl, ah_if⟩
    | if_icmp c off =>
      obtain ⟨t, h1, rfl⟩ := eg_map_v h
      exact ⟨_, by simp only [eg_hd0, h1]; rfl, ah_ic⟩
    | tableswitch d lo hi offs =>
      simp only [ab_hd0] at h
      cases hb : (decide ((Int32.ofInt lo).toInt = lo) && decide ((Int32.ofInt hi).toInt = hi)) with
      | false => rw [hb] at h; cases h
      | true =>
        rw [hb] at h
        cases h
        have hb2 := Bool.and_eq_true_iff.mp hb
        exact ⟨_, rfl, ah_tb (of_decide_eq_true hb2.1) (of_decide_eq_true hb2.2)⟩
    | lookupswitch d ps =>
      simp only [ab_hd0] at h
      cases hb : eg_srt ps with
      | false => rw [hb] at h; cases h
      | true =>
        rw [hb] at h
        cases h
        exact ⟨_, rfl, ah_lk hb⟩
    | istore_n k =>
      simp only [ab_hd0] at h
      cases hb : Nat.blt k.val (eg_md u).2.2.1 with
      | false => rw [hb] at h; cases h
      | true => rw [hb] at h; cases h; exact ⟨_, by simp only [eg_hd0, hb]; rfl, ah_s1 ab_isI_v⟩
    | istore k =>
      simp only [ab_hd0] at h
      cases hb : Nat.blt k (eg_md u).2.2.1 with
      | false => rw [hb] at h; cases h
      | true => rw [hb] at h; cases h; exact ⟨_, by simp only [eg_hd0, hb]; rfl, ah_s1 ab_isI_v⟩
    | lstore_n k =>
      simp only [ab_hd0] at h
      cases hb : Nat.blt (k.val + 1) (eg_md u).2.2.1 with
      | false => rw [hb] at h; cases h
      | true => rw [hb] at h; cases h; exact ⟨_, by simp only [eg_hd0, hb]; rfl, ah_s2⟩
    | lstore k =>
      simp only [ab_hd0] at h
      cases hb : Nat.blt (k + 1) (eg_md u).2.2.1 with
      | false => rw [hb] at h; cases h
      | true => rw [hb] at h; cases h; exact ⟨_, by simp only [eg_hd0, hb]; rfl, ah_s2⟩
    | iinc k n =>
      simp only [ab_hd0] at h
      cases hb : Nat.blt k (eg_md u).2.2.1 with
      | false => rw [hb] at h; cases h
      | true => rw [hb] at h; cases h; exact ⟨_, by simp only [eg_hd0, hb]; rfl, ah_in⟩
    | getfield k =>
      simp only [ab_hd0] at h
      split at h
      next ci fk q ha => cases h; exact ⟨_, by simp only [eg_hd0, ha], ah_gf⟩
      next => cases h
    | putfield k =>
      simp only [ab_hd0] at h
      split at h
      next ci fk q ha =>
        cases hb : (Nat.blt fk (eg_ncl ci) && !(eg_finF ci fk)) with
        | false => rw [hb] at h; cases h
        | true =>
          rw [hb] at h
          cases h
          have hb2 := Bool.and_eq_true_iff.mp hb
          exact ⟨_, by simp only [eg_hd0, ha, hb2.1, hb2.2, Bool.true_or, Bool.and_self]; rfl, ah_pf⟩
      next => cases h
    | arraylength => cases h; exact ⟨_, rfl, ah_al hlen⟩
    | iaload => cases h; exact ⟨_, rfl, ah_ar hsc⟩
    | laload => cases h; exact ⟨_, rfl, ah_ar hsc⟩
    | baload => cases h; exact ⟨_, rfl, ah_ar hsc⟩
    | aaload => cases h; exact ⟨_, rfl, ah_ar hsc⟩
    | iastore => cases h; exact ⟨_, rfl, ah_aw⟩
    | lastore => cases h; exact ⟨_, rfl, ah_aw⟩
    | bastore => cases h; exact ⟨_, rfl, ah_aw⟩
    | _ => cases (show (none : Option (ab_S → ab_N)) = some g from h)
