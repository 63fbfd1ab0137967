/-! each instruction -/
section OKS
variable {en : List (Int × Int)} {sc : List Value} {u o pc : Nat}
theorem ok_iload_n {k : Fin 4} (hd : decode (eg_md u).2.1 pc = .ok (.iload_n k, 1)) : eg_OK en sc u o pc 1 (eg_ld eg_isI k.val) := ok_ld (fun hx hb hv ho hl K => by obtain ⟨x, rfl⟩ := eg_v_I hv ho; exact lv_iload_n hx hb hd rfl hl K)
theorem ok_iload {k : Nat} (hd : decode (eg_md u).2.1 pc = .ok (.iload k, 2)) : eg_OK en sc u o pc 2 (eg_ld eg_isI k) := ok_ld (fun hx hb hv ho hl K => by obtain ⟨x, rfl⟩ := eg_v_I hv ho; exact lv_iload hx hb hd hl K)
theorem ok_lload_n {k : Fin 4} (hd : decode (eg_md u).2.1 pc = .ok (.lload_n k, 1)) : eg_OK en sc u o pc 1 (eg_ld eg_isJ k.val) := ok_ld (fun hx hb hv ho hl K => by obtain ⟨x, rfl⟩ := eg_v_J hv ho; exact lv_lload_n hx hb hd rfl hl K)
theorem ok_lload {k : Nat} (hd : decode (eg_md u).2.1 pc = .ok (.lload k, 2)) : eg_OK en sc u o pc 2 (eg_ld eg_isJ k) := ok_ld (fun hx hb hv ho hl K => by obtain ⟨x, rfl⟩ := eg_v_J hv ho; exact lv_lload hx hb hd hl K)
theorem ok_aload_n {k : Fin 4} (hd : decode (eg_md u).2.1 pc = .ok (.aload_n k, 1)) : eg_OK en sc u o pc 1 (eg_ld eg_isA k.val) := ok_ld (fun hx hb hv ho hl K => by obtain ⟨x, rfl⟩ := eg_v_A hv ho; exact lv_aload_n hx hb hd rfl hl K)
theorem ok_aload {k : Nat} (hd : decode (eg_md u).2.1 pc = .ok (.aload k, 2)) : eg_OK en sc u o pc 2 (eg_ld eg_isA k) := ok_ld (fun hx hb hv ho hl K => by obtain ⟨x, rfl⟩ := eg_v_A hv ho; exact lv_aload hx hb hd hl K)
theorem ok_iconst {n : Int} {a : Value} (hd : decode (eg_md u).2.1 pc = .ok (.iconst n, 1)) (ha : eg_ni (Int32.ofInt n) = some a) : eg_OK en sc u o pc 1 (eg_cn a) := by
  rw [eg_ni_v ha]
  exact ok_cn (fun hX hS K => lv_iconst hX.1 hX.2.1 hd rfl (K _ rfl))
theorem ok_bipush {n : Int} {a : Value} (hd : decode (eg_md u).2.1 pc = .ok (.bipush n, 2)) (ha : eg_ni (Int8.ofInt n).toInt32 = some a) : eg_OK en sc u o pc 2 (eg_cn a) := by
  rw [eg_ni_v ha]
  exact ok_cn (fun hX hS K => lv_bipush hX.1 hX.2.1 hd rfl (K _ rfl))
theorem ok_sipush {n : Int} {a : Value} (hd : decode (eg_md u).2.1 pc = .ok (.sipush n, 3)) (ha : eg_ni (Int16.ofInt n).toInt32 = some a) : eg_OK en sc u o pc 3 (eg_cn a) := by
  rw [eg_ni_v ha]
  exact ok_cn (fun hX hS K => lv_sipush hX.1 hX.2.1 hd rfl (K _ rfl))
theorem ok_lconst {n : Fin 2} {a : Value} (hd : decode (eg_md u).2.1 pc = .ok (.lconst n, 1)) (ha : eg_nl (Int64.ofNat n.val) = some a) : eg_OK en sc u o pc 1 (eg_cn a) := by
  rw [eg_nl_v ha]
  exact ok_cn (fun hX hS K => lv_lconst hX.1 hX.2.1 hd rfl (K _ rfl))
/-- two ints that are known -/
theorem eg_ii_v {E : eg_X} {f : Int32 → Int32 → Int32} {a b r v w : Value} (h : eg_ii f a b = some r) (hv : eg_v E a v) (hw : eg_v E b w) : ∃ x y : Int32, v = .int y ∧ w = .int x ∧ r = .int (f x y) := by
  unfold eg_ii at h
  split at h
  · exact ⟨_, _, hv, hw, eg_ni_v h⟩
  · cases h
theorem eg_iz_v {E : eg_X} {f : Int32 → Int32 → Int32} {a b r v w : Value} (h : eg_iz f a b = some r) (hv : eg_v E a v) (hw : eg_v E b w) : ∃ x y : Int32, ¬ y = 0 ∧ v = .int y ∧ w = .int x ∧ r = .int (f x y) := by
  unfold eg_iz at h
  split at h
  · split at h
    · cases h
    next hy => exact ⟨_, _, hy, hv, hw, eg_ni_v h⟩
  · cases h
theorem eg_it_v {E : eg_X} {f : Int32 → Int32 → Int32} {a b r v w : Value} (h : eg_it f a b = some r) (hv : eg_v E a v) (hw : eg_v E b w) : ∃ x y : Int32, v = .int y ∧ w = .int x ∧ ∀ z, z = Value.int (f x y) → eg_v E r z := by
  unfold eg_it at h
  split at h
  · exact ⟨_, _, hv, hw, fun z hz => by rw [eg_ni_v h]; exact hz⟩
  · cases h
    exact ⟨_, _, hv, hw, fun z hz => by rw [hz]; simp [eg_v]⟩
  · cases h
theorem eg_ll_v {E : eg_X} {f : Int64 → Int64 → Int64} {a b r v w : Value} (h : eg_ll f a b = some r) (hv : eg_v E a v) (hw : eg_v E b w) : ∃ x y : Int64, v = .long y ∧ w = .long x ∧ r = .long (f x y) := by
  unfold eg_ll at h
  split at h
  · exact ⟨_, _, hv, hw, eg_nl_v h⟩
  · cases h
theorem eg_li_v {E : eg_X} {f : Int64 → Int32 → Int64} {a b r v w : Value} (h : eg_li f a b = some r) (hv : eg_v E a v) (hw : eg_v E b w) : ∃ (x : Int64) (y : Int32), v = .int y ∧ w = .long x ∧ r = .long (f x y) := by
  unfold eg_li at h
  split at h
  · exact ⟨_, _, hv, hw, eg_nl_v h⟩
  · cases h
theorem ok_iadd (hd : decode (eg_md u).2.1 pc = .ok (.iadd, 1)) : eg_OK en sc u o pc 1 (eg_b2 (eg_ii (fun x y => x + y))) := ok_b2 (fun hx hb hf hv hw K => by
  obtain ⟨x, y, rfl, rfl, rfl⟩ := eg_ii_v hf hv hw
  exact lv_iadd hx hb hd (K _ rfl))
theorem ok_isub (hd : decode (eg_md u).2.1 pc = .ok (.isub, 1)) : eg_OK en sc u o pc 1 (eg_b2 (eg_ii (fun x y => x - y))) := ok_b2 (fun hx hb hf hv hw K => by
  obtain ⟨x, y, rfl, rfl, rfl⟩ := eg_ii_v hf hv hw
  exact lv_isub hx hb hd (K _ rfl))
theorem ok_imul (hd : decode (eg_md u).2.1 pc = .ok (.imul, 1)) : eg_OK en sc u o pc 1 (eg_b2 (eg_ii (fun x y => x * y))) := ok_b2 (fun hx hb hf hv hw K => by
  obtain ⟨x, y, rfl, rfl, rfl⟩ := eg_ii_v hf hv hw
  exact lv_imul hx hb hd (K _ rfl))
theorem ok_iand (hd : decode (eg_md u).2.1 pc = .ok (.iand, 1)) : eg_OK en sc u o pc 1 (eg_b2 (eg_ii (fun x y => x &&& y))) := ok_b2 (fun hx hb hf hv hw K => by
  obtain ⟨x, y, rfl, rfl, rfl⟩ := eg_ii_v hf hv hw
  exact lv_iand hx hb hd (K _ rfl))
theorem ok_ior (hd : decode (eg_md u).2.1 pc = .ok (.ior, 1)) : eg_OK en sc u o pc 1 (eg_b2 (eg_ii (fun x y => x ||| y))) := ok_b2 (fun hx hb hf hv hw K => by
  obtain ⟨x, y, rfl, rfl, rfl⟩ := eg_ii_v hf hv hw
  exact lv_ior hx hb hd (K _ rfl))
theorem ok_ixor (hd : decode (eg_md u).2.1 pc = .ok (.ixor, 1)) : eg_OK en sc u o pc 1 (eg_b2 (eg_ii (fun x y => x ^^^ y))) := ok_b2 (fun hx hb hf hv hw K => by
  obtain ⟨x, y, rfl, rfl, rfl⟩ := eg_ii_v hf hv hw
  exact lv_ixor hx hb hd (K _ rfl))
theorem ok_ishl (hd : decode (eg_md u).2.1 pc = .ok (.ishl, 1)) : eg_OK en sc u o pc 1 (eg_b2 (eg_ii (fun x y => x <<< (y &&& 31)))) := ok_b2 (fun hx hb hf hv hw K => by
  obtain ⟨x, y, rfl, rfl, rfl⟩ := eg_ii_v hf hv hw
  exact lv_ishl hx hb hd (K _ rfl))
theorem ok_idiv (hd : decode (eg_md u).2.1 pc = .ok (.idiv, 1)) : eg_OK en sc u o pc 1 (eg_b2 (eg_iz (fun x y => x / y))) := ok_b2 (fun hx hb hf hv hw K => by
  obtain ⟨x, y, hy, rfl, rfl, rfl⟩ := eg_iz_v hf hv hw
  exact lv_idiv hx hb hd hy (K _ rfl))
theorem ok_irem (hd : decode (eg_md u).2.1 pc = .ok (.irem, 1)) : eg_OK en sc u o pc 1 (eg_b2 (eg_iz (fun x y => x - x / y * y))) := ok_b2 (fun hx hb hf hv hw K => by
  obtain ⟨x, y, hy, rfl, rfl, rfl⟩ := eg_iz_v hf hv hw
  exact lv_irem hx hb hd hy (K _ rfl))
theorem ok_ishr (hd : decode (eg_md u).2.1 pc = .ok (.ishr, 1)) : eg_OK en sc u o pc 1 (eg_b2 (eg_it (fun x y => x >>> (y &&& 31)))) := ok_b2 (fun hx hb hf hv hw K => by
  obtain ⟨x, y, rfl, rfl, hr⟩ := eg_it_v hf hv hw
  exact lv_ishr hx hb hd (K _ (hr _ rfl)))
theorem ok_iushr (hd : decode (eg_md u).2.1 pc = .ok (.iushr, 1)) : eg_OK en sc u o pc 1 (eg_b2 (eg_it (fun x y => (x.toUInt32 >>> (y.toUInt32 &&& Int32.toUInt32 31)).toInt32))) := ok_b2 (fun hx hb hf hv hw K => by
  obtain ⟨x, y, rfl, rfl, hr⟩ := eg_it_v hf hv hw
  exact lv_iushr hx hb hd rfl (K _ (hr _ rfl)))
theorem ok_ladd (hd : decode (eg_md u).2.1 pc = .ok (.ladd, 1)) : eg_OK en sc u o pc 1 (eg_b2 (eg_ll (fun x y => x + y))) := ok_b2 (fun hx hb hf hv hw K => by
  obtain ⟨x, y, rfl, rfl, rfl⟩ := eg_ll_v hf hv hw
  exact lv_ladd hx hb hd (K _ rfl))
theorem ok_lsub (hd : decode (eg_md u).2.1 pc = .ok (.lsub, 1)) : eg_OK en sc u o pc 1 (eg_b2 (eg_ll (fun x y => x - y))) := ok_b2 (fun hx hb hf hv hw K => by
  obtain ⟨x, y, rfl, rfl, rfl⟩ := eg_ll_v hf hv hw
  exact lv_lsub hx hb hd (K _ rfl))
theorem ok_lmul (hd : decode (eg_md u).2.1 pc = .ok (.lmul, 1)) : eg_OK en sc u o pc 1 (eg_b2 (eg_ll (fun x y => x * y))) := ok_b2 (fun hx hb hf hv hw K => by
  obtain ⟨x, y, rfl, rfl, rfl⟩ := eg_ll_v hf hv hw
  exact lv_lmul hx hb hd (K _ rfl))
theorem ok_land (hd : decode (eg_md u).2.1 pc = .ok (.land, 1)) : eg_OK en sc u o pc 1 (eg_b2 (eg_ll (fun x y => x &&& y))) := ok_b2 (fun hx hb hf hv hw K => by
  obtain ⟨x, y, rfl, rfl, rfl⟩ := eg_ll_v hf hv hw
  exact lv_land hx hb hd (K _ rfl))
theorem ok_lor (hd : decode (eg_md u).2.1 pc = .ok (.lor, 1)) : eg_OK en sc u o pc 1 (eg_b2 (eg_ll (fun x y => x ||| y))) := ok_b2 (fun hx hb hf hv hw K => by
  obtain ⟨x, y, rfl, rfl, rfl⟩ := eg_ll_v hf hv hw
  exact lv_lor hx hb hd (K _ rfl))
theorem ok_lxor (hd : decode (eg_md u).2.1 pc = .ok (.lxor, 1)) : eg_OK en sc u o pc 1 (eg_b2 (eg_ll (fun x y => x ^^^ y))) := ok_b2 (fun hx hb hf hv hw K => by
  obtain ⟨x, y, rfl, rfl, rfl⟩ := eg_ll_v hf hv hw
  exact lv_lxor hx hb hd (K _ rfl))
theorem ok_lshl (hd : decode (eg_md u).2.1 pc = .ok (.lshl, 1)) : eg_OK en sc u o pc 1 (eg_b2 (eg_li (fun x y => x <<< (y.toInt64 &&& 63)))) := ok_b2 (fun hx hb hf hv hw K => by
  obtain ⟨x, y, rfl, rfl, rfl⟩ := eg_li_v hf hv hw
  exact lv_lshl hx hb hd rfl (K _ rfl))
theorem ok_lshr (hd : decode (eg_md u).2.1 pc = .ok (.lshr, 1)) : eg_OK en sc u o pc 1 (eg_b2 (eg_li (fun x y => x >>> (y.toInt64 &&& 63)))) := ok_b2 (fun hx hb hf hv hw K => by
  obtain ⟨x, y, rfl, rfl, rfl⟩ := eg_li_v hf hv hw
  exact lv_lshr hx hb hd rfl (K _ rfl))
theorem ok_lushr (hd : decode (eg_md u).2.1 pc = .ok (.lushr, 1)) : eg_OK en sc u o pc 1 (eg_b2 (eg_li (fun x y => (x.toUInt64 >>> (y.toInt64.toUInt64 &&& Int64.toUInt64 63)).toInt64))) := ok_b2 (fun hx hb hf hv hw K => by
  obtain ⟨x, y, rfl, rfl, rfl⟩ := eg_li_v hf hv hw
  exact lv_lushr hx hb hd rfl (K _ rfl))
theorem ok_lcmp (hd : decode (eg_md u).2.1 pc = .ok (.lcmp, 1)) : eg_OK en sc u o pc 1 (eg_b2 eg_lc) := ok_b2 (fun hx hb hf hv hw K => by
  unfold eg_lc at hf
  split at hf
  · obtain rfl := hv
    obtain rfl := hw
    rw [eg_ni_v hf] at K
    exact W.lcmp hx hb hd (K _ rfl)
  · cases hf)
theorem eg_i1_v {E : eg_X} {f : Int32 → Int32} {a r v : Value} (h : eg_i1 f a = some r) (hv : eg_v E a v) : ∃ x : Int32, v = .int x ∧ r = .int (f x) := by
  unfold eg_i1 at h
  split at h
  · exact ⟨_, hv, eg_ni_v h⟩
  · cases h
theorem ok_ineg (hd : decode (eg_md u).2.1 pc = .ok (.ineg, 1)) : eg_OK en sc u o pc 1 (eg_b1 (eg_i1 (fun x => -x))) := ok_b1 (fun hx hb hf hv K => by
  obtain ⟨x, rfl, rfl⟩ := eg_i1_v hf hv
  exact lv_ineg hx hb hd (K _ rfl))
theorem ok_i2c (hd : decode (eg_md u).2.1 pc = .ok (.i2c, 1)) : eg_OK en sc u o pc 1 (eg_b1 (eg_i1 (fun x => (x.toUInt32 % 65536).toInt32))) := ok_b1 (fun hx hb hf hv K => by
  obtain ⟨x, rfl, rfl⟩ := eg_i1_v hf hv
  exact lv_i2c hx hb hd rfl (K _ rfl))
theorem ok_i2l (hd : decode (eg_md u).2.1 pc = .ok (.i2l, 1)) : eg_OK en sc u o pc 1 (eg_b1 eg_il) := ok_b1 (fun hx hb hf hv K => by
  unfold eg_il at hf
  split at hf
  · obtain rfl := hv
    rw [eg_nl_v hf] at K
    exact lv_i2l hx hb hd rfl (K _ rfl)
  · cases hf)
theorem ok_l2i (hd : decode (eg_md u).2.1 pc = .ok (.l2i, 1)) : eg_OK en sc u o pc 1 (eg_b1 eg_l2) := ok_b1 (fun hx hb hf hv K => by
  unfold eg_l2 at hf
  split at hf
  · obtain rfl := hv
    rw [eg_ni_v hf] at K
    exact lv_l2i hx hb hd rfl (K _ rfl)
  · cases hf)
theorem ok_i2b (hd : decode (eg_md u).2.1 pc = .ok (.i2b, 1)) : eg_OK en sc u o pc 1 (eg_b1 eg_ib) := ok_b1 (fun hx hb hf hv K => by
  unfold eg_ib at hf
  split at hf
  · obtain rfl := hv
    rw [eg_ni_v hf] at K
    exact lv_i2b hx hb hd rfl (K _ rfl)
  · next w =>
    cases hw : (w == 0) with
    | false => rw [hw] at hf; cases hf
    | true =>
      rw [hw] at hf
      cases hf
      obtain ⟨x, rfl⟩ := eg_v_I hv (show eg_isI (.float w) = true from hw)
      exact lv_i2b hx hb hd rfl (K _ (by simp [eg_v]))
  · cases hf)
theorem ok_dup (hd : decode (eg_md u).2.1 pc = .ok (.dup, 1)) : eg_OK en sc u o pc 1 eg_dup := ok_st (fun st => match st with
  | y :: st => bif eg_is1 y then some (y :: y :: st) else none
  | _ => none) (fun ls st hn h bc bs => by
    cases st with
    | nil => rfl
    | cons y st => simp only [eg_dup]; cases eg_is1 y <;> rfl) (fun {p l e R s m args below meth c H locs cells slots Q ls E st st' stc} hx hb hf hs K => by
  match st, hs, hf with
  | [], _, hf => cases hf
  | y :: st, ⟨v, rest, he, hv, hr⟩, hf =>
    subst he
    simp only at hf
    cases h1 : eg_is1 y with
    | false => rw [h1] at hf; cases hf
    | true =>
      rw [h1] at hf
      cases hf
      exact lv_dup hx hb hd (eg_is1_c hv h1) (K _ ⟨v, _, rfl, hv, v, _, rfl, hv, hr⟩))
theorem ok_pop (hd : decode (eg_md u).2.1 pc = .ok (.pop, 1)) : eg_OK en sc u o pc 1 eg_pp := ok_st (fun st => match st with
  | y :: st => bif eg_is1 y then some st else none
  | _ => none) (fun ls st hn h bc bs => by
    cases st with
    | nil => rfl
    | cons y st => simp only [eg_pp]; cases eg_is1 y <;> rfl) (fun {p l e R s m args below meth c H locs cells slots Q ls E st st' stc} hx hb hf hs K => by
  match st, hs, hf with
  | [], _, hf => cases hf
  | y :: st, ⟨v, rest, he, hv, hr⟩, hf =>
    subst he
    simp only at hf
    cases h1 : eg_is1 y with
    | false => rw [h1] at hf; cases hf
    | true =>
      rw [h1] at hf
      cases hf
      exact lv_pop hx hb hd (eg_is1_c hv h1) (K _ hr))
theorem ok_dup_x1 (hd : decode (eg_md u).2.1 pc = .ok (.dup_x1, 1)) : eg_OK en sc u o pc 1 eg_dx := ok_st (fun st => match st with
  | y :: x :: st => bif eg_is1 y && eg_is1 x then some (y :: x :: y :: st) else none
  | _ => none) (fun ls st hn h bc bs => by
    match st with
    | [] => rfl
    | [_] => rfl
    | y :: x :: st => simp only [eg_dx]; cases (eg_is1 y && eg_is1 x) <;> rfl) (fun {p l e R s m args below meth c H locs cells slots Q ls E st st' stc} hx hb hf hs K => by
  match st, hs, hf with
  | [], _, hf => cases hf
  | [_], _, hf => cases hf
  | y :: x :: st, ⟨v, _, he, hv, w, rest, he2, hw, hr⟩, hf =>
    subst he; subst he2
    simp only at hf
    cases h1 : (eg_is1 y && eg_is1 x) with
    | false => rw [h1] at hf; cases hf
    | true =>
      rw [h1] at hf
      cases hf
      have h2 := Bool.and_eq_true_iff.mp h1
      exact lv_dup_x1 hx hb hd (eg_is1_c hv h2.1) (eg_is1_c hw h2.2) (K _ ⟨v, _, rfl, hv, w, _, rfl, hw, v, _, rfl, hv, hr⟩))
theorem ok_dup2 (hd : decode (eg_md u).2.1 pc = .ok (.dup2, 1)) : eg_OK en sc u o pc 1 eg_d2 := ok_st (fun st => match st with
  | y :: x :: st => bif eg_is1 y && eg_is1 x then some (y :: x :: y :: x :: st) else none
  | _ => none) (fun ls st hn h bc bs => by
    match st with
    | [] => rfl
    | [_] => rfl
    | y :: x :: st => simp only [eg_d2]; cases (eg_is1 y && eg_is1 x) <;> rfl) (fun {p l e R s m args below meth c H locs cells slots Q ls E st st' stc} hx hb hf hs K => by
  match st, hs, hf with
  | [], _, hf => cases hf
  | [_], _, hf => cases hf
  | y :: x :: st, ⟨v, _, he, hv, w, rest, he2, hw, hr⟩, hf =>
    subst he; subst he2
    simp only at hf
    cases h1 : (eg_is1 y && eg_is1 x) with
    | false => rw [h1] at hf; cases hf
    | true =>
      rw [h1] at hf
      cases hf
      have h2 := Bool.and_eq_true_iff.mp h1
      exact lv_dup2_11 hx hb hd (eg_is1_c hv h2.1) (eg_is1_c hw h2.2) (K _ ⟨v, _, rfl, hv, w, _, rfl, hw, v, _, rfl, hv, w, _, rfl, hw, hr⟩))
end OKS
