/-! BY HAND: the engine, step by step. From this place it comes to one with K. -/
def hs (sc : List Value) (sp u o dq : Nat) (K : Nat → eg_L → List Value → eg_H → Prop) (pc : Nat) (ls : eg_L) (st : List Value) (h : eg_H) : Prop := ∃ pc' ls' st' h', ab_Re sc sp u o dq pc ls st h pc' ls' st' h' ∧ K pc' ls' st' h'
/-- the instruction at a place -/
def ab_at (u pc : Nat) (i : Instr) (len : Nat) : Bool := !(Nat.beq u 9999) && (match eg_seek pc (eg_pg u) with
  | (p, j, n) :: cs => Nat.beq p pc && decide (j = i) && Nat.beq n len && ab_hq cs (pc + len)
  | [] => false)
theorem ab_at_v {u pc : Nat} {i : Instr} {len : Nat} (h : ab_at u pc i len = true) : Nat.beq u 9999 = false ∧ eg_seek pc (eg_pg u) = (pc, i, len) :: eg_seek (pc + len) (eg_pg u) := by
  unfold ab_at at h
  have h1 := Bool.and_eq_true_iff.mp h
  have hu : Nat.beq u 9999 = false := by
    cases hb : Nat.beq u 9999 with
    | false => rfl
    | true => have := h1.1; rw [hb] at this; cases this
  refine ⟨hu, ?_⟩
  have h2 := h1.2
  split at h2
  next p j n cs hs =>
    have c1 := Bool.and_eq_true_iff.mp h2
    have c2 := Bool.and_eq_true_iff.mp c1.1
    have c3 := Bool.and_eq_true_iff.mp c2.1
    obtain rfl := Nat.eq_of_beq_eq_true c3.1
    obtain rfl := of_decide_eq_true c3.2
    obtain rfl := Nat.eq_of_beq_eq_true c2.2
    have := ab_hq_v ab_ord_all hs c1.2
    rw [← this]
    exact hs
  next => cases h2
section HS
variable {sc : List Value} {sp u o dq pc : Nat} {K : Nat → eg_L → List Value → eg_H → Prop} {ls : eg_L} {st : List Value} {h : eg_H}
theorem hs_k (hk : K pc ls st h) : hs sc sp u o dq K pc ls st h := ⟨pc, ls, st, h, ab_Re.rf, hk⟩
theorem hs.pre {pc1 : Nat} {ls1 : eg_L} {st1 : List Value} {h1 : eg_H} (hR : ab_Re sc sp u o dq pc ls st h pc1 ls1 st1 h1) (g : hs sc sp u o dq K pc1 ls1 st1 h1) : hs sc sp u o dq K pc ls st h := by
  obtain ⟨a, b, c, d, g1, g2⟩ := g
  exact ⟨a, b, c, d, hR.tr g1, g2⟩
theorem hs.mono {K2 : Nat → eg_L → List Value → eg_H → Prop} (g : hs sc sp u o dq K pc ls st h) (hk : ∀ pc ls st h, K pc ls st h → K2 pc ls st h) : hs sc sp u o dq K2 pc ls st h := by
  obtain ⟨a, b, c, d, g1, g2⟩ := g
  exact ⟨a, b, c, d, g1, hk _ _ _ _ g2⟩
theorem hs.bind {K2 : Nat → eg_L → List Value → eg_H → Prop} (g : hs sc sp u o dq K pc ls st h) (hk : ∀ pc ls st h, K pc ls st h → hs sc sp u o dq K2 pc ls st h) : hs sc sp u o dq K2 pc ls st h := by
  obtain ⟨a, b, c, d, g1, g2⟩ := g
  exact (hk _ _ _ _ g2).pre g1
/-- one instruction, to the next one -/
theorem hs_s {i : Instr} {len : Nat} {G : eg_O} {ls' : eg_L} {st' : List Value} {h' : eg_H} (c : ab_at u pc i len = true) (hG : eg_hd [] sc u o pc i len = some G) (hg : G ls st 999 h 0 0 = some (0, ls', st', 999, h', 0, 0)) (n : hs sc sp u o dq K (pc + len) ls' st' h') : hs sc sp u o dq K pc ls st h := by
  obtain ⟨hu, hs0⟩ := ab_at_v c
  exact n.pre (ab_Re_step hs0 (by rw [hu, Bool.and_false]) hG hg (Or.inl ⟨rfl, rfl, rfl⟩))
/-- one instruction, to another place -/
theorem hs_j {i : Instr} {len t : Nat} {G : eg_O} {ls' : eg_L} {st' : List Value} {h' : eg_H} (c : ab_at u pc i len = true) (hG : eg_hd [] sc u o pc i len = some G) (hg : G ls st 999 h 0 0 = some (Nat.succ t, ls', st', 999, h', 0, 0)) (n : hs sc sp u o dq K t ls' st' h') : hs sc sp u o dq K pc ls st h := by
  obtain ⟨hu, hs0⟩ := ab_at_v c
  exact n.pre (ab_Re_step hs0 (by rw [hu, Bool.and_false]) hG hg (Or.inr rfl))
theorem hs_iload_n {k : Fin 4} {x : Int32} (c : ab_at u pc (.iload_n k) 1 = true) (hl : eg_find k.val ls = some (.int x)) (n : hs sc sp u o dq K (pc + 1) ls (.int x :: st) h) : hs sc sp u o dq K pc ls st h := hs_s c rfl (by simp only [eg_ld, hl]; rfl) n
theorem hs_iload {k : Nat} {x : Int32} (c : ab_at u pc (.iload k) 2 = true) (hl : eg_find k ls = some (.int x)) (n : hs sc sp u o dq K (pc + 2) ls (.int x :: st) h) : hs sc sp u o dq K pc ls st h := hs_s c rfl (by simp only [eg_ld, hl]; rfl) n
theorem hs_aload_n {k : Fin 4} {x : Nat} (c : ab_at u pc (.aload_n k) 1 = true) (hl : eg_find k.val ls = some (.ref x)) (n : hs sc sp u o dq K (pc + 1) ls (.ref x :: st) h) : hs sc sp u o dq K pc ls st h := hs_s c rfl (by simp only [eg_ld, hl]; rfl) n
theorem hs_iconst {v : Int} (c : ab_at u pc (.iconst v) 1 = true) (n : hs sc sp u o dq K (pc + 1) ls (.int (Int32.ofInt v) :: st) h) : hs sc sp u o dq K pc ls st h := hs_s (G := eg_cn (.int (Int32.ofInt v))) c (by simp only [eg_hd, eg_lok, Nat.beq_refl, eg_hd0, eg_ni_e, Option.map]) rfl n
theorem hs_bipush {v : Int} (c : ab_at u pc (.bipush v) 2 = true) (n : hs sc sp u o dq K (pc + 2) ls (.int (Int8.ofInt v).toInt32 :: st) h) : hs sc sp u o dq K pc ls st h := hs_s (G := eg_cn (.int (Int8.ofInt v).toInt32)) c (by simp only [eg_hd, eg_lok, Nat.beq_refl, eg_hd0, eg_ni_e, Option.map]) rfl n
theorem hs_sipush {v : Int} (c : ab_at u pc (.sipush v) 3 = true) (n : hs sc sp u o dq K (pc + 3) ls (.int (Int16.ofInt v).toInt32 :: st) h) : hs sc sp u o dq K pc ls st h := hs_s (G := eg_cn (.int (Int16.ofInt v).toInt32)) c (by simp only [eg_hd, eg_lok, Nat.beq_refl, eg_hd0, eg_ni_e, Option.map]) rfl n
theorem hs_iadd {x y : Int32} (c : ab_at u pc .iadd 1 = true) (n : hs sc sp u o dq K (pc + 1) ls (.int (x + y) :: st) h) : hs sc sp u o dq K pc ls (.int y :: .int x :: st) h := hs_s c rfl (by simp only [eg_b2, eg_ii, eg_ni_e]) n
theorem hs_isub {x y : Int32} (c : ab_at u pc .isub 1 = true) (n : hs sc sp u o dq K (pc + 1) ls (.int (x - y) :: st) h) : hs sc sp u o dq K pc ls (.int y :: .int x :: st) h := hs_s c rfl (by simp only [eg_b2, eg_ii, eg_ni_e]) n
theorem hs_imul {x y : Int32} (c : ab_at u pc .imul 1 = true) (n : hs sc sp u o dq K (pc + 1) ls (.int (x * y) :: st) h) : hs sc sp u o dq K pc ls (.int y :: .int x :: st) h := hs_s c rfl (by simp only [eg_b2, eg_ii, eg_ni_e]) n
theorem hs_iand {x y : Int32} (c : ab_at u pc .iand 1 = true) (n : hs sc sp u o dq K (pc + 1) ls (.int (x &&& y) :: st) h) : hs sc sp u o dq K pc ls (.int y :: .int x :: st) h := hs_s c rfl (by simp only [eg_b2, eg_ii, eg_ni_e]) n
theorem hs_ior {x y : Int32} (c : ab_at u pc .ior 1 = true) (n : hs sc sp u o dq K (pc + 1) ls (.int (x ||| y) :: st) h) : hs sc sp u o dq K pc ls (.int y :: .int x :: st) h := hs_s c rfl (by simp only [eg_b2, eg_ii, eg_ni_e]) n
theorem hs_ishl {x y : Int32} (c : ab_at u pc .ishl 1 = true) (n : hs sc sp u o dq K (pc + 1) ls (.int (x <<< (y &&& 31)) :: st) h) : hs sc sp u o dq K pc ls (.int y :: .int x :: st) h := hs_s c rfl (by simp only [eg_b2, eg_ii, eg_ni_e]) n
theorem hs_ishr {x y : Int32} (c : ab_at u pc .ishr 1 = true) (n : hs sc sp u o dq K (pc + 1) ls (.int (x >>> (y &&& 31)) :: st) h) : hs sc sp u o dq K pc ls (.int y :: .int x :: st) h := hs_s c rfl (by simp only [eg_b2, eg_it, eg_ni_e]) n
theorem hs_idiv {x y : Int32} (c : ab_at u pc .idiv 1 = true) (hy : ¬ y = 0) (n : hs sc sp u o dq K (pc + 1) ls (.int (x / y) :: st) h) : hs sc sp u o dq K pc ls (.int y :: .int x :: st) h := hs_s c rfl (by simp only [eg_b2, eg_iz, if_neg hy, eg_ni_e]) n
theorem hs_irem {x y : Int32} (c : ab_at u pc .irem 1 = true) (hy : ¬ y = 0) (n : hs sc sp u o dq K (pc + 1) ls (.int (x - x / y * y) :: st) h) : hs sc sp u o dq K pc ls (.int y :: .int x :: st) h := hs_s c rfl (by simp only [eg_b2, eg_iz, if_neg hy, eg_ni_e]) n
theorem hs_dup {v : Value} (c : ab_at u pc .dup 1 = true) (hv : eg_is1 v = true) (n : hs sc sp u o dq K (pc + 1) ls (v :: v :: st) h) : hs sc sp u o dq K pc ls (v :: st) h := hs_s c rfl (by simp only [eg_dup, hv, cond_true]) n
theorem hs_pop {v : Value} (c : ab_at u pc .pop 1 = true) (hv : eg_is1 v = true) (n : hs sc sp u o dq K (pc + 1) ls st h) : hs sc sp u o dq K pc ls (v :: st) h := hs_s c rfl (by simp only [eg_pp, hv, cond_true]) n
theorem hs_dx {v w : Value} (c : ab_at u pc .dup_x1 1 = true) (hv : (eg_is1 v && eg_is1 w) = true) (n : hs sc sp u o dq K (pc + 1) ls (v :: w :: v :: st) h) : hs sc sp u o dq K pc ls (v :: w :: st) h := hs_s c rfl (by simp only [eg_dx, hv, cond_true]) n
theorem hs_d2 {v w : Value} (c : ab_at u pc .dup2 1 = true) (hv : (eg_is1 v && eg_is1 w) = true) (n : hs sc sp u o dq K (pc + 1) ls (v :: w :: v :: w :: st) h) : hs sc sp u o dq K pc ls (v :: w :: st) h := hs_s c rfl (by simp only [eg_d2, hv, cond_true]) n
/-- a local is written: what is known of the others stays -/
theorem hs_lput {k : Nat} {x : Int32} {v : Value} {k' : Nat} (hv : v.category = 1) (hn : k' ≠ k) (hf : eg_find k' ls = some v) : eg_find k' ((k, Value.int x) :: eg_fil (eg_k1 k) ls) = some v := by
  rw [ab_find_cons, if_neg (fun e => hn e.symm)]
  refine ab_find_fil _ hf ?_
  unfold eg_k1
  simp only [hv]
  have h1 : Nat.beq k' k = false := by
    cases hb : Nat.beq k' k with
    | false => rfl
    | true => exact absurd (Nat.eq_of_beq_eq_true hb) hn
  rw [h1]
  cases Nat.beq (k' + 1) k <;> rfl
def hs_ln (k : Nat) (x : Int32) (ls ls' : eg_L) : Prop := eg_find k ls' = some (.int x) ∧ ∀ k' v, k' ≠ k → v.category = 1 → eg_find k' ls = some v → eg_find k' ls' = some v
theorem hs_ln_put {k : Nat} {x : Int32} {ls : eg_L} : hs_ln k x ls ((k, .int x) :: eg_fil (eg_k1 k) ls) := ⟨by rw [ab_find_cons, if_pos rfl], fun _ _ hn hv hf => hs_lput hv hn hf⟩
theorem hs_istore_n {k : Fin 4} {x : Int32} (c : ab_at u pc (.istore_n k) 1 = true) (hk : Nat.blt k.val (eg_md u).2.2.1 = true) (n : ∀ ls', hs_ln k.val x ls ls' → hs sc sp u o dq K (pc + 1) ls' st h) : hs sc sp u o dq K pc ls (.int x :: st) h := hs_s (G := eg_s1 eg_isI k.val) c (by simp only [eg_hd, eg_lok, Nat.beq_refl, eg_hd0, hk, cond_true]) rfl (n _ hs_ln_put)
theorem hs_istore {k : Nat} {x : Int32} (c : ab_at u pc (.istore k) 2 = true) (hk : Nat.blt k (eg_md u).2.2.1 = true) (n : ∀ ls', hs_ln k x ls ls' → hs sc sp u o dq K (pc + 2) ls' st h) : hs sc sp u o dq K pc ls (.int x :: st) h := hs_s (G := eg_s1 eg_isI k) c (by simp only [eg_hd, eg_lok, Nat.beq_refl, eg_hd0, hk, cond_true]) rfl (n _ hs_ln_put)
theorem hs_iinc {k : Nat} {v : Int} {x : Int32} (c : ab_at u pc (.iinc k v) 3 = true) (hk : Nat.blt k (eg_md u).2.2.1 = true) (hl : eg_find k ls = some (.int x)) (n : ∀ ls', hs_ln k (x + Int32.ofInt v) ls ls' → hs sc sp u o dq K (pc + 3) ls' st h) : hs sc sp u o dq K pc ls st h := hs_s (G := eg_in k v) c (by simp only [eg_hd, eg_lok, Nat.beq_refl, eg_hd0, hk, cond_true]) (by simp only [eg_in, hl, eg_ni_e]) (n _ hs_ln_put)
theorem hs_goto {off : Int} {t : Nat} (c : ab_at u pc (.goto off) 3 = true) (ht : eg_tgt pc off = some t) (n : hs sc sp u o dq K t ls st h) : hs sc sp u o dq K pc ls st h := hs_j (G := eg_jp t) c (by simp only [eg_hd, eg_lok, Nat.beq_refl, eg_hd0, ht, Option.map]) rfl n
/-- what a question asks, as Ints -/
def hs_cd (c : ClassFile.Cond) (x y : Int) : Prop := match c with
  | .eq => x = y
  | .ne => x ≠ y
  | .lt => x < y
  | .ge => y ≤ x
  | .gt => y < x
  | .le => x ≤ y
theorem hs_cmp (c : ClassFile.Cond) (x y : Int32) : (hs_cd c x.toInt y.toInt ∧ eg_cmp [] c (.int x) (.int y) = some true) ∨ (hs_cd (ab_not c) x.toInt y.toInt ∧ eg_cmp [] c (.int x) (.int y) = some false) := by
  have e1 : eg_rng [] (.int x) = some (x.toInt, x.toInt) := rfl
  have e2 : eg_rng [] (.int y) = some (y.toInt, y.toInt) := rfl
  unfold eg_cmp
  rw [e1, e2]
  simp only
  rcases Int.lt_trichotomy x.toInt y.toInt with hlt | heq | hgt
  · cases c
    · exact Or.inr ⟨by show x.toInt ≠ y.toInt; omega, by simp only [eg_eq]; rw [if_pos (by omega)]⟩
    · exact Or.inl ⟨by show x.toInt ≠ y.toInt; omega, by simp only [eg_eq]; rw [if_pos (by omega)]; rfl⟩
    · exact Or.inl ⟨by show x.toInt < y.toInt; omega, by simp only [eg_lt]; rw [if_pos (by omega)]⟩
    · exact Or.inr ⟨by show x.toInt < y.toInt; omega, by simp only [eg_lt]; rw [if_pos (by omega)]; rfl⟩
    · exact Or.inr ⟨by show x.toInt ≤ y.toInt; omega, by simp only [eg_lt]; rw [if_neg (by omega), if_pos (by omega)]⟩
    · exact Or.inl ⟨by show x.toInt ≤ y.toInt; omega, by simp only [eg_lt]; rw [if_neg (by omega), if_pos (by omega)]; rfl⟩
  · cases c
    · exact Or.inl ⟨by show x.toInt = y.toInt; omega, by unfold eg_eq; rw [if_neg (by show ¬ x.toInt < y.toInt; omega), if_neg (by show ¬ y.toInt < x.toInt; omega), if_pos ⟨rfl, rfl, heq⟩]⟩
    · exact Or.inr ⟨by show x.toInt = y.toInt; omega, by unfold eg_eq; rw [if_neg (by show ¬ x.toInt < y.toInt; omega), if_neg (by show ¬ y.toInt < x.toInt; omega), if_pos ⟨rfl, rfl, heq⟩]; rfl⟩
    · exact Or.inr ⟨by show y.toInt ≤ x.toInt; omega, by simp only [eg_lt]; rw [if_neg (by omega), if_pos (by omega)]⟩
    · exact Or.inl ⟨by show y.toInt ≤ x.toInt; omega, by simp only [eg_lt]; rw [if_neg (by omega), if_pos (by omega)]; rfl⟩
    · exact Or.inr ⟨by show x.toInt ≤ y.toInt; omega, by simp only [eg_lt]; rw [if_neg (by omega), if_pos (by omega)]⟩
    · exact Or.inl ⟨by show x.toInt ≤ y.toInt; omega, by simp only [eg_lt]; rw [if_neg (by omega), if_pos (by omega)]; rfl⟩
  · cases c
    · exact Or.inr ⟨by show x.toInt ≠ y.toInt; omega, by simp only [eg_eq]; rw [if_neg (by omega), if_pos (by omega)]⟩
    · exact Or.inl ⟨by show x.toInt ≠ y.toInt; omega, by simp only [eg_eq]; rw [if_neg (by omega), if_pos (by omega)]; rfl⟩
    · exact Or.inr ⟨by show y.toInt ≤ x.toInt; omega, by simp only [eg_lt]; rw [if_neg (by omega), if_pos (by omega)]⟩
    · exact Or.inl ⟨by show y.toInt ≤ x.toInt; omega, by simp only [eg_lt]; rw [if_neg (by omega), if_pos (by omega)]; rfl⟩
    · exact Or.inl ⟨by show y.toInt < x.toInt; omega, by simp only [eg_lt]; rw [if_pos (by omega)]⟩
    · exact Or.inr ⟨by show y.toInt < x.toInt; omega, by simp only [eg_lt]; rw [if_pos (by omega)]; rfl⟩
theorem hs_if {cd : ClassFile.Cond} {off : Int} {t : Nat} {x : Int32} (c : ab_at u pc (.ifCond cd off) 3 = true) (ht : eg_tgt pc off = some t) (n1 : hs_cd cd x.toInt 0 → hs sc sp u o dq K t ls st h) (n2 : hs_cd (ab_not cd) x.toInt 0 → hs sc sp u o dq K (pc + 3) ls st h) : hs sc sp u o dq K pc ls (.int x :: st) h := by
  have hG : eg_hd [] sc u o pc (.ifCond cd off) 3 = some (eg_if [] cd t) := by simp only [eg_hd, eg_lok, Nat.beq_refl, eg_hd0, ht, Option.map]
  rcases hs_cmp cd x 0 with ⟨h1, h2⟩ | ⟨h1, h2⟩
  · exact hs_j c hG (by simp only [eg_if, h2]) (n1 h1)
  · exact hs_s c hG (by simp only [eg_if, h2]) (n2 h1)
theorem hs_ic {cd : ClassFile.Cond} {off : Int} {t : Nat} {x y : Int32} (c : ab_at u pc (.if_icmp cd off) 3 = true) (ht : eg_tgt pc off = some t) (n1 : hs_cd cd x.toInt y.toInt → hs sc sp u o dq K t ls st h) (n2 : hs_cd (ab_not cd) x.toInt y.toInt → hs sc sp u o dq K (pc + 3) ls st h) : hs sc sp u o dq K pc ls (.int y :: .int x :: st) h := by
  have hG : eg_hd [] sc u o pc (.if_icmp cd off) 3 = some (eg_ic [] cd t) := by simp only [eg_hd, eg_lok, Nat.beq_refl, eg_hd0, ht, Option.map]
  rcases hs_cmp cd x y with ⟨h1, h2⟩ | ⟨h1, h2⟩
  · exact hs_j c hG (by simp only [eg_ic, h2]) (n1 h1)
  · exact hs_s c hG (by simp only [eg_ic, h2]) (n2 h1)
end HS
