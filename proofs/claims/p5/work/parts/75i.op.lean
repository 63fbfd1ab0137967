/-! BY HAND: the class opens a text: its row of tokens -/
theorem ci_692_0 : ab_at 692 0 (.aload_n 0) 1 = true := by decide +kernel
theorem ci_692_1 : ab_at 692 1 (.iconst 0) 1 = true := by decide +kernel
theorem ci_692_2 : ab_at 692 2 (.putfield 25) 3 = true := by decide +kernel
theorem ci_692_5 : ab_at 692 5 (.aload_n 0) 1 = true := by decide +kernel
theorem ci_692_6 : ab_at 692 6 (.iconst 0) 1 = true := by decide +kernel
theorem ci_692_7 : ab_at 692 7 (.putfield 29) 3 = true := by decide +kernel
theorem ci_692_10 : ab_at 692 10 (.aload_n 0) 1 = true := by decide +kernel
theorem ci_692_11 : ab_at 692 11 (.iconst 0) 1 = true := by decide +kernel
theorem ci_692_12 : ab_at 692 12 (.putfield 35) 3 = true := by decide +kernel
theorem ci_692_15 : ab_at 692 15 (.aload_n 0) 1 = true := by decide +kernel
theorem ci_692_16 : ab_at 692 16 (.iconst 0) 1 = true := by decide +kernel
theorem ci_692_17 : ab_at 692 17 (.putfield 38) 3 = true := by decide +kernel
theorem ci_692_20 : ab_at 692 20 (.aload_n 0) 1 = true := by decide +kernel
theorem ci_692_21 : ab_at 692 21 (.getfield 48) 3 = true := by decide +kernel
theorem ci_692_24 : ab_at 692 24 (.getfield 68) 3 = true := by decide +kernel
theorem ci_692_27 : ab_at 692 27 (.iload_n 1) 1 = true := by decide +kernel
theorem ci_692_28 : ab_at 692 28 (.invokestatic 72) 3 = true := by decide +kernel
theorem ci_692_31 : ab_at 692 31 (.istore_n 2) 1 = true := by decide +kernel
theorem ci_692_32 : ab_at 692 32 (.iconst 0) 1 = true := by decide +kernel
theorem ci_692_33 : ab_at 692 33 (.istore_n 3) 1 = true := by decide +kernel
theorem ci_692_34 : ab_at 692 34 (.iconst 0) 1 = true := by decide +kernel
theorem ci_692_35 : ab_at 692 35 (.istore 4) 2 = true := by decide +kernel
theorem ci_692_37 : ab_at 692 37 (.iload 4) 2 = true := by decide +kernel
theorem ci_692_39 : ab_at 692 39 (.sipush 940) 3 = true := by decide +kernel
theorem ci_692_42 : ab_at 692 42 (.if_icmp .ge 80) 3 = true := by decide +kernel
theorem ci_692_45 : ab_at 692 45 (.iload_n 3) 1 = true := by decide +kernel
theorem ci_692_46 : ab_at 692 46 (.iload_n 2) 1 = true := by decide +kernel
theorem ci_692_47 : ab_at 692 47 (.if_icmp .ge 75) 3 = true := by decide +kernel
theorem ci_692_50 : ab_at 692 50 (.aload_n 0) 1 = true := by decide +kernel
theorem ci_692_51 : ab_at 692 51 (.getfield 48) 3 = true := by decide +kernel
theorem ci_692_54 : ab_at 692 54 (.iload_n 3) 1 = true := by decide +kernel
theorem ci_692_55 : ab_at 692 55 (.invokevirtual 78) 3 = true := by decide +kernel
theorem ci_692_58 : ab_at 692 58 (.istore 5) 2 = true := by decide +kernel
theorem ci_692_60 : ab_at 692 60 (.iload 5) 2 = true := by decide +kernel
theorem ci_692_62 : ab_at 692 62 (.invokestatic 82) 3 = true := by decide +kernel
theorem ci_692_65 : ab_at 692 65 (.ifCond .ne 11) 3 = true := by decide +kernel
theorem ci_692_68 : ab_at 692 68 (.iload 5) 2 = true := by decide +kernel
theorem ci_692_70 : ab_at 692 70 (.invokestatic 86) 3 = true := by decide +kernel
theorem ci_692_73 : ab_at 692 73 (.ifCond .eq 12) 3 = true := by decide +kernel
theorem ci_692_76 : ab_at 692 76 (.aload_n 0) 1 = true := by decide +kernel
theorem ci_692_77 : ab_at 692 77 (.iload_n 3) 1 = true := by decide +kernel
theorem ci_692_78 : ab_at 692 78 (.invokevirtual 89) 3 = true := by decide +kernel
theorem ci_692_81 : ab_at 692 81 (.istore_n 3) 1 = true := by decide +kernel
theorem ci_692_82 : ab_at 692 82 (.goto 34) 3 = true := by decide +kernel
theorem ci_692_85 : ab_at 692 85 (.iload 5) 2 = true := by decide +kernel
theorem ci_692_87 : ab_at 692 87 (.invokestatic 92) 3 = true := by decide +kernel
theorem ci_692_90 : ab_at 692 90 (.ifCond .ne 23) 3 = true := by decide +kernel
theorem ci_692_93 : ab_at 692 93 (.aload_n 0) 1 = true := by decide +kernel
theorem ci_692_94 : ab_at 692 94 (.iload 5) 2 = true := by decide +kernel
theorem ci_692_96 : ab_at 692 96 (.invokestatic 95) 3 = true := by decide +kernel
theorem ci_692_99 : ab_at 692 99 (.ifCond .eq 8) 3 = true := by decide +kernel
theorem ci_692_102 : ab_at 692 102 (.iload 5) 2 = true := by decide +kernel
theorem ci_692_104 : ab_at 692 104 (.goto 4) 3 = true := by decide +kernel
theorem ci_692_107 : ab_at 692 107 (.iconst 3) 1 = true := by decide +kernel
theorem ci_692_108 : ab_at 692 108 (.iload_n 3) 1 = true := by decide +kernel
theorem ci_692_109 : ab_at 692 109 (.lconst 0) 1 = true := by decide +kernel
theorem ci_692_110 : ab_at 692 110 (.invokevirtual 98) 3 = true := by decide +kernel
theorem ci_692_113 : ab_at 692 113 (.iinc 3 1) 3 = true := by decide +kernel
theorem ci_692_116 : ab_at 692 116 (.iinc 4 1) 3 = true := by decide +kernel
theorem ci_692_119 : ab_at 692 119 (.goto (-82)) 3 = true := by decide +kernel
theorem ci_692_122 : ab_at 692 122 (.aload_n 0) 1 = true := by decide +kernel
theorem ci_692_123 : ab_at 692 123 (.aload_n 0) 1 = true := by decide +kernel
theorem ci_692_124 : ab_at 692 124 (.getfield 48) 3 = true := by decide +kernel
theorem ci_692_127 : ab_at 692 127 (.getfield 68) 3 = true := by decide +kernel
theorem ci_692_130 : ab_at 692 130 (.iload_n 1) 1 = true := by decide +kernel
theorem ci_692_131 : ab_at 692 131 (.if_icmp .le 7) 3 = true := by decide +kernel
theorem ci_692_134 : ab_at 692 134 (.iconst 3) 1 = true := by decide +kernel
theorem ci_692_135 : ab_at 692 135 (.goto 4) 3 = true := by decide +kernel
theorem ci_692_138 : ab_at 692 138 (.iconst 0) 1 = true := by decide +kernel
theorem ci_692_139 : ab_at 692 139 (.iload_n 2) 1 = true := by decide +kernel
theorem ci_692_140 : ab_at 692 140 (.lconst 0) 1 = true := by decide +kernel
theorem ci_692_141 : ab_at 692 141 (.invokevirtual 98) 3 = true := by decide +kernel
theorem ml_709 : (eg_md 709).2.2.1 = 10 := by decide +kernel
theorem ml_721 : (eg_md 721).2.2.1 = 1 := by decide +kernel
theorem ml_724 : (eg_md 724).2.2.1 = 1 := by decide +kernel
theorem kS_940 : (Int16.ofInt (940)).toInt32.toInt = 940 := by decide +kernel
def ck_min (o k : Nat) : Bool := match eg_at o eg_cx k with
  | some (5, _) => true
  | _ => false
theorem hs_min {sc : List Value} {sp u o d pc : Nat} {K : Nat → eg_L → List Value → eg_H → Prop} {ls : eg_L} {st : List Value} {h : eg_H} {k : Nat} {x y : Int32} (c : ab_at u pc (.invokestatic k) 3 = true) (ck : ck_min o k = true) (hcat : Nat.ble (eg_cat (.int y :: .int x :: st)) 8 = true) (n : ∀ z : Int32, (z.toInt = x.toInt ∧ x.toInt ≤ y.toInt) ∨ (z.toInt = y.toInt ∧ y.toInt < x.toInt) → hs sc sp u o (d + 1) K (pc + 3) ls (.int z :: st) h) : hs sc sp u o (d + 1) K pc ls (.int y :: .int x :: st) h := by
  obtain ⟨hu, hs0⟩ := ab_at_v c
  have hz : ((if y < x then y else x).toInt = x.toInt ∧ x.toInt ≤ y.toInt) ∨ ((if y < x then y else x).toInt = y.toInt ∧ y.toInt < x.toInt) := by
    by_cases e : y < x
    · rw [if_pos e]
      exact Or.inr ⟨rfl, Int32.lt_iff_toInt_lt.mp e⟩
    · rw [if_neg e]
      have : ¬ y.toInt < x.toInt := fun q => e (Int32.lt_iff_toInt_lt.mpr q)
      exact Or.inl ⟨rfl, by omega⟩
  refine (n _ hz).pre ?_
  intro r hr
  unfold ck_min at ck
  split at ck
  next e ha =>
    refine ab_Re_call hs0 (by rw [hu, Bool.and_false]) rfl rfl rfl ?_
    obtain ⟨m2, hm2⟩ := hr
    refine ⟨m2, ?_⟩
    have e1 : Nat.ble 4 5 = true := rfl
    have e2 : Nat.ble 1 (d + 1) = true := Nat.ble_eq.mpr (by omega)
    simp only [eg_call, ha, e1, e2, hcat, Bool.and_self, cond_true, Nat.beq_refl, eg_ni_e]
    exact hm2
  next => cases ck
/-- a text's tokens told so far: from which place, what, where -/
def tx_S (B : Nat → Int) (n lim : Nat) (h : eg_H) (m : Nat) (P : Nat → Nat) (tk : Nat → tx_K) (ta : Nat → Nat) : Prop := P 0 = 0 ∧ ∀ t, t < m → tx_X B n lim (P t) (tk t) (ta t) (P (t + 1)) ∧ en_C h t (tk t) (ta t)
theorem en_C.same {h h' : eg_H} {j a : Nat} {t : tx_K} (e : en_C h j t a) (e5 : ab_slot h' 5 j = ab_slot h 5 j) (e6 : ab_slot h' 6 j = ab_slot h 6 j) (e7 : ab_slot h' 7 j = ab_slot h 7 j) (e4 : ∀ k, hl h' 4 k = hl h 4 k) : en_C h' j t a := by
  have a5 := hv_same e5
  have a6 := hv_same e6
  have a7 := hl_same e7
  unfold en_C at e ⊢
  rw [a5, a6, a7]
  refine ⟨e.1, ?_⟩
  have e2 := e.2
  split at e2
  · exact e2
  · exact e2
  · exact e2
  · exact e2
  · refine ⟨e2.1, e2.2.1, ?_⟩
    rcases e2.2.2 with ⟨k, k1, k2, k3⟩ | ⟨k1, k2⟩
    · exact Or.inl ⟨k, k1, k2, (e4 k).trans k3⟩
    · exact Or.inr ⟨k1, fun j hj => by rw [e4]; exact k2 j hj⟩
theorem tx_S.more {B : Nat → Int} {n lim : Nat} {h h' : eg_H} {m : Nat} {P : Nat → Nat} {tk : Nat → tx_K} {ta : Nat → Nat} (s : tx_S B n lim h m P tk ta) {t : tx_K} {a p' : Nat} (hx : tx_X B n lim (P m) t a p') (hn : en_C h' m t a) (hk : ∀ b j, b = 5 ∨ b = 6 ∨ b = 7 → j ≠ m → ab_slot h' b j = ab_slot h b j) (e4 : ∀ k, hl h' 4 k = hl h 4 k) : tx_S B n lim h' (m + 1) (fun j => if j = m + 1 then p' else P j) (fun j => if j = m then t else tk j) (fun j => if j = m then a else ta j) := by
  obtain ⟨s1, s2⟩ := s
  refine ⟨by simp only; rw [if_neg (by omega)]; exact s1, fun j hj => ?_⟩
  simp only
  by_cases e : j = m
  · subst e
    rw [if_pos rfl, if_pos rfl, if_pos rfl, if_neg (by omega)]
    exact ⟨hx, hn⟩
  · obtain ⟨x1, x2⟩ := s2 j (by omega)
    rw [if_neg e, if_neg e, if_neg (by omega), if_neg (by omega)]
    exact ⟨x1, x2.same (hk 5 j (Or.inl rfl) e) (hk 6 j (Or.inr (Or.inl rfl)) e) (hk 7 j (Or.inr (Or.inr rfl)) e) e4⟩
theorem sk_ex {B : Nat → Int} {n : Nat} : ∀ (m p : Nat), p + m = n → ∃ q, tx_sk B n p q
  | 0, p, h => ⟨p, Nat.le_refl _, by omega, fun r h1 h2 => by omega, fun h1 => by omega⟩
  | m + 1, p, h => by
    by_cases e : tx_b (B p)
    · obtain ⟨q, q1, q2, q3, q4⟩ := sk_ex (B := B) (n := n) m (p + 1) (by omega)
      refine ⟨q, by omega, q2, fun r h1 h2 => ?_, q4⟩
      by_cases e2 : r = p
      · rw [e2]; exact e
      · exact q3 r (by omega) h2
    · exact ⟨p, Nat.le_refl _, by omega, fun r h1 h2 => by omega, fun _ => e⟩
/-- the whole row: what every advance comes to; the last one stays -/
def tx_T (B : Nat → Int) (n lim : Nat) (h : eg_H) (P : Nat → Nat) (tk : Nat → tx_K) (ta : Nat → Nat) : Prop := ∃ m : Nat, 1 ≤ m ∧ m ≤ 941 ∧ (hv h 3 5).toInt = (m : Int) ∧ P 0 = 0 ∧ (∀ t, tx_X B n lim (P t) (tk t) (ta t) (P (t + 1))) ∧ (∀ t, t < m → en_C h t (tk t) (ta t)) ∧ ∀ t, m ≤ t → tk t = tk (m - 1) ∧ ta t = ta (m - 1)
theorem tx_S.all {B : Nat → Int} {n lim : Nat} {h : eg_H} {m : Nat} {P : Nat → Nat} {tk : Nat → tx_K} {ta : Nat → Nat} (s : tx_S B n lim h (m + 1) P tk ta) (hm : m + 1 ≤ 941) (he : (hv h 3 5).toInt = ((m + 1 : Nat) : Int)) (hl : tx_X B n lim (P (m + 1)) (tk m) (ta m) (P (m + 1))) : tx_T B n lim h (fun j => P (min j (m + 1))) (fun j => tk (min j m)) (fun j => ta (min j m)) := by
  obtain ⟨s1, s2⟩ := s
  refine ⟨m + 1, by omega, hm, he, ?_, fun t => ?_, fun t ht => ?_, fun t ht => ?_⟩
  · simp only [Nat.zero_min]; exact s1
  · simp only
    by_cases e : t < m + 1
    · have a1 : min t (m + 1) = t := by omega
      have a2 : min t m = t := by omega
      have a3 : min (t + 1) (m + 1) = t + 1 := by omega
      rw [a1, a2, a3]
      exact (s2 t e).1
    · have a1 : min t (m + 1) = m + 1 := by omega
      have a2 : min t m = m := by omega
      have a3 : min (t + 1) (m + 1) = m + 1 := by omega
      rw [a1, a2, a3]
      exact hl
  · simp only
    have a2 : min t m = t := by omega
    rw [a2]
    exact (s2 t ht).2
  · simp only
    have a2 : min t m = m := by omega
    have a3 : min (m + 1 - 1) m = m := by omega
    rw [a2, a3]
    exact ⟨rfl, rfl⟩
abbrev MOP : ab_M := [(3, 5, 6), (3, 8, 9), (5, 0, 940), (6, 0, 940), (7, 0, 940)]
theorem op_sub {h h' : eg_H} (f : ab_fr MAT h' h) : ab_fr MOP h' h := fr_sub (by decide +kernel) f
theorem bA_fr {h h' : eg_H} (f : ab_fr MOP h' h) : bA h' = bA h := funext (fun k => by unfold bA; rw [hv_same (f 2 k rfl)])
/-- ahead of the place pl -/
def op_I (h h1 : eg_H) (lim pl : Nat) : Prop := ab_hp h1 ∧ ab_fr MOP h1 h ∧ (hv h1 3 6).toInt = 0 ∧ (hv h1 3 8).toInt = 0 ∧ ∃ (m : Nat) (P : Nat → Nat) (tk : Nat → tx_K) (ta : Nat → Nat), (hv h1 3 5).toInt = (m : Int) ∧ m ≤ P m ∧ P m ≤ pl ∧ (∀ r, P m ≤ r → r < pl → tx_b (bA h r)) ∧ tx_S (bA h) (hv h 1 1).toInt.toNat lim h1 m P tk ta
theorem op_len {h h' : eg_H} (f : ab_fr MOP h' h) : hv h' 1 1 = hv h 1 1 := hv_same (f 1 1 rfl)
theorem op_add {h h1 h9 : eg_H} {lim pl p' : Nat} {t : tx_K} (o : op_I h h1 lim pl) (hx : ∀ p0, p0 ≤ pl → (∀ r, p0 ≤ r → r < pl → tx_b (bA h r)) → tx_X (bA h) (hv h 1 1).toInt.toNat lim p0 t pl p') (hp' : pl < p') (y3 : ab_hp h9) (y4 : ab_fr MAT h9 h1) (y5 : ∀ b j, b = 5 ∨ b = 6 ∨ b = 7 → j ≠ (hv h1 3 5).toInt.toNat → ab_slot h9 b j = ab_slot h1 b j) (y6 : en_C h9 (hv h1 3 5).toInt.toNat t pl) (y7 : (hv h9 3 5).toInt = (hv h1 3 5).toInt + 1) : op_I h h9 lim p' := by
  obtain ⟨o1, o2, o3, o4, m, P, tk, ta, om, oP1, oP2, ob, os⟩ := o
  have em : (hv h1 3 5).toInt.toNat = m := by omega
  rw [em] at y5 y6
  refine ⟨y3, (op_sub y4).tr o2, by rw [hv_same (y4 3 6 rfl)]; exact o3, by rw [hv_same (y4 3 8 rfl)]; exact o4, m + 1, _, _, _, by rw [y7, om]; rfl, ?_, ?_, ?_, os.more (hx (P m) oP2 ob) y6 y5 (fun k => hl_same (y4 4 k rfl))⟩
  · simp only
    rw [if_pos trivial]
    omega
  · simp only
    rw [if_pos trivial]
    exact Nat.le_refl _
  · simp only
    rw [if_pos trivial]
    intro r h1 h2
    omega
theorem op_blank {h h1 : eg_H} {lim pl : Nat} (o : op_I h h1 lim pl) (hb : tx_b (bA h pl)) : op_I h h1 lim (pl + 1) := by
  obtain ⟨o1, o2, o3, o4, m, P, tk, ta, om, oP1, oP2, ob, os⟩ := o
  refine ⟨o1, o2, o3, o4, m, P, tk, ta, om, oP1, by omega, fun r h1 h2 => ?_, os⟩
  by_cases e : r = pl
  · rw [e]; exact hb
  · exact ob r h1 (by omega)
theorem tx_rb {c : Int} (h : tx_r c) : ¬ tx_b c := by
  intro g
  rcases h with ⟨a, b⟩ | ⟨a, b⟩ <;> rcases g with g | g <;> omega
theorem op_run {h h1 h9 : eg_H} {lim pl e : Nat} {t : tx_K} (o : op_I h h1 lim pl) (hpl : pl < (hv h 1 1).toInt.toNat) (hlim : pl < lim) (hr : tx_r (bA h pl)) (y1 : tx_ru (bA h1) (hv h1 1 1).toInt.toNat pl e) (y2 : tx_rt (bA h1) pl e t) (y3 : ab_hp h9) (y4 : ab_fr MAT h9 h1) (y5 : ∀ b j, b = 5 ∨ b = 6 ∨ b = 7 → j ≠ (hv h1 3 5).toInt.toNat → ab_slot h9 b j = ab_slot h1 b j) (y6 : en_C h9 (hv h1 3 5).toInt.toNat t pl) (y7 : (hv h9 3 5).toInt = (hv h1 3 5).toInt + 1) : op_I h h9 lim e := by
  have eB := bA_fr o.2.1
  have eN := op_len o.2.1
  rw [eB, eN] at y1
  rw [eB] at y2
  exact op_add o (fun p0 a1 a2 => ⟨pl, ⟨a1, by omega, a2, fun _ => tx_rb hr⟩, Or.inr (Or.inr (Or.inr ⟨by omega, hpl, hr, y1, y2, rfl⟩))⟩) y1.1 y3 y4 y5 y6 y7
theorem op_one {h h1 h9 : eg_H} {lim pl : Nat} {k p : Int32} {v : Int64} (o : op_I h h1 lim pl) (hpl : pl < (hv h 1 1).toInt.toNat) (hlim : pl < lim) (hr : ¬ tx_r (bA h pl)) (hb : ¬ tx_b (bA h pl)) (hp : p.toInt = (pl : Int)) (hk : (tx_s (bA h pl) ∧ k.toInt = bA h pl) ∨ (¬ tx_s (bA h pl) ∧ k.toInt = 3)) (y3 : ab_hp h9) (y4 : ab_fr MAT h9 h1) (y5 : ∀ b j, b = 5 ∨ b = 6 ∨ b = 7 → j ≠ (hv h1 3 5).toInt.toNat → ab_slot h9 b j = ab_slot h1 b j) (a4 : hv h9 5 (hv h1 3 5).toInt.toNat = k) (a5 : hv h9 6 (hv h1 3 5).toInt.toNat = p) (y7 : (hv h9 3 5).toInt = (hv h1 3 5).toInt + 1) : op_I h h9 lim (pl + 1) := by
  rcases hk with ⟨k1, k2⟩ | ⟨k1, k2⟩
  · exact op_add (t := tx_sg (bA h pl)) o (fun p0 a1 a2 => ⟨pl, ⟨a1, by omega, a2, fun _ => hb⟩, Or.inr (Or.inr (Or.inl ⟨by omega, hpl, hr, Or.inl ⟨k1, rfl⟩, rfl, rfl⟩))⟩) (by omega) y3 y4 y5 ⟨by rw [a5]; exact hp, by rw [a4]; exact k2, k1⟩ y7
  · exact op_add (t := tx_no) o (fun p0 a1 a2 => ⟨pl, ⟨a1, by omega, a2, fun _ => hb⟩, Or.inr (Or.inr (Or.inl ⟨by omega, hpl, hr, Or.inr ⟨k1, rfl⟩, rfl, rfl⟩))⟩) (by omega) y3 y4 y5 ⟨by rw [a5]; exact hp, by show (hv h9 5 _).toInt = 3; rw [a4]; exact k2⟩ y7
/-- the last token -/
def op_P (h : eg_H) (lim : Nat) (vo : Option Value) (h' : eg_H) : Prop := vo = none ∧ ab_hp h' ∧ ab_fr MOP h' h ∧ (hv h' 3 6).toInt = 0 ∧ (hv h' 3 8).toInt = 0 ∧ ∃ (P : Nat → Nat) (tk : Nat → tx_K) (ta : Nat → Nat), tx_T (bA h) (hv h 1 1).toInt.toNat lim h' P tk ta
theorem op_fin {h h1 h9 : eg_H} {lim pl : Nat} {k p : Int32} {v : Int64} (o : op_I h h1 lim pl) (hn : pl ≤ (hv h 1 1).toInt.toNat) (h940 : lim ≤ 940) (hk : (lim < (hv h 1 1).toInt.toNat ∧ lim ≤ pl ∧ k.toInt = 3 ∧ p.toInt = (lim : Int)) ∨ (¬ lim < (hv h 1 1).toInt.toNat ∧ pl = (hv h 1 1).toInt.toNat ∧ k.toInt = 0 ∧ p.toInt = (pl : Int))) (hN : (hv h 1 1).toInt.toNat ≤ 940) (y : at_P h1 k p v none h9) : op_P h lim none h9 := by
  obtain ⟨o1, o2, o3, o4, m, P, tk, ta, om, oP1, oP2, ob, os⟩ := o
  obtain ⟨-, y3, y4, y5, a4, a5, a6, y7⟩ := y
  have em : (hv h1 3 5).toInt.toNat = m := by omega
  rw [em] at y5 a4 a5 a6
  refine ⟨rfl, y3, (op_sub y4).tr o2, by rw [hv_same (y4 3 6 rfl)]; exact o3, by rw [hv_same (y4 3 8 rfl)]; exact o4, ?_⟩
  have e4 : ∀ k, hl h9 4 k = hl h1 4 k := fun k => hl_same (y4 4 k rfl)
  have e7 : (hv h9 3 5).toInt = ((m + 1 : Nat) : Int) := by rw [y7, om]; rfl
  rcases hk with ⟨k1, k2, k3, k4⟩ | ⟨k1, k2, k3, k4⟩
  · obtain ⟨q, hq⟩ := sk_ex (B := bA h) (n := (hv h 1 1).toInt.toNat) ((hv h 1 1).toInt.toNat - P m) (P m) (by omega)
    have hql : pl ≤ q := by
      obtain ⟨q1, q2, q3, q4⟩ := hq
      rcases Nat.lt_or_ge q pl with g | g
      · exact absurd (ob q q1 g) (q4 (by omega))
      · exact g
    have hqq : tx_sk (bA h) (hv h 1 1).toInt.toNat q q := ⟨Nat.le_refl _, hq.2.1, fun r h1 h2 => by omega, hq.2.2.2⟩
    have s2 := os.more (h' := h9) (t := tx_no) (a := lim) (p' := q) ⟨q, hq, Or.inl ⟨k1, by omega, rfl, rfl, rfl⟩⟩ ⟨by rw [a5]; exact k4, by show (hv h9 5 _).toInt = 3; rw [a4]; exact k3⟩ y5 e4
    refine ⟨_, _, _, s2.all (by omega) e7 ?_⟩
    simp only
    rw [if_pos trivial, if_pos trivial, if_pos trivial]
    exact ⟨q, hqq, Or.inl ⟨k1, by omega, rfl, rfl, rfl⟩⟩
  · have hq : tx_sk (bA h) (hv h 1 1).toInt.toNat (P m) pl := ⟨oP2, hn, ob, fun g => by omega⟩
    have hqq : tx_sk (bA h) (hv h 1 1).toInt.toNat pl pl := ⟨Nat.le_refl _, hn, fun r h1 h2 => by omega, fun g => by omega⟩
    have s2 := os.more (h' := h9) (t := tx_stop) (a := pl) (p' := pl) ⟨pl, hq, Or.inr (Or.inl ⟨by omega, k2, rfl, rfl, rfl⟩)⟩ ⟨by rw [a5]; exact k4, by show (hv h9 5 _).toInt = 0; rw [a4]; exact k3⟩ y5 e4
    refine ⟨_, _, _, s2.all (by omega) e7 ?_⟩
    simp only
    rw [if_pos trivial, if_pos trivial, if_pos trivial]
    exact ⟨pl, hqq, Or.inr (Or.inl ⟨by omega, k2, rfl, rfl, rfl⟩)⟩
def op_E (h : eg_H) (lim : Nat) (xl xb : Int32) (pc' : Nat) (ls' : eg_L) (st' : List Value) (h' : eg_H) : Prop := pc' = 122 ∧ st' = [] ∧ eg_find 0 ls' = some (.ref 3) ∧ eg_find 1 ls' = some (.int xl) ∧ eg_find 2 ls' = some (.int xb) ∧ ∃ pl : Nat, op_I h h' lim pl ∧ xb.toInt ≤ (pl : Int) ∧ pl ≤ (hv h 1 1).toInt.toNat
theorem op_loop {sc : List Value} {sp d : Nat} {h : eg_H} {lim : Nat} {xl xb : Int32} (hq : ab_hp h) (hxb : xb.toInt ≤ (hv h 1 1).toInt) (hxl : xb.toInt ≤ (lim : Int)) : ∀ (mm pl k : Nat) (xp xk : Int32) (ls : eg_L) (h1 : eg_H), (hv h 1 1).toInt ≤ (pl : Int) + (mm : Int) → k ≤ pl → (pl : Int) ≤ (hv h 1 1).toInt → xp.toInt = (pl : Int) → xk.toInt = (k : Int) → op_I h h1 lim pl → eg_find 0 ls = some (.ref 3) → eg_find 1 ls = some (.int xl) → eg_find 2 ls = some (.int xb) → eg_find 3 ls = some (.int xp) → eg_find 4 ls = some (.int xk) → hs sc sp 692 8 (d + 1 + 1) (op_E h lim xl xb) 37 ls [] h1 := by
  obtain ⟨-, n2, n3⟩ := sb_v (a := 1) (k := 1) (lo := .ofNat 0) (hi := .ofNat 940) hq (by decide +kernel)
  have n2 : (0 : Int) ≤ (hv h 1 1).toInt := n2
  have n3 : (hv h 1 1).toInt ≤ (940 : Int) := n3
  intro mm
  induction mm with
  | zero =>
    intro pl k xp xk ls h1 hmm hk hpl hxp hxk ho l0 l1 l2 l3 l4
    have hp := ho.1.1
    refine hs_iload ci_692_37 l4 ?_
    refine hs_sipush ci_692_39 ?_
    refine hs_ic (t := 122) ci_692_42 rfl (fun b42 => ?_) (fun b42 => ?_)
    · simp only [hs_cd, ab_not, kS_940] at b42
      exact hs_k ⟨rfl, rfl, l0, l1, l2, pl, ho, by omega, by omega⟩
    · simp only [hs_cd, ab_not, kS_940] at b42
      refine hs_iload_n ci_692_45 l3 ?_
      refine hs_iload_n ci_692_46 l2 ?_
      refine hs_ic (t := 122) ci_692_47 rfl (fun b47 => ?_) (fun b47 => ?_)
      · simp only [hs_cd, ab_not] at b47
        exact hs_k ⟨rfl, rfl, l0, l1, l2, pl, ho, by omega, by omega⟩
      · simp only [hs_cd, ab_not] at b47
        omega
  | succ mm ih =>
    intro pl k xp xk ls h1 hmm hk hpl hxp hxk ho l0 l1 l2 l3 l4
    have hp := ho.1.1
    have o1 := ho.1
    have eB := bA_fr ho.2.1
    have eN := op_len ho.2.1
    refine hs_iload ci_692_37 l4 ?_
    refine hs_sipush ci_692_39 ?_
    refine hs_ic (t := 122) ci_692_42 rfl (fun b42 => ?_) (fun b42 => ?_)
    · simp only [hs_cd, ab_not, kS_940] at b42
      exact hs_k ⟨rfl, rfl, l0, l1, l2, pl, ho, by omega, by omega⟩
    · simp only [hs_cd, ab_not, kS_940] at b42
      refine hs_iload_n ci_692_45 l3 ?_
      refine hs_iload_n ci_692_46 l2 ?_
      refine hs_ic (t := 122) ci_692_47 rfl (fun b47 => ?_) (fun b47 => ?_)
      · simp only [hs_cd, ab_not] at b47
        exact hs_k ⟨rfl, rfl, l0, l1, l2, pl, ho, by omega, by omega⟩
      · simp only [hs_cd, ab_not] at b47
        refine hs_aload_n ci_692_50 l0 ?_
        refine hs_gfr 0 1 ci_692_51 (by decide +kernel) hp ?_
        refine hs_iload_n ci_692_54 l3 ?_
        refine hs_cv 699 7 1 ci_692_55 (by decide +kernel) (by decide +kernel) hp rfl (by rw [ml_699]; rfl) (k_byte xp o1) ?_
        rintro v9 h9 ⟨e9, xc, e8, hb⟩
        rw [e8, e9]
        clear e8 e9 v9 h9
        have hxc : xc.toInt = bA h pl := by
          rcases hb with ⟨-, -, g⟩ | ⟨g, -⟩
          · have e7 : xp.toInt.toNat = pl := by omega
            rw [g, e7, eB]
          · rw [eN] at g
            omega
        have hm941 : (hv h1 3 5).toInt < 941 := by
          obtain ⟨-, -, -, -, m, P, tk, ta, om, oP1, oP2, -⟩ := ho
          omega
        simp only [Option.toList, List.cons_append, List.nil_append]
        refine hs_istore2 ci_692_58 (by decide +kernel) ?_
        intro ls9 q9
        replace l0 := q9.2 0 _ (by decide) (Or.inl rfl) l0
        replace l1 := q9.2 1 _ (by decide) (Or.inl rfl) l1
        replace l2 := q9.2 2 _ (by decide) (Or.inl rfl) l2
        replace l3 := q9.2 3 _ (by decide) (Or.inl rfl) l3
        replace l4 := q9.2 4 _ (by decide) (Or.inl rfl) l4
        have l5 := q9.1
        clear q9
        refine hs_iload ci_692_60 l5 ?_
        refine hs_cs 702 8 1 ci_692_62 (by decide +kernel) rfl (by rw [ml_702]; rfl) (k_isL xc) ?_
        rintro v9 h9 ⟨e9, r1, e8, hr1⟩
        rw [e8, e9]
        clear e8 e9 v9 h9
        simp only [Option.toList, List.cons_append, List.nil_append]
        refine hs_if (t := 76) ci_692_65 rfl (fun b65 => ?_) (fun b65 => ?_)
        · simp only [hs_cd, ab_not] at b65
          refine hs_aload_n ci_692_76 l0 ?_
          refine hs_iload_n ci_692_77 l3 ?_
          have hrun : tx_r (bA h pl) := by
            rcases hr1 with ⟨-, q2⟩ | ⟨q1, -⟩
            · rw [hxc] at q2
              exact Or.inl q2
            · omega
          refine hs_cv 709 8 1 ci_692_78 (by decide +kernel) (by decide +kernel) hp rfl (by rw [ml_709]; rfl) (k_run (q := pl) o1 hxp (by rw [eN]; omega) (by rw [eB]; exact hrun) hm941) ?_
          rintro v9 h9 ⟨e, r5, t, e8, hr5, y1, y2, y3, y4, y5, y6, y7⟩
          rw [e8]
          clear e8 v9
          replace hp := y3.1
          simp only [Option.toList, List.cons_append, List.nil_append]
          refine hs_istore2_n ci_692_81 (by decide +kernel) ?_
          intro ls9 q9
          replace l0 := q9.2 0 _ (by decide) (Or.inl rfl) l0
          replace l1 := q9.2 1 _ (by decide) (Or.inl rfl) l1
          replace l2 := q9.2 2 _ (by decide) (Or.inl rfl) l2
          replace l4 := q9.2 4 _ (by decide) (Or.inl rfl) l4
          replace l5 := q9.2 5 _ (by decide) (Or.inl rfl) l5
          have l3 := q9.1
          clear q9
          refine hs_goto (t := 116) ci_692_82 rfl ?_
          refine hs_iinc2 ci_692_116 (by decide +kernel) l4 ?_
          intro ls9 q9
          replace l0 := q9.2 0 _ (by decide) (Or.inl rfl) l0
          replace l1 := q9.2 1 _ (by decide) (Or.inl rfl) l1
          replace l2 := q9.2 2 _ (by decide) (Or.inl rfl) l2
          replace l3 := q9.2 3 _ (by decide) (Or.inl rfl) l3
          replace l5 := q9.2 5 _ (by decide) (Or.inl rfl) l5
          have l4 := q9.1
          clear q9
          refine hs_goto (t := 37) ci_692_119 rfl ?_
          have ho9 := op_run ho (by omega) (by omega) hrun y1 y2 y3 y4 y5 y6 y7
          have hen : e ≤ (hv h 1 1).toInt.toNat := by
            have := y1.2.1
            rw [eN] at this
            exact this
          have hle := y1.1
          exact ih e (k + 1) _ _ _ _ (by omega) (by omega) (by omega) hr5 (i32_add hxk (b := 1) rfl (by omega) (by omega)) ho9 l0 l1 l2 l3 l4
        · simp only [hs_cd, ab_not] at b65
          refine hs_iload ci_692_68 l5 ?_
          refine hs_cs 705 8 1 ci_692_70 (by decide +kernel) rfl (by rw [ml_705]; rfl) (k_isD xc) ?_
          rintro v9 h9 ⟨e9, r2, e8, hr2⟩
          rw [e8, e9]
          clear e8 e9 v9 h9
          simp only [Option.toList, List.cons_append, List.nil_append]
          refine hs_if (t := 85) ci_692_73 rfl (fun b73 => ?_) (fun b73 => ?_)
          · simp only [hs_cd, ab_not] at b73
            refine hs_iload ci_692_85 l5 ?_
            refine hs_cs 721 8 1 ci_692_87 (by decide +kernel) rfl (by rw [ml_721]; rfl) (k_isB xc) ?_
            rintro v9 h9 ⟨e9, r3, e8, hr3⟩
            rw [e8, e9]
            clear e8 e9 v9 h9
            simp only [Option.toList, List.cons_append, List.nil_append]
            refine hs_if (t := 113) ci_692_90 rfl (fun b90 => ?_) (fun b90 => ?_)
            · simp only [hs_cd, ab_not] at b90
              refine hs_iinc2 ci_692_113 (by decide +kernel) l3 ?_
              intro ls9 q9
              replace l0 := q9.2 0 _ (by decide) (Or.inl rfl) l0
              replace l1 := q9.2 1 _ (by decide) (Or.inl rfl) l1
              replace l2 := q9.2 2 _ (by decide) (Or.inl rfl) l2
              replace l4 := q9.2 4 _ (by decide) (Or.inl rfl) l4
              replace l5 := q9.2 5 _ (by decide) (Or.inl rfl) l5
              have l3 := q9.1
              clear q9
              refine hs_iinc2 ci_692_116 (by decide +kernel) l4 ?_
              intro ls9 q9
              replace l0 := q9.2 0 _ (by decide) (Or.inl rfl) l0
              replace l1 := q9.2 1 _ (by decide) (Or.inl rfl) l1
              replace l2 := q9.2 2 _ (by decide) (Or.inl rfl) l2
              replace l3 := q9.2 3 _ (by decide) (Or.inl rfl) l3
              replace l5 := q9.2 5 _ (by decide) (Or.inl rfl) l5
              have l4 := q9.1
              clear q9
              refine hs_goto (t := 37) ci_692_119 rfl ?_
              have hbl : tx_b (bA h pl) := by
                rcases hr3 with ⟨-, q2⟩ | ⟨q1, -⟩
                · rw [hxc] at q2
                  exact q2
                · omega
              exact ih (pl + 1) (k + 1) _ _ _ _ (by omega) (by omega) (by omega) (i32_add hxp (b := 1) rfl (by omega) (by omega)) (i32_add hxk (b := 1) rfl (by omega) (by omega)) (op_blank ho hbl) l0 l1 l2 l3 l4
            · simp only [hs_cd, ab_not] at b90
              refine hs_aload_n ci_692_93 l0 ?_
              refine hs_iload ci_692_94 l5 ?_
              refine hs_cs 724 8 1 ci_692_96 (by decide +kernel) rfl (by rw [ml_724]; rfl) (k_isS xc) ?_
              rintro v9 h9 ⟨e9, r4, e8, hr4⟩
              rw [e8, e9]
              clear e8 e9 v9 h9
              simp only [Option.toList, List.cons_append, List.nil_append]
              refine hs_if (t := 107) ci_692_99 rfl (fun b99 => ?_) (fun b99 => ?_)
              · simp only [hs_cd, ab_not] at b99
                refine hs_iconst ci_692_107 ?_
                refine hs_iload_n ci_692_108 l3 ?_
                refine hs_lconst ci_692_109 ?_
                refine hs_cv 718 8 3 ci_692_110 (by decide +kernel) (by decide +kernel) hp rfl (by rw [ml_718]; rfl) (k_add (Int32.ofInt 3) xp (Int64.ofNat 0) o1 hm941) ?_
                rintro v9 h9 ⟨e8, y3, y4, y5, a4, a5, a6, y7⟩
                rw [e8]
                clear e8 v9
                replace hp := y3.1
                simp only [Option.toList, List.cons_append, List.nil_append]
                refine hs_iinc2 ci_692_113 (by decide +kernel) l3 ?_
                intro ls9 q9
                replace l0 := q9.2 0 _ (by decide) (Or.inl rfl) l0
                replace l1 := q9.2 1 _ (by decide) (Or.inl rfl) l1
                replace l2 := q9.2 2 _ (by decide) (Or.inl rfl) l2
                replace l4 := q9.2 4 _ (by decide) (Or.inl rfl) l4
                replace l5 := q9.2 5 _ (by decide) (Or.inl rfl) l5
                have l3 := q9.1
                clear q9
                refine hs_iinc2 ci_692_116 (by decide +kernel) l4 ?_
                intro ls9 q9
                replace l0 := q9.2 0 _ (by decide) (Or.inl rfl) l0
                replace l1 := q9.2 1 _ (by decide) (Or.inl rfl) l1
                replace l2 := q9.2 2 _ (by decide) (Or.inl rfl) l2
                replace l3 := q9.2 3 _ (by decide) (Or.inl rfl) l3
                replace l5 := q9.2 5 _ (by decide) (Or.inl rfl) l5
                have l4 := q9.1
                clear q9
                refine hs_goto (t := 37) ci_692_119 rfl ?_
                have hnr : ¬ tx_r (bA h pl) := by
                  rintro (g | g)
                  · rcases hr1 with ⟨q1, -⟩ | ⟨-, q2⟩
                    · omega
                    · exact q2 (by rw [hxc]; exact g)
                  · rcases hr2 with ⟨q1, -⟩ | ⟨-, q2⟩
                    · omega
                    · exact q2 (by rw [hxc]; exact g)
                have hnb : ¬ tx_b (bA h pl) := by
                  intro g
                  rcases hr3 with ⟨q1, -⟩ | ⟨-, q2⟩
                  · omega
                  · exact q2 (by rw [hxc]; exact g)
                have hns : ¬ tx_s (bA h pl) := by
                  intro g
                  rcases hr4 with ⟨q1, -⟩ | ⟨-, q2⟩
                  · omega
                  · exact q2 (by rw [hxc]; exact g)
                exact ih (pl + 1) (k + 1) _ _ _ _ (by omega) (by omega) (by omega) (i32_add hxp (b := 1) rfl (by omega) (by omega)) (i32_add hxk (b := 1) rfl (by omega) (by omega)) (op_one (v := Int64.ofNat 0) ho (by omega) (by omega) hnr hnb hxp (Or.inr ⟨hns, by decide⟩) y3 y4 y5 a4 a5 y7) l0 l1 l2 l3 l4
              · simp only [hs_cd, ab_not] at b99
                refine hs_iload ci_692_102 l5 ?_
                refine hs_goto (t := 108) ci_692_104 rfl ?_
                refine hs_iload_n ci_692_108 l3 ?_
                refine hs_lconst ci_692_109 ?_
                refine hs_cv 718 8 3 ci_692_110 (by decide +kernel) (by decide +kernel) hp rfl (by rw [ml_718]; rfl) (k_add xc xp (Int64.ofNat 0) o1 hm941) ?_
                rintro v9 h9 ⟨e8, y3, y4, y5, a4, a5, a6, y7⟩
                rw [e8]
                clear e8 v9
                replace hp := y3.1
                simp only [Option.toList, List.cons_append, List.nil_append]
                refine hs_iinc2 ci_692_113 (by decide +kernel) l3 ?_
                intro ls9 q9
                replace l0 := q9.2 0 _ (by decide) (Or.inl rfl) l0
                replace l1 := q9.2 1 _ (by decide) (Or.inl rfl) l1
                replace l2 := q9.2 2 _ (by decide) (Or.inl rfl) l2
                replace l4 := q9.2 4 _ (by decide) (Or.inl rfl) l4
                replace l5 := q9.2 5 _ (by decide) (Or.inl rfl) l5
                have l3 := q9.1
                clear q9
                refine hs_iinc2 ci_692_116 (by decide +kernel) l4 ?_
                intro ls9 q9
                replace l0 := q9.2 0 _ (by decide) (Or.inl rfl) l0
                replace l1 := q9.2 1 _ (by decide) (Or.inl rfl) l1
                replace l2 := q9.2 2 _ (by decide) (Or.inl rfl) l2
                replace l3 := q9.2 3 _ (by decide) (Or.inl rfl) l3
                replace l5 := q9.2 5 _ (by decide) (Or.inl rfl) l5
                have l4 := q9.1
                clear q9
                refine hs_goto (t := 37) ci_692_119 rfl ?_
                have hnr : ¬ tx_r (bA h pl) := by
                  rintro (g | g)
                  · rcases hr1 with ⟨q1, -⟩ | ⟨-, q2⟩
                    · omega
                    · exact q2 (by rw [hxc]; exact g)
                  · rcases hr2 with ⟨q1, -⟩ | ⟨-, q2⟩
                    · omega
                    · exact q2 (by rw [hxc]; exact g)
                have hnb : ¬ tx_b (bA h pl) := by
                  intro g
                  rcases hr3 with ⟨q1, -⟩ | ⟨-, q2⟩
                  · omega
                  · exact q2 (by rw [hxc]; exact g)
                have hns : tx_s (bA h pl) := by
                  rcases hr4 with ⟨-, q2⟩ | ⟨q1, -⟩
                  · rw [hxc] at q2
                    exact q2
                  · omega
                exact ih (pl + 1) (k + 1) _ _ _ _ (by omega) (by omega) (by omega) (i32_add hxp (b := 1) rfl (by omega) (by omega)) (i32_add hxk (b := 1) rfl (by omega) (by omega)) (op_one (v := Int64.ofNat 0) ho (by omega) (by omega) hnr hnb hxp (Or.inl ⟨hns, hxc⟩) y3 y4 y5 a4 a5 y7) l0 l1 l2 l3 l4
          · simp only [hs_cd, ab_not] at b73
            refine hs_aload_n ci_692_76 l0 ?_
            refine hs_iload_n ci_692_77 l3 ?_
            have hrun : tx_r (bA h pl) := by
              rcases hr2 with ⟨-, q2⟩ | ⟨q1, -⟩
              · rw [hxc] at q2
                exact Or.inr q2
              · omega
            refine hs_cv 709 8 1 ci_692_78 (by decide +kernel) (by decide +kernel) hp rfl (by rw [ml_709]; rfl) (k_run (q := pl) o1 hxp (by rw [eN]; omega) (by rw [eB]; exact hrun) hm941) ?_
            rintro v9 h9 ⟨e, r5, t, e8, hr5, y1, y2, y3, y4, y5, y6, y7⟩
            rw [e8]
            clear e8 v9
            replace hp := y3.1
            simp only [Option.toList, List.cons_append, List.nil_append]
            refine hs_istore2_n ci_692_81 (by decide +kernel) ?_
            intro ls9 q9
            replace l0 := q9.2 0 _ (by decide) (Or.inl rfl) l0
            replace l1 := q9.2 1 _ (by decide) (Or.inl rfl) l1
            replace l2 := q9.2 2 _ (by decide) (Or.inl rfl) l2
            replace l4 := q9.2 4 _ (by decide) (Or.inl rfl) l4
            replace l5 := q9.2 5 _ (by decide) (Or.inl rfl) l5
            have l3 := q9.1
            clear q9
            refine hs_goto (t := 116) ci_692_82 rfl ?_
            refine hs_iinc2 ci_692_116 (by decide +kernel) l4 ?_
            intro ls9 q9
            replace l0 := q9.2 0 _ (by decide) (Or.inl rfl) l0
            replace l1 := q9.2 1 _ (by decide) (Or.inl rfl) l1
            replace l2 := q9.2 2 _ (by decide) (Or.inl rfl) l2
            replace l3 := q9.2 3 _ (by decide) (Or.inl rfl) l3
            replace l5 := q9.2 5 _ (by decide) (Or.inl rfl) l5
            have l4 := q9.1
            clear q9
            refine hs_goto (t := 37) ci_692_119 rfl ?_
            have ho9 := op_run ho (by omega) (by omega) hrun y1 y2 y3 y4 y5 y6 y7
            have hen : e ≤ (hv h 1 1).toInt.toNat := by
              have := y1.2.1
              rw [eN] at this
              exact this
            have hle := y1.1
            exact ih e (k + 1) _ _ _ _ (by omega) (by omega) (by omega) hr5 (i32_add hxk (b := 1) rfl (by omega) (by omega)) ho9 l0 l1 l2 l3 l4
theorem rt_692 : (eg_md 692).2.2.2 = none := by decide +kernel
theorem k_open {sc : List Value} {sp d : Nat} {h : eg_H} {lim : Nat} {xl : Int32} (hq : ab_hp h) (hxl : xl.toInt = (lim : Int)) (h940 : lim ≤ 940) : mc sc sp 692 8 (d + 1 + 1) [.ref 3, .int xl] h (op_P h lim) := by
  have l0 : eg_find 0 (eg_args 0 [.ref 3, .int xl]) = some (.ref 3) := rfl
  have l1 : eg_find 1 (eg_args 0 [.ref 3, .int xl]) = some (.int xl) := rfl
  have hp := hq.1
  obtain ⟨-, n2, n3⟩ := sb_v (a := 1) (k := 1) (lo := .ofNat 0) (hi := .ofNat 940) hq (by decide +kernel)
  have n2 : (0 : Int) ≤ (hv h 1 1).toInt := n2
  have n3 : (hv h 1 1).toInt ≤ (940 : Int) := n3
  unfold mc
  refine hs_aload_n ci_692_0 l0 ?_
  refine hs_iconst ci_692_1 ?_
  refine hs_pfi 5 (0) (941) ci_692_2 (by decide +kernel) hp (by decide) (by decide) ?_
  intro h2 w2
  replace hp := w2.1
  refine hs_aload_n ci_692_5 l0 ?_
  refine hs_iconst ci_692_6 ?_
  refine hs_pfi 6 (0) (941) ci_692_7 (by decide +kernel) hp (by decide) (by decide) ?_
  intro h7 w7
  replace hp := w7.1
  refine hs_aload_n ci_692_10 l0 ?_
  refine hs_iconst ci_692_11 ?_
  refine hs_pfi 8 (-2147483648) (2147483647) ci_692_12 (by decide +kernel) hp (by decide) (by decide) ?_
  intro h12 w12
  replace hp := w12.1
  refine hs_aload_n ci_692_15 l0 ?_
  refine hs_iconst ci_692_16 ?_
  refine hs_pfi 9 (-2147483648) (2147483647) ci_692_17 (by decide +kernel) hp (by decide) (by decide) ?_
  intro h17 w17
  replace hp := w17.1
  refine hs_aload_n ci_692_20 l0 ?_
  refine hs_gfr 0 1 ci_692_21 (by decide +kernel) hp ?_
  refine hs_gfi 1 ci_692_24 (by decide +kernel) hp ?_
  refine hs_iload_n ci_692_27 l1 ?_
  have f17 : ab_fr MOP h17 h := (w17.fr (M := MOP) rfl).tr ((w12.fr (M := MOP) rfl).tr ((w7.fr (M := MOP) rfl).tr (w2.fr (M := MOP) rfl)))
  have hq17 : ab_hp h17 := ⟨hp, hq.2.fr (M := MOP) (by decide +kernel) f17⟩
  have e17 : hv h17 1 1 = hv h 1 1 := op_len f17
  refine hs_min ci_692_28 (by decide +kernel) rfl (fun xb hxb => ?_)
  rw [e17] at hxb
  refine hs_istore2_n ci_692_31 (by decide +kernel) ?_
  intro ls9 q9
  replace l0 := q9.2 0 _ (by decide) (Or.inl rfl) l0
  replace l1 := q9.2 1 _ (by decide) (Or.inl rfl) l1
  have l2 := q9.1
  clear q9
  refine hs_iconst ci_692_32 ?_
  refine hs_istore2_n ci_692_33 (by decide +kernel) ?_
  intro ls9 q9
  replace l0 := q9.2 0 _ (by decide) (Or.inl rfl) l0
  replace l1 := q9.2 1 _ (by decide) (Or.inl rfl) l1
  replace l2 := q9.2 2 _ (by decide) (Or.inl rfl) l2
  have l3 := q9.1
  clear q9
  refine hs_iconst ci_692_34 ?_
  refine hs_istore2 ci_692_35 (by decide +kernel) ?_
  intro ls9 q9
  replace l0 := q9.2 0 _ (by decide) (Or.inl rfl) l0
  replace l1 := q9.2 1 _ (by decide) (Or.inl rfl) l1
  replace l2 := q9.2 2 _ (by decide) (Or.inl rfl) l2
  replace l3 := q9.2 3 _ (by decide) (Or.inl rfl) l3
  have l4 := q9.1
  clear q9
  have o0 : op_I h h17 lim 0 := by
    refine ⟨hq17, f17, ?_, ?_, 0, fun _ => 0, fun _ => tx_no, fun _ => 0, ?_, Nat.le_refl _, Nat.le_refl _, fun r h1 h2 => by omega, rfl, fun t ht => by omega⟩
    · rw [w17.v, if_neg (by omega), w12.v, if_neg (by omega), w7.v, if_pos ⟨rfl, rfl⟩]; decide
    · rw [w17.v, if_neg (by omega), w12.v, if_pos ⟨rfl, rfl⟩]; decide
    · rw [w17.v, if_neg (by omega), w12.v, if_neg (by omega), w7.v, if_neg (by omega), w2.v, if_pos ⟨rfl, rfl⟩]; decide
  refine hs.bind (op_loop (xl := xl) (xb := xb) hq (by omega) (by omega) (hv h 1 1).toInt.toNat 0 0 _ _ _ _ (by omega) (by omega) (by omega) rfl rfl o0 l0 l1 l2 l3 l4) ?_
  clear l0 l1 l2 l3 l4
  rintro pc9 ls9 st9 h9 ⟨rfl, rfl, l0, l1, l2, pl, ho, hbp, hpn⟩
  clear hp
  have hp := ho.1.1
  have o1 := ho.1
  have eN := op_len ho.2.1
  have hm941 : (hv h9 3 5).toInt < 941 := by
    obtain ⟨-, -, -, -, m, P, tk, ta, om, oP1, oP2, -⟩ := ho
    omega
  refine hs_aload_n ci_692_122 l0 ?_
  refine hs_aload_n ci_692_123 l0 ?_
  refine hs_gfr 0 1 ci_692_124 (by decide +kernel) hp ?_
  refine hs_gfi 1 ci_692_127 (by decide +kernel) hp ?_
  refine hs_iload_n ci_692_130 l1 ?_
  refine hs_ic (t := 138) ci_692_131 rfl (fun b131 => ?_) (fun b131 => ?_)
  · simp only [hs_cd, ab_not] at b131
    rw [eN] at b131
    refine hs_iconst ci_692_138 ?_
    refine hs_iload_n ci_692_139 l2 ?_
    refine hs_lconst ci_692_140 ?_
    refine hs_cv 718 8 3 ci_692_141 (by decide +kernel) (by decide +kernel) hp rfl (by rw [ml_718]; rfl) (k_add (Int32.ofInt 0) xb (Int64.ofNat 0) o1 hm941) ?_
    rintro v9 h8 hat
    have e8 := hat.1
    rw [e8]
    simp only [Option.toList, List.nil_append]
    subst e8
    exact hs_k ⟨5, none, by decide +kernel, by rw [rt_692]; rfl, op_fin ho hpn h940 (Or.inr ⟨by omega, by omega, by decide, by omega⟩) (by omega) hat⟩
  · simp only [hs_cd, ab_not] at b131
    rw [eN] at b131
    refine hs_iconst ci_692_134 ?_
    refine hs_goto (t := 139) ci_692_135 rfl ?_
    refine hs_iload_n ci_692_139 l2 ?_
    refine hs_lconst ci_692_140 ?_
    refine hs_cv 718 8 3 ci_692_141 (by decide +kernel) (by decide +kernel) hp rfl (by rw [ml_718]; rfl) (k_add (Int32.ofInt 3) xb (Int64.ofNat 0) o1 hm941) ?_
    rintro v9 h8 hat
    have e8 := hat.1
    rw [e8]
    simp only [Option.toList, List.nil_append]
    subst e8
    exact hs_k ⟨5, none, by decide +kernel, by rw [rt_692]; rfl, op_fin ho hpn h940 (Or.inl ⟨by omega, by omega, by decide, by omega⟩) (by omega) hat⟩
