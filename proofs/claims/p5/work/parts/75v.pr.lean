/-! BY HAND: the class's reader: a promise -/
theorem ci_793_0 : ab_at 793 0 (.aload_n 0) 1 = true := by decide +kernel
theorem ci_793_1 : ab_at 793 1 (.getfield 12) 3 = true := by decide +kernel
theorem ci_793_4 : ab_at 793 4 (.getfield 124) 3 = true := by decide +kernel
theorem ci_793_7 : ab_at 793 7 (.istore_n 1) 1 = true := by decide +kernel
theorem ci_793_8 : ab_at 793 8 (.iload_n 1) 1 = true := by decide +kernel
theorem ci_793_9 : ab_at 793 9 (.bipush 10) 2 = true := by decide +kernel
theorem ci_793_11 : ab_at 793 11 (.if_icmp .lt 12) 3 = true := by decide +kernel
theorem ci_793_14 : ab_at 793 14 (.aload_n 0) 1 = true := by decide +kernel
theorem ci_793_15 : ab_at 793 15 (.getfield 18) 3 = true := by decide +kernel
theorem ci_793_18 : ab_at 793 18 (.iconst 4) 1 = true := by decide +kernel
theorem ci_793_19 : ab_at 793 19 (.invokevirtual 58) 3 = true := by decide +kernel
theorem ci_793_23 : ab_at 793 23 (.aload_n 0) 1 = true := by decide +kernel
theorem ci_793_24 : ab_at 793 24 (.invokevirtual 97) 3 = true := by decide +kernel
theorem ci_793_27 : ab_at 793 27 (.ifCond .ne 5) 3 = true := by decide +kernel
theorem ci_793_30 : ab_at 793 30 (.iconst 0) 1 = true := by decide +kernel
theorem ci_793_32 : ab_at 793 32 (.aload_n 0) 1 = true := by decide +kernel
theorem ci_793_33 : ab_at 793 33 (.getfield 12) 3 = true := by decide +kernel
theorem ci_793_36 : ab_at 793 36 (.getfield 127) 3 = true := by decide +kernel
theorem ci_793_39 : ab_at 793 39 (.iload_n 1) 1 = true := by decide +kernel
theorem ci_793_40 : ab_at 793 40 (.aload_n 0) 1 = true := by decide +kernel
theorem ci_793_41 : ab_at 793 41 (.getfield 18) 3 = true := by decide +kernel
theorem ci_793_44 : ab_at 793 44 (.invokevirtual 104) 3 = true := by decide +kernel
theorem ci_793_47 : ab_at 793 47 (.lastore) 1 = true := by decide +kernel
theorem ci_793_48 : ab_at 793 48 (.aload_n 0) 1 = true := by decide +kernel
theorem ci_793_49 : ab_at 793 49 (.invokevirtual 130) 3 = true := by decide +kernel
theorem ci_793_52 : ab_at 793 52 (.ifCond .ne 5) 3 = true := by decide +kernel
theorem ci_793_55 : ab_at 793 55 (.iconst 0) 1 = true := by decide +kernel
theorem ci_793_57 : ab_at 793 57 (.aload_n 0) 1 = true := by decide +kernel
theorem ci_793_58 : ab_at 793 58 (.getfield 12) 3 = true := by decide +kernel
theorem ci_793_61 : ab_at 793 61 (.getfield 133) 3 = true := by decide +kernel
theorem ci_793_64 : ab_at 793 64 (.iload_n 1) 1 = true := by decide +kernel
theorem ci_793_65 : ab_at 793 65 (.aload_n 0) 1 = true := by decide +kernel
theorem ci_793_66 : ab_at 793 66 (.getfield 136) 3 = true := by decide +kernel
theorem ci_793_69 : ab_at 793 69 (.iastore) 1 = true := by decide +kernel
theorem ci_793_70 : ab_at 793 70 (.aload_n 0) 1 = true := by decide +kernel
theorem ci_793_71 : ab_at 793 71 (.invokevirtual 130) 3 = true := by decide +kernel
theorem ci_793_74 : ab_at 793 74 (.ifCond .ne 5) 3 = true := by decide +kernel
theorem ci_793_77 : ab_at 793 77 (.iconst 0) 1 = true := by decide +kernel
theorem ci_793_79 : ab_at 793 79 (.aload_n 0) 1 = true := by decide +kernel
theorem ci_793_80 : ab_at 793 80 (.getfield 12) 3 = true := by decide +kernel
theorem ci_793_83 : ab_at 793 83 (.getfield 139) 3 = true := by decide +kernel
theorem ci_793_86 : ab_at 793 86 (.iload_n 1) 1 = true := by decide +kernel
theorem ci_793_87 : ab_at 793 87 (.aload_n 0) 1 = true := by decide +kernel
theorem ci_793_88 : ab_at 793 88 (.getfield 136) 3 = true := by decide +kernel
theorem ci_793_91 : ab_at 793 91 (.iastore) 1 = true := by decide +kernel
theorem ci_793_92 : ab_at 793 92 (.aload_n 0) 1 = true := by decide +kernel
theorem ci_793_93 : ab_at 793 93 (.getfield 136) 3 = true := by decide +kernel
theorem ci_793_96 : ab_at 793 96 (.aload_n 0) 1 = true := by decide +kernel
theorem ci_793_97 : ab_at 793 97 (.getfield 12) 3 = true := by decide +kernel
theorem ci_793_100 : ab_at 793 100 (.getfield 133) 3 = true := by decide +kernel
theorem ci_793_103 : ab_at 793 103 (.iload_n 1) 1 = true := by decide +kernel
theorem ci_793_104 : ab_at 793 104 (.iaload) 1 = true := by decide +kernel
theorem ci_793_105 : ab_at 793 105 (.if_icmp .ne 12) 3 = true := by decide +kernel
theorem ci_793_108 : ab_at 793 108 (.aload_n 0) 1 = true := by decide +kernel
theorem ci_793_109 : ab_at 793 109 (.getfield 18) 3 = true := by decide +kernel
theorem ci_793_112 : ab_at 793 112 (.iconst 3) 1 = true := by decide +kernel
theorem ci_793_113 : ab_at 793 113 (.invokevirtual 58) 3 = true := by decide +kernel
theorem ci_793_117 : ab_at 793 117 (.aload_n 0) 1 = true := by decide +kernel
theorem ci_793_118 : ab_at 793 118 (.invokevirtual 108) 3 = true := by decide +kernel
theorem ci_793_121 : ab_at 793 121 (.ifCond .ne 5) 3 = true := by decide +kernel
theorem ci_793_124 : ab_at 793 124 (.iconst 0) 1 = true := by decide +kernel
theorem ci_793_126 : ab_at 793 126 (.aload_n 0) 1 = true := by decide +kernel
theorem ci_793_127 : ab_at 793 127 (.getfield 12) 3 = true := by decide +kernel
theorem ci_793_130 : ab_at 793 130 (.getfield 142) 3 = true := by decide +kernel
theorem ci_793_133 : ab_at 793 133 (.iload_n 1) 1 = true := by decide +kernel
theorem ci_793_134 : ab_at 793 134 (.aload_n 0) 1 = true := by decide +kernel
theorem ci_793_135 : ab_at 793 135 (.getfield 115) 3 = true := by decide +kernel
theorem ci_793_138 : ab_at 793 138 (.iastore) 1 = true := by decide +kernel
theorem ci_793_139 : ab_at 793 139 (.aload_n 0) 1 = true := by decide +kernel
theorem ci_793_140 : ab_at 793 140 (.getfield 12) 3 = true := by decide +kernel
theorem ci_793_143 : ab_at 793 143 (.getfield 145) 3 = true := by decide +kernel
theorem ci_793_146 : ab_at 793 146 (.iload_n 1) 1 = true := by decide +kernel
theorem ci_793_147 : ab_at 793 147 (.aload_n 0) 1 = true := by decide +kernel
theorem ci_793_148 : ab_at 793 148 (.getfield 121) 3 = true := by decide +kernel
theorem ci_793_151 : ab_at 793 151 (.iastore) 1 = true := by decide +kernel
theorem ci_793_152 : ab_at 793 152 (.aload_n 0) 1 = true := by decide +kernel
theorem ci_793_153 : ab_at 793 153 (.getfield 18) 3 = true := by decide +kernel
theorem ci_793_156 : ab_at 793 156 (.iconst 0) 1 = true := by decide +kernel
theorem ci_793_157 : ab_at 793 157 (.bipush 60) 2 = true := by decide +kernel
theorem ci_793_159 : ab_at 793 159 (.invokevirtual 80) 3 = true := by decide +kernel
theorem ci_793_162 : ab_at 793 162 (.ifCond .ne 5) 3 = true := by decide +kernel
theorem ci_793_165 : ab_at 793 165 (.iconst 0) 1 = true := by decide +kernel
theorem ci_793_167 : ab_at 793 167 (.aload_n 0) 1 = true := by decide +kernel
theorem ci_793_168 : ab_at 793 168 (.getfield 12) 3 = true := by decide +kernel
theorem ci_793_171 : ab_at 793 171 (.getfield 148) 3 = true := by decide +kernel
theorem ci_793_174 : ab_at 793 174 (.iload_n 1) 1 = true := by decide +kernel
theorem ci_793_175 : ab_at 793 175 (.aload_n 0) 1 = true := by decide +kernel
theorem ci_793_176 : ab_at 793 176 (.getfield 18) 3 = true := by decide +kernel
theorem ci_793_179 : ab_at 793 179 (.invokevirtual 84) 3 = true := by decide +kernel
theorem ci_793_182 : ab_at 793 182 (.iastore) 1 = true := by decide +kernel
theorem ci_793_183 : ab_at 793 183 (.aload_n 0) 1 = true := by decide +kernel
theorem ci_793_184 : ab_at 793 184 (.getfield 18) 3 = true := by decide +kernel
theorem ci_793_187 : ab_at 793 187 (.iconst 0) 1 = true := by decide +kernel
theorem ci_793_188 : ab_at 793 188 (.sipush 399) 3 = true := by decide +kernel
theorem ci_793_191 : ab_at 793 191 (.invokevirtual 80) 3 = true := by decide +kernel
theorem ci_793_194 : ab_at 793 194 (.ifCond .ne 5) 3 = true := by decide +kernel
theorem ci_793_197 : ab_at 793 197 (.iconst 0) 1 = true := by decide +kernel
theorem ci_793_199 : ab_at 793 199 (.aload_n 0) 1 = true := by decide +kernel
theorem ci_793_200 : ab_at 793 200 (.getfield 12) 3 = true := by decide +kernel
theorem ci_793_203 : ab_at 793 203 (.getfield 151) 3 = true := by decide +kernel
theorem ci_793_206 : ab_at 793 206 (.iload_n 1) 1 = true := by decide +kernel
theorem ci_793_207 : ab_at 793 207 (.aload_n 0) 1 = true := by decide +kernel
theorem ci_793_208 : ab_at 793 208 (.getfield 18) 3 = true := by decide +kernel
theorem ci_793_211 : ab_at 793 211 (.invokevirtual 84) 3 = true := by decide +kernel
theorem ci_793_214 : ab_at 793 214 (.iastore) 1 = true := by decide +kernel
theorem ci_793_215 : ab_at 793 215 (.aload_n 0) 1 = true := by decide +kernel
theorem ci_793_216 : ab_at 793 216 (.getfield 12) 3 = true := by decide +kernel
theorem ci_793_219 : ab_at 793 219 (.iload_n 1) 1 = true := by decide +kernel
theorem ci_793_220 : ab_at 793 220 (.invokevirtual 154) 3 = true := by decide +kernel
theorem ci_793_223 : ab_at 793 223 (.aload_n 0) 1 = true := by decide +kernel
theorem ci_793_224 : ab_at 793 224 (.getfield 12) 3 = true := by decide +kernel
theorem ci_793_227 : ab_at 793 227 (.iload_n 1) 1 = true := by decide +kernel
theorem ci_793_228 : ab_at 793 228 (.iconst 1) 1 = true := by decide +kernel
theorem ci_793_229 : ab_at 793 229 (.iadd) 1 = true := by decide +kernel
theorem ci_793_230 : ab_at 793 230 (.putfield 124) 3 = true := by decide +kernel
theorem ci_793_233 : ab_at 793 233 (.iconst 1) 1 = true := by decide +kernel
theorem ml_797 : (eg_md 797).2.2.1 = 1 := by decide +kernel
theorem ml_801 : (eg_md 801).2.2.1 = 5 := by decide +kernel
theorem kS_399 : (Int16.ofInt (399)).toInt32.toInt = 399 := by decide +kernel
theorem ab_inr_up {M : ab_M} {a k1 k2 k : Nat} (h : ab_inr M a k1 k2 = true) (h1 : k1 ≤ k) (h2 : k ≤ k2) : ab_inr M a k k = true := by
  induction M with
  | nil => exact h
  | cons q l ih =>
    obtain ⟨b, f, t⟩ := q
    unfold ab_inr at h ⊢
    cases e : (Nat.beq a b && Nat.ble f k1 && Nat.ble k2 t) with
    | true =>
      rw [Bool.and_eq_true, Bool.and_eq_true, Nat.ble_eq, Nat.ble_eq] at e
      have e2 : (Nat.beq a b && Nat.ble f k && Nat.ble k t) = true := by
        rw [Bool.and_eq_true, Bool.and_eq_true, Nat.ble_eq, Nat.ble_eq]
        exact ⟨⟨e.1.1, by omega⟩, by omega⟩
      rw [e2]
      rfl
    | false =>
      rw [e] at h
      have g := ih h
      cases (Nat.beq a b && Nat.ble f k && Nat.ble k t) with
      | true => rfl
      | false => exact g
theorem hw.f9 {h h' : eg_H} {a k n : Nat} {x : Int32} (w : hw h h' a k x) {M : ab_M} (hM : ab_inr M a 0 n = true) (hk : k ≤ n) : ab_fr M h' h := w.fr (ab_inr_up hM (Nat.zero_le _) hk)
theorem hwl.f9 {h h' : eg_H} {a k n : Nat} {x : Int64} (w : hwl h h' a k x) {M : ab_M} (hM : ab_inr M a 0 n = true) (hk : k ≤ n) : ab_fr M h' h := w.fr (ab_inr_up hM (Nat.zero_le _) hk)
theorem c_lean {sc : List Value} {sp d : Nat} {h : eg_H} (hsc : ab_osc sc) {x : Int32} (h1 : 0 ≤ x.toInt) (h2 : x.toInt ≤ 9) (hp : ab_hp h) : mc sc sp 801 1 (d + 2) [.ref 23, .int x] h (mc_P [(35, 0, 9), (36, 0, 9)] h none) := mc_q tr_z140 (iv := none) (by decide +kernel) hsc (show 2 ≤ d + 2 by omega) (ar_1 hp h1 h2)
/-- numbers put down behind the promises that are told -/
theorem CP.wp {h h' : eg_H} {ps : PS} {b k : Nat} {x : Int32} (c : CP h ps) (w : hw h h' b k x) (hb : 28 ≤ b ∧ b ≤ 33) (hk : ps.1 5 ≤ (k : Int)) : CP h' ps := by
  obtain ⟨c1, ⟨c2, c3, c4⟩, c5, c6, c7, c8, c9⟩ := c
  refine ⟨fun q hq => by rw [w.v, if_neg (by omega)]; exact c1 q hq, ⟨by rw [w.v, if_neg (by omega)]; exact c2, by rw [w.v, if_neg (by omega)]; exact c3, by rw [w.v, if_neg (by omega)]; exact c4⟩, fun q hq => ?_, fun q hq => ?_, fun q hq => by rw [w.v, if_neg (by omega)]; exact c7 q hq, fun x y hx hy => by rw [w.l _ _ (by omega)]; exact c8 x y hx hy, c9⟩
  · rw [w.l _ _ (by omega), w.v, if_neg (by omega), w.v, if_neg (by omega)]
    exact c5 q hq
  · rw [w.l _ _ (by omega), w.v, if_neg (by omega), w.v, if_neg (by omega), w.v, if_neg (by omega)]
    exact c6 q hq
theorem sp_old_b {ps : PS} {k n : Nat} {t : tx_K} {a : Nat} {g : Int} (h : sp_old ps k n t a = .inr g) : 0 ≤ g ∧ g < ((ps.1 n).toNat : Int) := by
  unfold sp_old sbn at h
  split at h
  · exact absurd h (by simp)
  · simp only at h
    split at h
    · exact absurd h (by simp)
    · rename_i c _ e
      have h := Sum.inr.inj h
      rcases sf_b (g := ps.2 k) (a := c) (ps.1 n).toNat with e2 | e2
      · exact absurd e2 e
      · rw [← h]
        exact e2
/-- a promise more -/
theorem CP.prom {h h' : eg_H} {ps : PS} {c gv x y : Int} (hc : CP h ps) (hm : ps.1 5 < 10) (s : ∀ k, k < 7 → (hv h' 23 k).toInt = if k = 5 then ps.1 5 + 1 else ps.1 k) (s3 : ∀ k, k = 3 ∨ k = 4 ∨ k = 5 → hv h' 22 k = hv h 22 k) (n : ∀ q : Nat, (hl h' 27 q).toInt = if q = (ps.1 5).toNat then c else (hl h 27 q).toInt) (n28 : ∀ q : Nat, (hv h' 28 q).toInt = if q = (ps.1 5).toNat then gv else (hv h 28 q).toInt) (n30 : ∀ q : Nat, (hv h' 30 q).toInt = if q = (ps.1 5).toNat then x else (hv h 30 q).toInt) (n31 : ∀ q : Nat, (hv h' 31 q).toInt = if q = (ps.1 5).toNat then y else (hv h 31 q).toInt) (o : ∀ b q : Nat, b = 24 ∨ b = 25 ∨ b = 26 ∨ b = 34 → ab_slot h' b q = ab_slot h b q) (t : ∀ q : Nat, tb (hl h' 22 6) q = true ↔ (tb (hl h 22 6) q = true ∨ (q : Int) = 8 * y + x)) (bx : 0 ≤ x ∧ x ≤ 7 ∧ 0 ≤ y ∧ y ≤ 7) : CP h' (uf ps.1 5 (ps.1 5 + 1), ug (ug (ug (ug ps.2 3 (ps.1 5).toNat c) 4 (ps.1 5).toNat gv) 6 (ps.1 5).toNat x) 7 (ps.1 5).toNat y) := by
  obtain ⟨c1, ⟨c2, c3, c4⟩, c5, c6, c7, c8, c9⟩ := hc
  obtain ⟨k, hk⟩ : ∃ k : Nat, ps.1 5 = (k : Int) := ⟨(ps.1 5).toNat, by omega⟩
  have ek : (ps.1 5).toNat = k := by omega
  rw [ek] at n n28 n30 n31 ⊢
  refine ⟨fun q hq => ?_, ⟨?_, ?_, ?_⟩, fun q hq => ?_, fun q hq => ?_, fun q hq => ?_, fun a b ha hb => ?_, ?_⟩
  · rw [s q hq]; rfl
  · rw [s3 3 (Or.inl rfl)]; exact c2
  · rw [s3 4 (Or.inr (Or.inl rfl))]; exact c3
  · rw [s3 5 (Or.inr (Or.inr rfl))]; exact c4
  · have hq : (q : Int) < ps.1 4 := hq
    rw [hl_same (o 24 q (by omega)), hv_same (o 25 q (by omega)), hv_same (o 26 q (by omega))]
    exact c5 q hq
  · have hq : (q : Int) < ps.1 5 + 1 := hq
    rw [n, n28, n30, n31]
    show (if q = k then c else (hl h 27 q).toInt) = (if 3 = 7 ∧ q = k then y else if 3 = 6 ∧ q = k then x else if 3 = 4 ∧ q = k then gv else if 3 = 3 ∧ q = k then c else ps.2 3 q) ∧ (if q = k then gv else (hv h 28 q).toInt) = (if 4 = 7 ∧ q = k then y else if 4 = 6 ∧ q = k then x else if 4 = 4 ∧ q = k then gv else if 4 = 3 ∧ q = k then c else ps.2 4 q) ∧ (if q = k then x else (hv h 30 q).toInt) = (if 6 = 7 ∧ q = k then y else if 6 = 6 ∧ q = k then x else if 6 = 4 ∧ q = k then gv else if 6 = 3 ∧ q = k then c else ps.2 6 q) ∧ (if q = k then y else (hv h 31 q).toInt) = (if 7 = 7 ∧ q = k then y else if 7 = 6 ∧ q = k then x else if 7 = 4 ∧ q = k then gv else if 7 = 3 ∧ q = k then c else ps.2 7 q) ∧ 0 ≤ (if 6 = 7 ∧ q = k then y else if 6 = 6 ∧ q = k then x else if 6 = 4 ∧ q = k then gv else if 6 = 3 ∧ q = k then c else ps.2 6 q) ∧ (if 6 = 7 ∧ q = k then y else if 6 = 6 ∧ q = k then x else if 6 = 4 ∧ q = k then gv else if 6 = 3 ∧ q = k then c else ps.2 6 q) ≤ 7 ∧ 0 ≤ (if 7 = 7 ∧ q = k then y else if 7 = 6 ∧ q = k then x else if 7 = 4 ∧ q = k then gv else if 7 = 3 ∧ q = k then c else ps.2 7 q) ∧ (if 7 = 7 ∧ q = k then y else if 7 = 6 ∧ q = k then x else if 7 = 4 ∧ q = k then gv else if 7 = 3 ∧ q = k then c else ps.2 7 q) ≤ 7
    by_cases e : q = k
    · simp only [e]
      simp
      exact bx
    · have d := c6 q (by omega)
      simp only [e, and_false, if_false]
      exact d
  · intro r
    show _ ↔ ug (ug (ug (ug ps.2 3 k c) 4 k gv) 6 k x) 7 k y (10 + q) r ≠ 0
    rw [hv_same (o 34 q (by omega)), ug_n (by omega), ug_n (by omega), ug_n (by omega), ug_n (by omega)]
    exact c7 q hq r
  · refine (t (8 * b + a)).trans ?_
    have g := c8 a b ha hb
    unfold occ at g ⊢
    rw [g]
    show _ ↔ ((∃ q : Nat, (q : Int) < ps.1 4 ∧ ps.2 1 q = (a : Int) ∧ ps.2 2 q = (b : Int)) ∨ (∃ q : Nat, (q : Int) < ps.1 5 + 1 ∧ (if 6 = 7 ∧ q = k then y else if 6 = 6 ∧ q = k then x else if 6 = 4 ∧ q = k then gv else if 6 = 3 ∧ q = k then c else ps.2 6 q) = (a : Int) ∧ (if 7 = 7 ∧ q = k then y else if 7 = 6 ∧ q = k then x else if 7 = 4 ∧ q = k then gv else if 7 = 3 ∧ q = k then c else ps.2 7 q) = (b : Int)))
    constructor
    · rintro ((g | ⟨q, q1, q2, q3⟩) | g)
      · exact Or.inl g
      · refine Or.inr ⟨q, by omega, ?_, ?_⟩
        · have e : ¬ q = k := by omega
          simp only [e, and_false, if_false]
          exact q2
        · have e : ¬ q = k := by omega
          simp only [e, and_false, if_false]
          exact q3
      · refine Or.inr ⟨k, by omega, ?_, ?_⟩
        · simp
          omega
        · simp
          omega
    · rintro (g | ⟨q, q1, q2, q3⟩)
      · exact Or.inl (Or.inl g)
      · by_cases e : q = k
        · subst e
          simp at q2 q3
          exact Or.inr (by omega)
        · simp only [e, and_false, if_false] at q2 q3
          exact Or.inl (Or.inr ⟨q, by omega, q2, q3⟩)
  · show 2 ≤ ps.1 0 ∧ ps.1 0 ≤ 8 ∧ 2 ≤ ps.1 1 ∧ ps.1 1 ≤ 8 ∧ 0 ≤ ps.1 4 ∧ ps.1 4 ≤ 6 ∧ 0 ≤ ps.1 5 + 1 ∧ ps.1 5 + 1 ≤ 10
    omega
theorem rt_793 : (eg_md 793).2.2.2 = some .boolean := by decide +kernel
theorem k_prom {sc : List Value} {sp d : Nat} {h : eg_H} {tk : Nat → tx_K} {ta : Nat → Nat} {m j : Nat} {ps : PS} (hsc : ab_osc sc) (hq : ab_hp h) (hk : kwok h) (hr : ro h tk ta m) (hc : cu h tk ta m j) (hj : 1 ≤ j) (hP : CP h ps) : mc sc sp 793 2 (d + 1 + 1 + 1) [.ref 22] h (ln_P h tk ta m (sp_prom tk ta ps j)) := by
  have l0 : eg_find 0 (eg_args 0 [.ref 22]) = some (.ref 22) := rfl
  have hp := hq.1
  have hcj := hc.2 hj
  have e5 : (hv h 23 5).toInt = ps.1 5 := hP.1 5 (by omega)
  have hb9 := hP.2.2.2.2.2.2
  unfold mc
  refine hs_aload_n ci_793_0 l0 ?_
  refine hs_gfr 1 23 ci_793_1 (by decide +kernel) hp ?_
  refine hs_gfi 5 ci_793_4 (by decide +kernel) hp ?_
  refine hs_istore2_n ci_793_7 (by decide +kernel) ?_
  intro ls9 q9
  replace l0 := q9.2 0 _ (by decide) (Or.inl rfl) l0
  have l1 := q9.1
  clear q9
  refine hs_iload_n ci_793_8 l1 ?_
  refine hs_bipush ci_793_9 ?_
  refine hs_ic (t := 23) ci_793_11 rfl (fun b11 => ?_) (fun b11 => ?_)
  · simp only [hs_cd, ab_not, kB_10] at b11
    refine hs_aload_n ci_793_23 l0 ?_
    refine hs_cv 766 2 0 ci_793_24 (by decide +kernel) (by decide +kernel) hp rfl (by rw [ml_766]; rfl) (k_new hq hk hr hc hP) ?_
    rintro v9 hA ⟨qA, fA, rA, e8, hrA⟩
    rw [e8]
    clear e8 v9
    replace hp := qA.1
    simp only [Option.toList, List.cons_append, List.nil_append]
    refine hs_if (t := 32) ci_793_27 rfl (fun b27 => ?_) (fun b27 => ?_)
    · simp only [hs_cd, ab_not] at b27
      refine hs_aload_n ci_793_32 l0 ?_
      refine hs_gfr 1 23 ci_793_33 (by decide +kernel) hp ?_
      refine hs_gfr 10 27 ci_793_36 (by decide +kernel) hp ?_
      refine hs_iload_n ci_793_39 l1 ?_
      refine hs_aload_n ci_793_40 l0 ?_
      refine hs_gfr 0 3 ci_793_41 (by decide +kernel) hp ?_
      refine hs_cv 774 8 0 ci_793_44 (by decide +kernel) (by decide +kernel) hp rfl (by rw [ml_774]; rfl) (k_lng qA) ?_
      rintro v9 h9 ⟨e9, e8⟩
      rw [e8, e9]
      clear e8 e9 v9 h9
      obtain ⟨c, hc1, hcA, hc2⟩ : ∃ c, sp_new ps (tk j) (ta j) = .inr c ∧ cu hA tk ta m (j + 1) ∧ (hl hA 3 11).toInt = c := by
        rcases hrA with ⟨c, y1, -, y3, y4⟩ | ⟨k, a, -, y2, -⟩
        · exact ⟨c, y1, y3, y4⟩
        · omega
      have e55 : (hv h 23 5).toInt.toNat = (ps.1 5).toNat := by rw [e5]
      have k9 : (hv h 23 5).toInt.toNat ≤ 9 := by omega
      simp only [Option.toList, List.cons_append, List.nil_append]
      refine hs_lastore 10 ci_793_47 (by decide +kernel) hp (by omega) (by omega) ?_
      intro h47 w47
      replace hp := w47.1
      refine hs_aload_n ci_793_48 l0 ?_
      have kA : kwok hA := hk.fr fA (fun _ => rfl)
      have rrA : ro hA tk ta m := hr.fr (fr_sub (by decide +kernel) fA)
      have f47 : ab_fr [(27, 0, 9)] h47 hA := w47.f9 (n := 9) rfl k9
      have q47 : ab_hp h47 := ⟨hp, qA.2.fr (M := [(27, 0, 9)]) (by decide +kernel) f47⟩
      have c47 := hcA.fr f47 rfl rfl rfl rfl (fun _ => rfl)
      have k47 : kwok h47 := kA.fr f47 (fun _ => rfl)
      have r47 : ro h47 tk ta m := rrA.fr (fr_sub (by decide +kernel) f47)
      have P47 : CP h47 ps := (hP.fr fA).w27 w47 (by omega)
      refine hs_cv 797 2 0 ci_793_49 (by decide +kernel) (by decide +kernel) hp rfl (by rw [ml_797]; rfl) (k_tman q47 k47 r47 c47 P47) ?_
      rintro v9 hB ⟨qB, fB, rB, e8, hrB⟩
      rw [e8]
      clear e8 v9
      replace hp := qB.1
      simp only [Option.toList, List.cons_append, List.nil_append]
      refine hs_if (t := 57) ci_793_52 rfl (fun b52 => ?_) (fun b52 => ?_)
      · simp only [hs_cd, ab_not] at b52
        obtain ⟨gv, hg1, hcB, hg2⟩ : ∃ g, sp_old ps 0 4 (tk (j + 1)) (ta (j + 1)) = .inr g ∧ cu hB tk ta m (j + 1 + 1) ∧ (hv hB 22 9).toInt = g := by
          rcases hrB with ⟨g, y1, -, y3, y4⟩ | ⟨k, a, -, y2, -⟩
          · exact ⟨g, y1, y3, y4⟩
          · omega
        have bg := sp_old_b hg1
        have kB : kwok hB := k47.fr fB (fun _ => rfl)
        have rrB : ro hB tk ta m := r47.fr (fr_sub (by decide +kernel) fB)
        refine hs_aload_n ci_793_57 l0 ?_
        refine hs_gfr 1 23 ci_793_58 (by decide +kernel) hp ?_
        refine hs_gfr 11 28 ci_793_61 (by decide +kernel) hp ?_
        refine hs_iload_n ci_793_64 l1 ?_
        refine hs_aload_n ci_793_65 l0 ?_
        refine hs_gfi 9 ci_793_66 (by decide +kernel) hp ?_
        refine hs_iastore 0 9 (0) (5) ci_793_69 (by decide +kernel) hp (by omega) (by omega) (by omega) (by omega) ?_
        intro h69 w69
        replace hp := w69.1
        refine hs_aload_n ci_793_70 l0 ?_
        have f69 : ab_fr [(28, 0, 9)] h69 hB := w69.f9 (n := 9) rfl k9
        have q69 : ab_hp h69 := ⟨hp, qB.2.fr (M := [(28, 0, 9)]) (by decide +kernel) f69⟩
        have c69 := hcB.fr f69 rfl rfl rfl rfl (fun _ => rfl)
        have k69 : kwok h69 := kB.fr f69 (fun _ => rfl)
        have r69 : ro h69 tk ta m := rrB.fr (fr_sub (by decide +kernel) f69)
        have P69 : CP h69 ps := (P47.fr fB).wp w69 (by omega) (by omega)
        refine hs_cv 797 2 0 ci_793_71 (by decide +kernel) (by decide +kernel) hp rfl (by rw [ml_797]; rfl) (k_tman q69 k69 r69 c69 P69) ?_
        rintro v9 hC ⟨qC, fC, rC, e8, hrC⟩
        rw [e8]
        clear e8 v9
        replace hp := qC.1
        simp only [Option.toList, List.cons_append, List.nil_append]
        refine hs_if (t := 79) ci_793_74 rfl (fun b74 => ?_) (fun b74 => ?_)
        · simp only [hs_cd, ab_not] at b74
          obtain ⟨hs9, hs1, hcC, hs2⟩ : ∃ g, sp_old ps 0 4 (tk (j + 1 + 1)) (ta (j + 1 + 1)) = .inr g ∧ cu hC tk ta m (j + 1 + 1 + 1) ∧ (hv hC 22 9).toInt = g := by
            rcases hrC with ⟨g, y1, -, y3, y4⟩ | ⟨k, a, -, y2, -⟩
            · exact ⟨g, y1, y3, y4⟩
            · omega
          have bh := sp_old_b hs1
          have kC : kwok hC := k69.fr fC (fun _ => rfl)
          have rrC : ro hC tk ta m := r69.fr (fr_sub (by decide +kernel) fC)
          refine hs_aload_n ci_793_79 l0 ?_
          refine hs_gfr 1 23 ci_793_80 (by decide +kernel) hp ?_
          refine hs_gfr 12 29 ci_793_83 (by decide +kernel) hp ?_
          refine hs_iload_n ci_793_86 l1 ?_
          refine hs_aload_n ci_793_87 l0 ?_
          refine hs_gfi 9 ci_793_88 (by decide +kernel) hp ?_
          refine hs_iastore 0 9 (0) (5) ci_793_91 (by decide +kernel) hp (by omega) (by omega) (by omega) (by omega) ?_
          intro h91 w91
          replace hp := w91.1
          have f91 : ab_fr [(29, 0, 9)] h91 hC := w91.f9 (n := 9) rfl k9
          have q91 : ab_hp h91 := ⟨hp, qC.2.fr (M := [(29, 0, 9)]) (by decide +kernel) f91⟩
          have c91 := hcC.fr f91 rfl rfl rfl rfl (fun _ => rfl)
          have k91 : kwok h91 := kC.fr f91 (fun _ => rfl)
          have r91 : ro h91 tk ta m := rrC.fr (fr_sub (by decide +kernel) f91)
          have P91 : CP h91 ps := (P69.fr fC).wp w91 (by omega) (by omega)
          have n104 : (hv h91 28 (hv h 23 5).toInt.toNat).toInt = gv := by rw [hv_same (f91 28 _ rfl), hv_same (fC 28 _ rfl), w69.v, if_pos ⟨rfl, rfl⟩]; exact hg2
          have n93 : (hv h91 22 9).toInt = hs9 := by rw [hv_same (f91 22 9 rfl)]; exact hs2
          refine hs_aload_n ci_793_92 l0 ?_
          refine hs_gfi 9 ci_793_93 (by decide +kernel) hp ?_
          refine hs_aload_n ci_793_96 l0 ?_
          refine hs_gfr 1 23 ci_793_97 (by decide +kernel) hp ?_
          refine hs_gfr 11 28 ci_793_100 (by decide +kernel) hp ?_
          refine hs_iload_n ci_793_103 l1 ?_
          refine hs_iaload 0 9 (0) (5) ci_793_104 (by decide +kernel) hp (by omega) (by omega) (fun r104_1 r104_2 => ?_)
          refine hs_ic (t := 117) ci_793_105 rfl (fun b105 => ?_) (fun b105 => ?_)
          · simp only [hs_cd, ab_not] at b105
            refine hs_aload_n ci_793_117 l0 ?_
            refine hs_cv 786 2 0 ci_793_118 (by decide +kernel) (by decide +kernel) hp rfl (by rw [ml_786]; rfl) (k_cell q91 k91 r91 c91 P91) ?_
            rintro v9 hD ⟨qD, fD, rD, e8, hrD⟩
            rw [e8]
            clear e8 v9
            replace hp := qD.1
            simp only [Option.toList, List.cons_append, List.nil_append]
            refine hs_if (t := 126) ci_793_121 rfl (fun b121 => ?_) (fun b121 => ?_)
            · simp only [hs_cd, ab_not] at b121
              obtain ⟨x, y, hx1, hcD, hx2, hy2, bx1, bx2, by1, by2, hbit⟩ : ∃ x y, sp_cell ps (tk (j + 1 + 1 + 1)) (ta (j + 1 + 1 + 1)) (tk (j + 1 + 1 + 1 + 1)) (ta (j + 1 + 1 + 1 + 1)) = .inr (x, y) ∧ cu hD tk ta m (j + 1 + 1 + 1 + 2) ∧ (hv hD 22 7).toInt = x ∧ (hv hD 22 8).toInt = y ∧ 0 ≤ x ∧ x ≤ 7 ∧ 0 ≤ y ∧ y ≤ 7 ∧ ∀ q, tb (hl hD 22 6) q = true ↔ (tb (hl h91 22 6) q = true ∨ (q : Int) = 8 * y + x) := by
                rcases hrD with ⟨x, y, y1, -, y3⟩ | ⟨k, a, -, y2, -⟩
                · exact ⟨x, y, y1, y3⟩
                · omega
              have kD : kwok hD := k91.fr fD (fun _ => rfl)
              have rrD : ro hD tk ta m := r91.fr (fr_sub (by decide +kernel) fD)
              refine hs_aload_n ci_793_126 l0 ?_
              refine hs_gfr 1 23 ci_793_127 (by decide +kernel) hp ?_
              refine hs_gfr 13 30 ci_793_130 (by decide +kernel) hp ?_
              refine hs_iload_n ci_793_133 l1 ?_
              refine hs_aload_n ci_793_134 l0 ?_
              refine hs_gfi 7 ci_793_135 (by decide +kernel) hp ?_
              refine hs_iastore 0 9 (-2147483648) (2147483647) ci_793_138 (by decide +kernel) hp (by omega) (by omega) (ab_ige _) (ab_ile _) ?_
              intro h138 w138
              replace hp := w138.1
              have f138 : ab_fr [(30, 0, 9)] h138 hD := w138.f9 (n := 9) rfl k9
              have q138 : ab_hp h138 := ⟨hp, qD.2.fr (M := [(30, 0, 9)]) (by decide +kernel) f138⟩
              have c138 := hcD.fr f138 rfl rfl rfl rfl (fun _ => rfl)
              have k138 : kwok h138 := kD.fr f138 (fun _ => rfl)
              have r138 : ro h138 tk ta m := rrD.fr (fr_sub (by decide +kernel) f138)
              refine hs_aload_n ci_793_139 l0 ?_
              refine hs_gfr 1 23 ci_793_140 (by decide +kernel) hp ?_
              refine hs_gfr 14 31 ci_793_143 (by decide +kernel) hp ?_
              refine hs_iload_n ci_793_146 l1 ?_
              refine hs_aload_n ci_793_147 l0 ?_
              refine hs_gfi 8 ci_793_148 (by decide +kernel) hp ?_
              refine hs_iastore 0 9 (-2147483648) (2147483647) ci_793_151 (by decide +kernel) hp (by omega) (by omega) (ab_ige _) (ab_ile _) ?_
              intro h151 w151
              replace hp := w151.1
              refine hs_aload_n ci_793_152 l0 ?_
              refine hs_gfr 0 3 ci_793_153 (by decide +kernel) hp ?_
              refine hs_iconst ci_793_156 ?_
              refine hs_bipush ci_793_157 ?_
              have f151 : ab_fr [(31, 0, 9)] h151 h138 := w151.f9 (n := 9) rfl k9
              have q151 : ab_hp h151 := ⟨hp, q138.2.fr (M := [(31, 0, 9)]) (by decide +kernel) f151⟩
              have c151 := c138.fr f151 rfl rfl rfl rfl (fun _ => rfl)
              have k151 : kwok h151 := k138.fr f151 (fun _ => rfl)
              have r151 : ro h151 tk ta m := r138.fr (fr_sub (by decide +kernel) f151)
              refine hs_cv 752 8 2 ci_793_159 (by decide +kernel) (by decide +kernel) hp rfl (by rw [ml_752]; rfl) (k_num (lo := Int32.ofInt 0) (hi := (Int8.ofInt 60).toInt32) q151 k151 r151 c151) ?_
              rintro v9 hE ⟨qE, fE, cE, rE, e8, hrE⟩
              rw [e8]
              clear e8 v9
              replace hp := qE.1
              simp only [Option.toList, List.cons_append, List.nil_append]
              refine hs_if (t := 167) ci_793_162 rfl (fun b162 => ?_) (fun b162 => ?_)
              · simp only [hs_cd, ab_not] at b162
                obtain ⟨v1, hv1⟩ : ∃ v, sp_num (tk (j + 1 + 1 + 1 + 2)) (ta (j + 1 + 1 + 1 + 2)) 0 60 = .inr v := by
                  rcases hrE with ⟨v, y1, -, -⟩ | ⟨k, a, -, y2, -⟩
                  · rw [kI_0, kB_60] at y1
                    exact ⟨v, y1⟩
                  · omega
                have kE : kwok hE := k151.fr fE (fun _ => rfl)
                have rrE : ro hE tk ta m := r151.fr (fr_sub (by decide +kernel) fE)
                refine hs_aload_n ci_793_167 l0 ?_
                refine hs_gfr 1 23 ci_793_168 (by decide +kernel) hp ?_
                refine hs_gfr 15 32 ci_793_171 (by decide +kernel) hp ?_
                refine hs_iload_n ci_793_174 l1 ?_
                refine hs_aload_n ci_793_175 l0 ?_
                refine hs_gfr 0 3 ci_793_176 (by decide +kernel) hp ?_
                refine hs_cv 758 8 0 ci_793_179 (by decide +kernel) (by decide +kernel) hp rfl (by rw [ml_758]; rfl) (k_int qE) ?_
                rintro v9 h9 ⟨e9, e8⟩
                rw [e8, e9]
                clear e8 e9 v9 h9
                simp only [Option.toList, List.cons_append, List.nil_append]
                refine hs_iastore 0 9 (-2147483648) (2147483647) ci_793_182 (by decide +kernel) hp (by omega) (by omega) (ab_ige _) (ab_ile _) ?_
                intro h182 w182
                replace hp := w182.1
                refine hs_aload_n ci_793_183 l0 ?_
                refine hs_gfr 0 3 ci_793_184 (by decide +kernel) hp ?_
                refine hs_iconst ci_793_187 ?_
                refine hs_sipush ci_793_188 ?_
                have f182 : ab_fr [(32, 0, 9)] h182 hE := w182.f9 (n := 9) rfl k9
                have q182 : ab_hp h182 := ⟨hp, qE.2.fr (M := [(32, 0, 9)]) (by decide +kernel) f182⟩
                have c182 := cE.fr f182 rfl rfl rfl rfl (fun _ => rfl)
                have k182 : kwok h182 := kE.fr f182 (fun _ => rfl)
                have r182 : ro h182 tk ta m := rrE.fr (fr_sub (by decide +kernel) f182)
                refine hs_cv 752 8 2 ci_793_191 (by decide +kernel) (by decide +kernel) hp rfl (by rw [ml_752]; rfl) (k_num (lo := Int32.ofInt 0) (hi := (Int16.ofInt 399).toInt32) q182 k182 r182 c182) ?_
                rintro v9 hF ⟨qF, fF, cF, rF, e8, hrF⟩
                rw [e8]
                clear e8 v9
                replace hp := qF.1
                simp only [Option.toList, List.cons_append, List.nil_append]
                refine hs_if (t := 199) ci_793_194 rfl (fun b194 => ?_) (fun b194 => ?_)
                · simp only [hs_cd, ab_not] at b194
                  obtain ⟨v2, hv2⟩ : ∃ v, sp_num (tk (j + 1 + 1 + 1 + 2 + 1)) (ta (j + 1 + 1 + 1 + 2 + 1)) 0 399 = .inr v := by
                    rcases hrF with ⟨v, y1, -, -⟩ | ⟨k, a, -, y2, -⟩
                    · rw [kI_0, kS_399] at y1
                      exact ⟨v, y1⟩
                    · omega
                  have kF : kwok hF := k182.fr fF (fun _ => rfl)
                  have rrF : ro hF tk ta m := r182.fr (fr_sub (by decide +kernel) fF)
                  refine hs_aload_n ci_793_199 l0 ?_
                  refine hs_gfr 1 23 ci_793_200 (by decide +kernel) hp ?_
                  refine hs_gfr 16 33 ci_793_203 (by decide +kernel) hp ?_
                  refine hs_iload_n ci_793_206 l1 ?_
                  refine hs_aload_n ci_793_207 l0 ?_
                  refine hs_gfr 0 3 ci_793_208 (by decide +kernel) hp ?_
                  refine hs_cv 758 8 0 ci_793_211 (by decide +kernel) (by decide +kernel) hp rfl (by rw [ml_758]; rfl) (k_int qF) ?_
                  rintro v9 h9 ⟨e9, e8⟩
                  rw [e8, e9]
                  clear e8 e9 v9 h9
                  simp only [Option.toList, List.cons_append, List.nil_append]
                  refine hs_iastore 0 9 (-2147483648) (2147483647) ci_793_214 (by decide +kernel) hp (by omega) (by omega) (ab_ige _) (ab_ile _) ?_
                  intro h214 w214
                  replace hp := w214.1
                  refine hs_aload_n ci_793_215 l0 ?_
                  refine hs_gfr 1 23 ci_793_216 (by decide +kernel) hp ?_
                  refine hs_iload_n ci_793_219 l1 ?_
                  have f214 : ab_fr [(33, 0, 9)] h214 hF := w214.f9 (n := 9) rfl k9
                  have q214 : ab_hp h214 := ⟨hp, qF.2.fr (M := [(33, 0, 9)]) (by decide +kernel) f214⟩
                  have c214 := cF.fr f214 rfl rfl rfl rfl (fun _ => rfl)
                  have k214 : kwok h214 := kF.fr f214 (fun _ => rfl)
                  have r214 : ro h214 tk ta m := rrF.fr (fr_sub (by decide +kernel) f214)
                  refine hs_cv 801 1 1 ci_793_220 (by decide +kernel) (by decide +kernel) hp rfl (by rw [ml_801]; rfl) (c_lean hsc (by omega) (by omega) q214) ?_
                  rintro v9 hG ⟨qG, fG, e8⟩
                  rw [e8]
                  clear e8 v9
                  replace hp := qG.1
                  simp only [Option.toList, List.nil_append]
                  refine hs_aload_n ci_793_223 l0 ?_
                  refine hs_gfr 1 23 ci_793_224 (by decide +kernel) hp ?_
                  refine hs_iload_n ci_793_227 l1 ?_
                  refine hs_iconst ci_793_228 ?_
                  refine hs_iadd ci_793_229 ?_
                  refine hs_pfi 5 (0) (10) ci_793_230 (by decide +kernel) hp (by rw [i32_inc e5 (by omega) (by omega)]; omega) (by rw [i32_inc e5 (by omega) (by omega)]; omega) ?_
                  intro h230 w230
                  replace hp := w230.1
                  refine hs_iconst ci_793_233 ?_
                  have w230f : ab_fr [(23, 5, 5)] h230 hG := w230.fr rfl
                  have F214 : ab_fr [(3, 6, 11), (22, 6, 9), (23, 5, 5), (35, 0, 9), (36, 0, 9)] h230 h214 := (fr_sub (by decide +kernel) w230f).tr (fr_sub (by decide +kernel) fG)
                  have F151 : ab_fr [(3, 6, 11), (22, 6, 9), (23, 5, 5), (32, 0, 9), (33, 0, 9), (35, 0, 9), (36, 0, 9)] h230 h151 := (fr_sub (by decide +kernel) F214).tr ((fr_sub (by decide +kernel) f214).tr ((fr_sub (by decide +kernel) fF).tr ((fr_sub (by decide +kernel) f182).tr (fr_sub (by decide +kernel) fE))))
                  have F138 : ab_fr [(3, 6, 11), (22, 6, 9), (23, 5, 5), (31, 0, 9), (32, 0, 9), (33, 0, 9), (35, 0, 9), (36, 0, 9)] h230 h138 := (fr_sub (by decide +kernel) F151).tr (fr_sub (by decide +kernel) f151)
                  have F69 : ab_fr [(3, 6, 11), (22, 6, 9), (23, 5, 5), (29, 0, 9), (30, 0, 9), (31, 0, 9), (32, 0, 9), (33, 0, 9), (35, 0, 9), (36, 0, 9)] h230 h69 := (fr_sub (by decide +kernel) F138).tr ((fr_sub (by decide +kernel) f138).tr ((fr_sub (by decide +kernel) fD).tr ((fr_sub (by decide +kernel) f91).tr (fr_sub (by decide +kernel) fC))))
                  have F47 : ab_fr [(3, 6, 11), (22, 6, 9), (23, 5, 5), (28, 0, 9), (29, 0, 9), (30, 0, 9), (31, 0, 9), (32, 0, 9), (33, 0, 9), (35, 0, 9), (36, 0, 9)] h230 h47 := (fr_sub (by decide +kernel) F69).tr ((fr_sub (by decide +kernel) f69).tr (fr_sub (by decide +kernel) fB))
                  have F0 : ab_fr [(3, 6, 11), (22, 6, 9), (23, 5, 5), (27, 0, 9), (28, 0, 9), (29, 0, 9), (30, 0, 9), (31, 0, 9), (32, 0, 9), (33, 0, 9), (35, 0, 9), (36, 0, 9)] h230 h := (fr_sub (by decide +kernel) F47).tr ((fr_sub (by decide +kernel) f47).tr (fr_sub (by decide +kernel) fA))
                  have fT : ab_fr MRD h230 h := fr_sub (by decide +kernel) F0
                  refine hs_k ⟨3, some (.int (Int32.ofInt 1)), by decide +kernel, rv_b rt_793 (Or.inr (by decide)), ⟨hp, hq.2.fr (M := MRD) (by decide +kernel) fT⟩, fT, _, rfl, Or.inl ⟨_, j + 7, ?_, by decide, by omega, ?_, hP.prom (c := c) (gv := gv) (x := x) (y := y) (by omega) (fun k hk => ?_) (fun k hk => ?_) (fun q => ?_) (fun q => ?_) (fun q => ?_) (fun q => ?_) (fun b q hb => ?_) (fun q => ?_) ⟨bx1, bx2, by1, by2⟩⟩⟩
                  · unfold sp_prom
                    rw [if_neg (by omega), sbn_r hc1, sbn_r hg1, sbn_r hs1, if_neg (by omega), sbn_r hx1, sbn_r hv1, sbn_r hv2]
                  · have cG : cu hG tk ta m (j + 1 + 1 + 1 + 2 + 1 + 1) := (cF.fr f214 rfl rfl rfl rfl (fun _ => rfl)).fr fG rfl rfl rfl rfl (fun _ => rfl)
                    exact cG.fr w230f rfl rfl rfl rfl (fun _ => rfl)
                  · rw [w230.v]
                    by_cases e : k = 5
                    · rw [if_pos ⟨rfl, e⟩, if_pos e, i32_inc e5 (by omega) (by omega)]
                    · rw [if_neg (fun g => e g.2), if_neg e, hv_same (fG 23 k rfl), hv_same (f214 23 k rfl), hv_same (fF 23 k rfl), hv_same (f182 23 k rfl), hv_same (fE 23 k rfl), hv_same (f151 23 k rfl), hv_same (f138 23 k rfl), hv_same (fD 23 k rfl), hv_same (f91 23 k rfl), hv_same (fC 23 k rfl), hv_same (f69 23 k rfl), hv_same (fB 23 k rfl), hv_same (f47 23 k rfl), hv_same (fA 23 k rfl)]
                      exact hP.1 k hk
                  · rcases hk with rfl | rfl | rfl
                    · exact hv_same (F0 22 3 rfl)
                    · exact hv_same (F0 22 4 rfl)
                    · exact hv_same (F0 22 5 rfl)
                  · rw [hl_same (F47 27 q rfl), w47.v]
                    by_cases e : q = (ps.1 5).toNat
                    · rw [if_pos ⟨rfl, by omega⟩, if_pos e]
                      exact hc2
                    · rw [if_neg (by omega), if_neg e, hl_same (fA 27 q rfl)]
                  · rw [hv_same (F69 28 q rfl), w69.v]
                    by_cases e : q = (ps.1 5).toNat
                    · rw [if_pos ⟨rfl, by omega⟩, if_pos e]
                      exact hg2
                    · rw [if_neg (by omega), if_neg e, hv_same (fB 28 q rfl), hv_same (f47 28 q rfl), hv_same (fA 28 q rfl)]
                  · rw [hv_same (F138 30 q rfl), w138.v]
                    by_cases e : q = (ps.1 5).toNat
                    · rw [if_pos ⟨rfl, by omega⟩, if_pos e]
                      exact hx2
                    · rw [if_neg (by omega), if_neg e, hv_same (fD 30 q rfl), hv_same (f91 30 q rfl), hv_same (fC 30 q rfl), hv_same (f69 30 q rfl), hv_same (fB 30 q rfl), hv_same (f47 30 q rfl), hv_same (fA 30 q rfl)]
                  · rw [hv_same (F151 31 q rfl), w151.v]
                    by_cases e : q = (ps.1 5).toNat
                    · rw [if_pos ⟨rfl, by omega⟩, if_pos e, hv_same (f138 22 8 rfl)]
                      exact hy2
                    · rw [if_neg (by omega), if_neg e, hv_same (f138 31 q rfl), hv_same (fD 31 q rfl), hv_same (f91 31 q rfl), hv_same (fC 31 q rfl), hv_same (f69 31 q rfl), hv_same (fB 31 q rfl), hv_same (f47 31 q rfl), hv_same (fA 31 q rfl)]
                  · rcases hb with rfl | rfl | rfl | rfl
                    · exact F0 24 q rfl
                    · exact F0 25 q rfl
                    · exact F0 26 q rfl
                    · exact F0 34 q rfl
                  · have e1 : hl h230 22 6 = hl hD 22 6 := by rw [hl_same (w230f 22 6 rfl), hl_same (fG 22 6 rfl), hl_same (f214 22 6 rfl), hl_same (fF 22 6 rfl), hl_same (f182 22 6 rfl), hl_same (fE 22 6 rfl), hl_same (f151 22 6 rfl), hl_same (f138 22 6 rfl)]
                    have e2 : hl h91 22 6 = hl h 22 6 := by rw [hl_same (f91 22 6 rfl), hl_same (fC 22 6 rfl), hl_same (f69 22 6 rfl), hl_same (fB 22 6 rfl), hl_same (f47 22 6 rfl), hl_same (fA 22 6 rfl)]
                    rw [e1]
                    refine (hbit q).trans ?_
                    rw [e2]
                · simp only [hs_cd, ab_not] at b194
                  refine hs_iconst ci_793_197 ?_
                  rcases hrF with ⟨v, -, y2, -⟩ | ⟨k, a, y1, y2, y3⟩
                  · omega
                  · rw [kI_0, kS_399] at y1
                    refine hs_k ⟨3, some (.int (Int32.ofInt 0)), by decide +kernel, rv_b rt_793 (Or.inl (by decide)), qF, (fr_sub (M := MRD) (by decide +kernel) fF).tr ((fr_sub (M := MRD) (by decide +kernel) f182).tr ((fr_sub (M := MRD) (by decide +kernel) fE).tr ((fr_sub (M := MRD) (by decide +kernel) f151).tr ((fr_sub (M := MRD) (by decide +kernel) f138).tr ((fr_sub (M := MRD) (by decide +kernel) fD).tr ((fr_sub (M := MRD) (by decide +kernel) f91).tr ((fr_sub (M := MRD) (by decide +kernel) fC).tr ((fr_sub (M := MRD) (by decide +kernel) f69).tr ((fr_sub (M := MRD) (by decide +kernel) fB).tr ((fr_sub (M := MRD) (by decide +kernel) f47).tr (fr_sub (M := MRD) (by decide +kernel) fA))))))))))), _, rfl, Or.inr ⟨k, a, ?_, by decide, y3⟩⟩
                    unfold sp_prom
                    rw [if_neg (by omega), sbn_r hc1, sbn_r hg1, sbn_r hs1, if_neg (by omega), sbn_r hx1, sbn_r hv1, sbn_l y1]
              · simp only [hs_cd, ab_not] at b162
                refine hs_iconst ci_793_165 ?_
                rcases hrE with ⟨v, -, y2, -⟩ | ⟨k, a, y1, y2, y3⟩
                · omega
                · rw [kI_0, kB_60] at y1
                  refine hs_k ⟨3, some (.int (Int32.ofInt 0)), by decide +kernel, rv_b rt_793 (Or.inl (by decide)), qE, (fr_sub (M := MRD) (by decide +kernel) fE).tr ((fr_sub (M := MRD) (by decide +kernel) f151).tr ((fr_sub (M := MRD) (by decide +kernel) f138).tr ((fr_sub (M := MRD) (by decide +kernel) fD).tr ((fr_sub (M := MRD) (by decide +kernel) f91).tr ((fr_sub (M := MRD) (by decide +kernel) fC).tr ((fr_sub (M := MRD) (by decide +kernel) f69).tr ((fr_sub (M := MRD) (by decide +kernel) fB).tr ((fr_sub (M := MRD) (by decide +kernel) f47).tr (fr_sub (M := MRD) (by decide +kernel) fA))))))))), _, rfl, Or.inr ⟨k, a, ?_, by decide, y3⟩⟩
                  unfold sp_prom
                  rw [if_neg (by omega), sbn_r hc1, sbn_r hg1, sbn_r hs1, if_neg (by omega), sbn_r hx1, sbn_l y1]
            · simp only [hs_cd, ab_not] at b121
              refine hs_iconst ci_793_124 ?_
              rcases hrD with ⟨x, y, -, y2, -⟩ | ⟨k, a, y1, y2, y3⟩
              · omega
              · refine hs_k ⟨3, some (.int (Int32.ofInt 0)), by decide +kernel, rv_b rt_793 (Or.inl (by decide)), qD, (fr_sub (M := MRD) (by decide +kernel) fD).tr ((fr_sub (M := MRD) (by decide +kernel) f91).tr ((fr_sub (M := MRD) (by decide +kernel) fC).tr ((fr_sub (M := MRD) (by decide +kernel) f69).tr ((fr_sub (M := MRD) (by decide +kernel) fB).tr ((fr_sub (M := MRD) (by decide +kernel) f47).tr (fr_sub (M := MRD) (by decide +kernel) fA)))))), _, rfl, Or.inr ⟨k, a, ?_, by decide, y3⟩⟩
                unfold sp_prom
                rw [if_neg (by omega), sbn_r hc1, sbn_r hg1, sbn_r hs1, if_neg (by omega), sbn_l y1]
          · simp only [hs_cd, ab_not] at b105
            refine hs_aload_n ci_793_108 l0 ?_
            refine hs_gfr 0 3 ci_793_109 (by decide +kernel) hp ?_
            refine hs_iconst ci_793_112 ?_
            refine hs_cv 748 8 1 ci_793_113 (by decide +kernel) (by decide +kernel) hp rfl (by rw [ml_748]; rfl) (k_fail (Int32.ofInt 3) q91) ?_
            rintro v9 h2 ⟨r2, e8, hr2, q2, f2, g8, g9⟩
            rw [e8]
            clear e8 v9
            replace hp := q2.1
            simp only [Option.toList, List.cons_append, List.nil_append]
            refine hs_k ⟨3, some (.int r2), by decide +kernel, rv_b rt_793 (Or.inl hr2), q2, (fr_sub (M := MRD) (by decide +kernel) f2).tr ((fr_sub (M := MRD) (by decide +kernel) f91).tr ((fr_sub (M := MRD) (by decide +kernel) fC).tr ((fr_sub (M := MRD) (by decide +kernel) f69).tr ((fr_sub (M := MRD) (by decide +kernel) fB).tr ((fr_sub (M := MRD) (by decide +kernel) f47).tr (fr_sub (M := MRD) (by decide +kernel) fA)))))), _, rfl, Or.inr ⟨3, ta (j + 2), ?_, hr2, g8.trans kI_3, by rw [g9]; exact (c91.2 (by omega)).1⟩⟩
            unfold sp_prom
            rw [if_neg (by omega), sbn_r hc1, sbn_r hg1, sbn_r hs1, if_pos (by omega)]
        · simp only [hs_cd, ab_not] at b74
          refine hs_iconst ci_793_77 ?_
          rcases hrC with ⟨g, -, y2, -⟩ | ⟨k, a, y1, y2, y3⟩
          · omega
          · refine hs_k ⟨3, some (.int (Int32.ofInt 0)), by decide +kernel, rv_b rt_793 (Or.inl (by decide)), qC, (fr_sub (M := MRD) (by decide +kernel) fC).tr ((fr_sub (M := MRD) (by decide +kernel) f69).tr ((fr_sub (M := MRD) (by decide +kernel) fB).tr ((fr_sub (M := MRD) (by decide +kernel) f47).tr (fr_sub (M := MRD) (by decide +kernel) fA)))), _, rfl, Or.inr ⟨k, a, ?_, by decide, y3⟩⟩
            unfold sp_prom
            rw [if_neg (by omega), sbn_r hc1, sbn_r hg1, sbn_l y1]
      · simp only [hs_cd, ab_not] at b52
        refine hs_iconst ci_793_55 ?_
        rcases hrB with ⟨g, -, y2, -⟩ | ⟨k, a, y1, y2, y3⟩
        · omega
        · refine hs_k ⟨3, some (.int (Int32.ofInt 0)), by decide +kernel, rv_b rt_793 (Or.inl (by decide)), qB, (fr_sub (M := MRD) (by decide +kernel) fB).tr ((fr_sub (M := MRD) (by decide +kernel) f47).tr (fr_sub (M := MRD) (by decide +kernel) fA)), _, rfl, Or.inr ⟨k, a, ?_, by decide, y3⟩⟩
          unfold sp_prom
          rw [if_neg (by omega), sbn_r hc1, sbn_l y1]
    · simp only [hs_cd, ab_not] at b27
      refine hs_iconst ci_793_30 ?_
      rcases hrA with ⟨c, -, y2, -⟩ | ⟨k, a, y1, y2, y3⟩
      · omega
      · refine hs_k ⟨3, some (.int (Int32.ofInt 0)), by decide +kernel, rv_b rt_793 (Or.inl (by decide)), qA, fr_sub (M := MRD) (by decide +kernel) fA, _, rfl, Or.inr ⟨k, a, ?_, by decide, y3⟩⟩
        unfold sp_prom
        rw [if_neg (by omega), sbn_l y1]
  · simp only [hs_cd, ab_not, kB_10] at b11
    refine hs_aload_n ci_793_14 l0 ?_
    refine hs_gfr 0 3 ci_793_15 (by decide +kernel) hp ?_
    refine hs_iconst ci_793_18 ?_
    refine hs_cv 748 8 1 ci_793_19 (by decide +kernel) (by decide +kernel) hp rfl (by rw [ml_748]; rfl) (k_fail (Int32.ofInt 4) hq) ?_
    rintro v9 h2 ⟨r2, e8, hr2, q2, f2, g8, g9⟩
    rw [e8]
    clear e8 v9
    replace hp := q2.1
    simp only [Option.toList, List.cons_append, List.nil_append]
    refine hs_k ⟨3, some (.int r2), by decide +kernel, rv_b rt_793 (Or.inl hr2), q2, fr_sub (by decide +kernel) f2, _, rfl, Or.inr ⟨4, ta (j - 1), ?_, hr2, g8.trans kI_4, by rw [g9]; exact hcj.1⟩⟩
    unfold sp_prom
    rw [if_pos (by omega)]
