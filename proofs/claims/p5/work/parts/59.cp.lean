/-! BY HAND: rows copied slot by slot -/
theorem i32_add {x y : Int32} {a b : Int} (hx : x.toInt = a) (hy : y.toInt = b) (h1 : -2147483648 ≤ a + b) (h2 : a + b ≤ 2147483647) : (x + y).toInt = a + b := ab_toInt_add (by rw [hx, hy]) h1 h2
theorem i32_sub {x y : Int32} {a b : Int} (hx : x.toInt = a) (hy : y.toInt = b) (h1 : -2147483648 ≤ a - b) (h2 : a - b ≤ 2147483647) : (x - y).toInt = a - b := ab_toInt_sub (by rw [hx, hy]) h1 h2
theorem i32_mul {x y : Int32} {a b : Int} (hx : x.toInt = a) (hy : y.toInt = b) (h1 : -2147483648 ≤ a * b) (h2 : a * b ≤ 2147483647) : (x * y).toInt = a * b := by
  rw [Int32.toInt_mul, hx, hy]
  exact ab_bm h1 h2
/-- what an int's slot of an array of ints may be -/
def gsl (a k : Nat) : Option (Int × Int) := match ab_get a with
  | some (tag, rg) => (match tag with
    | 0 => (match ab_sl rg k with
      | some (.inl q) => some q
      | _ => none)
    | _ => none)
  | none => none
theorem gsl_v {a k : Nat} {q : Int × Int} (h : gsl a k = some q) : ∃ rg, ab_get a = some (0, rg) ∧ ab_sl rg k = some (.inl q) := by
  unfold gsl at h
  split at h
  next tag rg hg =>
    split at h
    · split at h
      next q' hq => cases h; exact ⟨rg, hg, hq⟩
      next => cases h
    · cases h
  next => cases h
theorem gsl_b {h : eg_H} {a k : Nat} {q : Int × Int} (hp : ab_hp0 h) (hg : gsl a k = some q) : q.1 ≤ (hv h a k).toInt ∧ (hv h a k).toInt ≤ q.2 := by
  obtain ⟨rg, g1, g2⟩ := gsl_v hg
  exact (hv_slot hp g1 g2).2
section CP
variable {sc : List Value} {sp u o dq pc : Nat} {K : Nat → eg_L → List Value → eg_H → Prop} {ls : eg_L} {st : List Value} {h : eg_H}
theorem hs_ial1 {a : Nat} {x : Int32} {q : Int × Int} (k : Nat) (c : ab_at u pc .iaload 1 = true) (hx : x.toInt = (k : Int)) (hg : gsl a k = some q) (hp : ab_hp0 h) (n : hs sc sp u o dq K (pc + 1) ls (.int (hv h a k) :: st) h) : hs sc sp u o dq K pc ls (.int x :: .ref a :: st) h := by
  obtain ⟨rg, g1, g2⟩ := gsl_v hg
  obtain ⟨e1, -, -⟩ := hv_slot hp g1 g2
  obtain ⟨⟨xs, s1, -⟩, -⟩ := hp a _ g1
  rw [ab_sh_slot s1] at e1
  have e2 := ab_sh_arr (show 0 < 100 by decide) s1
  have h0 : 0 ≤ x.toInt := by omega
  have e3 : x.toInt.toNat = k := by omega
  refine hs_s (G := eg_ar sc (fun t => Nat.beq t 0)) c rfl ?_ n
  simp only [eg_ar, eg_arr, e2, ab_ix h0, e3, e1, Nat.beq_refl]
theorem hs_ias1 {a : Nat} {x y : Int32} {q : Int × Int} (k : Nat) (c : ab_at u pc .iastore 1 = true) (hx : x.toInt = (k : Int)) (hg : gsl a k = some q) (hp : ab_hp0 h) (h1 : q.1 ≤ y.toInt) (h2 : y.toInt ≤ q.2) (n : ∀ h', hw h h' a k y → hs sc sp u o dq K (pc + 1) ls st h') : hs sc sp u o dq K pc ls (.int y :: .int x :: .ref a :: st) h := by
  obtain ⟨rg, g1, g2⟩ := gsl_v hg
  obtain ⟨⟨xs, s1, s2⟩, -⟩ := hp a _ g1
  have h6 := ab_sh_arr (show 0 < 100 by decide) s1
  have h0 : 0 ≤ x.toInt := by omega
  have e3 : x.toInt.toNat = k := by omega
  have hkx : k < xs.length := by rw [s2]; exact ab_sl_len g2
  obtain ⟨w0, hw0⟩ : ∃ w, eg_nth xs k = some w := ⟨_, by rw [eg_nth_eq, List.getElem?_eq_getElem hkx]⟩
  obtain ⟨p1, p2⟩ := ab_arrset (k := k) (w := .int y) (show 0 < 100 by decide) h6
  have hslot := ab_slot_set (w := .int y) s1 hkx p2 p1
  refine hs_s (G := eg_aw (fun t => Nat.beq t 0)) c rfl ?_ (n _ ⟨ab_hp_set hp g1 s1 g2 ⟨y, rfl, h1, h2⟩ p2 p1 hkx, hslot⟩)
  simp only [eg_aw, eg_arr, h6, ab_ix h0, e3, hw0, Nat.beq_refl, eg_nar]
end CP
/-- what comes out of one slot may go into the other -/
def ck2 (a ka b kb : Nat) : Bool := match gsl a ka, gsl b kb with
  | some (lo, hi), some (l2, h2) => decide (l2 ≤ lo) && decide (hi ≤ h2)
  | _, _ => false
theorem ck2_v {a ka b kb : Nat} (h : ck2 a ka b kb = true) : ∃ q q2 : Int × Int, gsl a ka = some q ∧ gsl b kb = some q2 ∧ q2.1 ≤ q.1 ∧ q.2 ≤ q2.2 := by
  unfold ck2 at h
  split at h
  next lo hi l2 h2 g1 g2 =>
    have c := Bool.and_eq_true_iff.mp h
    exact ⟨_, _, g1, g2, of_decide_eq_true c.1, of_decide_eq_true c.2⟩
  next => cases h
theorem in1 {M : ab_M} {a f t k : Nat} (h1 : f ≤ k) (h2 : k ≤ t) : ab_inr ((a, f, t) :: M) a k k = true := by
  unfold ab_inr
  rw [Nat.beq_refl, Nat.ble_eq.mpr h1, Nat.ble_eq.mpr h2]; rfl
def ckn (n : Nat) (f : Nat → Bool) : Bool := (List.range n).all f
theorem ckn_v {n : Nat} {f : Nat → Bool} (h : ckn n f = true) {i : Nat} (hi : i < n) : f i = true := List.all_eq_true.mp h i (List.mem_range.mpr hi)
/-- the slots of one object are another's -/
theorem hv_fr {M : ab_M} {h h' : eg_H} (f : ab_fr M h' h) {a k : Nat} (hn : ab_inr M a k k = false) : hv h' a k = hv h a k := hv_same (f a k hn)

theorem ci_1845_11 : ab_at 1845 11 (.iload_n 1) 1 = true := by decide +kernel
theorem ci_1845_12 : ab_at 1845 12 (.sipush 259) 3 = true := by decide +kernel
theorem ci_1845_15 : ab_at 1845 15 (.if_icmp .ge 24) 3 = true := by decide +kernel
theorem ci_1845_18 : ab_at 1845 18 (.aload_n 0) 1 = true := by decide +kernel
theorem ci_1845_19 : ab_at 1845 19 (.getfield 53) 3 = true := by decide +kernel
theorem ci_1845_22 : ab_at 1845 22 (.iload_n 1) 1 = true := by decide +kernel
theorem ci_1845_23 : ab_at 1845 23 (.aload_n 0) 1 = true := by decide +kernel
theorem ci_1845_24 : ab_at 1845 24 (.getfield 53) 3 = true := by decide +kernel
theorem ci_1845_27 : ab_at 1845 27 (.iload_n 1) 1 = true := by decide +kernel
theorem ci_1845_28 : ab_at 1845 28 (.bipush 37) 2 = true := by decide +kernel
theorem ci_1845_30 : ab_at 1845 30 (.iadd) 1 = true := by decide +kernel
theorem ci_1845_31 : ab_at 1845 31 (.iaload) 1 = true := by decide +kernel
theorem ci_1845_32 : ab_at 1845 32 (.iastore) 1 = true := by decide +kernel
theorem ci_1845_33 : ab_at 1845 33 (.iinc 1 1) 3 = true := by decide +kernel
theorem ci_1845_36 : ab_at 1845 36 (.goto (-25)) 3 = true := by decide +kernel
theorem ci_1845_47 : ab_at 1845 47 (.iload_n 1) 1 = true := by decide +kernel
theorem ci_1845_48 : ab_at 1845 48 (.bipush 37) 2 = true := by decide +kernel
theorem ci_1845_50 : ab_at 1845 50 (.if_icmp .ge 32) 3 = true := by decide +kernel
theorem ci_1845_53 : ab_at 1845 53 (.aload_n 0) 1 = true := by decide +kernel
theorem ci_1845_54 : ab_at 1845 54 (.getfield 53) 3 = true := by decide +kernel
theorem ci_1845_57 : ab_at 1845 57 (.bipush 37) 2 = true := by decide +kernel
theorem ci_1845_59 : ab_at 1845 59 (.aload_n 0) 1 = true := by decide +kernel
theorem ci_1845_60 : ab_at 1845 60 (.getfield 255) 3 = true := by decide +kernel
theorem ci_1845_63 : ab_at 1845 63 (.imul) 1 = true := by decide +kernel
theorem ci_1845_64 : ab_at 1845 64 (.iload_n 1) 1 = true := by decide +kernel
theorem ci_1845_65 : ab_at 1845 65 (.iadd) 1 = true := by decide +kernel
theorem ci_1845_66 : ab_at 1845 66 (.aload_n 0) 1 = true := by decide +kernel
theorem ci_1845_67 : ab_at 1845 67 (.getfield 33) 3 = true := by decide +kernel
theorem ci_1845_70 : ab_at 1845 70 (.bipush 89) 2 = true := by decide +kernel
theorem ci_1845_72 : ab_at 1845 72 (.iload_n 1) 1 = true := by decide +kernel
theorem ci_1845_73 : ab_at 1845 73 (.iadd) 1 = true := by decide +kernel
theorem ci_1845_74 : ab_at 1845 74 (.iaload) 1 = true := by decide +kernel
theorem ci_1845_75 : ab_at 1845 75 (.iastore) 1 = true := by decide +kernel
theorem ci_1845_76 : ab_at 1845 76 (.iinc 1 1) 3 = true := by decide +kernel
theorem ci_1845_79 : ab_at 1845 79 (.goto (-32)) 3 = true := by decide +kernel
theorem ci_1918_26 : ab_at 1918 26 (.iload_n 1) 1 = true := by decide +kernel
theorem ci_1918_27 : ab_at 1918 27 (.bipush 37) 2 = true := by decide +kernel
theorem ci_1918_29 : ab_at 1918 29 (.if_icmp .ge 32) 3 = true := by decide +kernel
theorem ci_1918_32 : ab_at 1918 32 (.aload_n 0) 1 = true := by decide +kernel
theorem ci_1918_33 : ab_at 1918 33 (.getfield 33) 3 = true := by decide +kernel
theorem ci_1918_36 : ab_at 1918 36 (.bipush 89) 2 = true := by decide +kernel
theorem ci_1918_38 : ab_at 1918 38 (.iload_n 1) 1 = true := by decide +kernel
theorem ci_1918_39 : ab_at 1918 39 (.iadd) 1 = true := by decide +kernel
theorem ci_1918_40 : ab_at 1918 40 (.aload_n 0) 1 = true := by decide +kernel
theorem ci_1918_41 : ab_at 1918 41 (.getfield 53) 3 = true := by decide +kernel
theorem ci_1918_44 : ab_at 1918 44 (.bipush 37) 2 = true := by decide +kernel
theorem ci_1918_46 : ab_at 1918 46 (.aload_n 0) 1 = true := by decide +kernel
theorem ci_1918_47 : ab_at 1918 47 (.getfield 255) 3 = true := by decide +kernel
theorem ci_1918_50 : ab_at 1918 50 (.imul) 1 = true := by decide +kernel
theorem ci_1918_51 : ab_at 1918 51 (.iload_n 1) 1 = true := by decide +kernel
theorem ci_1918_52 : ab_at 1918 52 (.iadd) 1 = true := by decide +kernel
theorem ci_1918_53 : ab_at 1918 53 (.iaload) 1 = true := by decide +kernel
theorem ci_1918_54 : ab_at 1918 54 (.iastore) 1 = true := by decide +kernel
theorem ci_1918_55 : ab_at 1918 55 (.iinc 1 1) 3 = true := by decide +kernel
theorem ci_1918_58 : ab_at 1918 58 (.goto (-32)) 3 = true := by decide +kernel
theorem ci_1938_2 : ab_at 1938 2 (.iload_n 1) 1 = true := by decide +kernel
theorem ci_1938_3 : ab_at 1938 3 (.bipush 37) 2 = true := by decide +kernel
theorem ci_1938_5 : ab_at 1938 5 (.if_icmp .ge 24) 3 = true := by decide +kernel
theorem ci_1938_8 : ab_at 1938 8 (.aload_n 0) 1 = true := by decide +kernel
theorem ci_1938_9 : ab_at 1938 9 (.getfield 56) 3 = true := by decide +kernel
theorem ci_1938_12 : ab_at 1938 12 (.iload_n 1) 1 = true := by decide +kernel
theorem ci_1938_13 : ab_at 1938 13 (.aload_n 0) 1 = true := by decide +kernel
theorem ci_1938_14 : ab_at 1938 14 (.getfield 33) 3 = true := by decide +kernel
theorem ci_1938_17 : ab_at 1938 17 (.bipush 89) 2 = true := by decide +kernel
theorem ci_1938_19 : ab_at 1938 19 (.iload_n 1) 1 = true := by decide +kernel
theorem ci_1938_20 : ab_at 1938 20 (.iadd) 1 = true := by decide +kernel
theorem ci_1938_21 : ab_at 1938 21 (.iaload) 1 = true := by decide +kernel
theorem ci_1938_22 : ab_at 1938 22 (.iastore) 1 = true := by decide +kernel
theorem ci_1938_23 : ab_at 1938 23 (.iinc 1 1) 3 = true := by decide +kernel
theorem ci_1938_26 : ab_at 1938 26 (.goto (-24)) 3 = true := by decide +kernel
theorem ci_1942_2 : ab_at 1942 2 (.iload_n 1) 1 = true := by decide +kernel
theorem ci_1942_3 : ab_at 1942 3 (.bipush 37) 2 = true := by decide +kernel
theorem ci_1942_5 : ab_at 1942 5 (.if_icmp .ge 24) 3 = true := by decide +kernel
theorem ci_1942_8 : ab_at 1942 8 (.aload_n 0) 1 = true := by decide +kernel
theorem ci_1942_9 : ab_at 1942 9 (.getfield 33) 3 = true := by decide +kernel
theorem ci_1942_12 : ab_at 1942 12 (.bipush 89) 2 = true := by decide +kernel
theorem ci_1942_14 : ab_at 1942 14 (.iload_n 1) 1 = true := by decide +kernel
theorem ci_1942_15 : ab_at 1942 15 (.iadd) 1 = true := by decide +kernel
theorem ci_1942_16 : ab_at 1942 16 (.aload_n 0) 1 = true := by decide +kernel
theorem ci_1942_17 : ab_at 1942 17 (.getfield 56) 3 = true := by decide +kernel
theorem ci_1942_20 : ab_at 1942 20 (.iload_n 1) 1 = true := by decide +kernel
theorem ci_1942_21 : ab_at 1942 21 (.iaload) 1 = true := by decide +kernel
theorem ci_1942_22 : ab_at 1942 22 (.iastore) 1 = true := by decide +kernel
theorem ci_1942_23 : ab_at 1942 23 (.iinc 1 1) 3 = true := by decide +kernel
theorem ci_1942_26 : ab_at 1942 26 (.goto (-24)) 3 = true := by decide +kernel
theorem ci_2057_230 : ab_at 2057 230 (.iload_n 3) 1 = true := by decide +kernel
theorem ci_2057_231 : ab_at 2057 231 (.bipush 37) 2 = true := by decide +kernel
theorem ci_2057_233 : ab_at 2057 233 (.if_icmp .ge 31) 3 = true := by decide +kernel
theorem ci_2057_236 : ab_at 2057 236 (.aload_n 0) 1 = true := by decide +kernel
theorem ci_2057_237 : ab_at 2057 237 (.getfield 53) 3 = true := by decide +kernel
theorem ci_2057_240 : ab_at 2057 240 (.bipush 37) 2 = true := by decide +kernel
theorem ci_2057_242 : ab_at 2057 242 (.aload_n 0) 1 = true := by decide +kernel
theorem ci_2057_243 : ab_at 2057 243 (.getfield 255) 3 = true := by decide +kernel
theorem ci_2057_246 : ab_at 2057 246 (.iconst 1) 1 = true := by decide +kernel
theorem ci_2057_247 : ab_at 2057 247 (.isub) 1 = true := by decide +kernel
theorem ci_2057_248 : ab_at 2057 248 (.imul) 1 = true := by decide +kernel
theorem ci_2057_249 : ab_at 2057 249 (.iload_n 3) 1 = true := by decide +kernel
theorem ci_2057_250 : ab_at 2057 250 (.iadd) 1 = true := by decide +kernel
theorem ci_2057_251 : ab_at 2057 251 (.aload_n 0) 1 = true := by decide +kernel
theorem ci_2057_252 : ab_at 2057 252 (.getfield 56) 3 = true := by decide +kernel
theorem ci_2057_255 : ab_at 2057 255 (.iload_n 3) 1 = true := by decide +kernel
theorem ci_2057_256 : ab_at 2057 256 (.iaload) 1 = true := by decide +kernel
theorem ci_2057_257 : ab_at 2057 257 (.iastore) 1 = true := by decide +kernel
theorem ci_2057_258 : ab_at 2057 258 (.iinc 3 1) 3 = true := by decide +kernel
theorem ci_2057_261 : ab_at 2057 261 (.goto (-31)) 3 = true := by decide +kernel
theorem ci_2113_18 : ab_at 2113 18 (.iload_n 2) 1 = true := by decide +kernel
theorem ci_2113_19 : ab_at 2113 19 (.sipush 307) 3 = true := by decide +kernel
theorem ci_2113_22 : ab_at 2113 22 (.if_icmp .ge 27) 3 = true := by decide +kernel
theorem ci_2113_25 : ab_at 2113 25 (.aload_n 0) 1 = true := by decide +kernel
theorem ci_2113_26 : ab_at 2113 26 (.getfield 90) 3 = true := by decide +kernel
theorem ci_2113_29 : ab_at 2113 29 (.sipush 307) 3 = true := by decide +kernel
theorem ci_2113_32 : ab_at 2113 32 (.iload_n 1) 1 = true := by decide +kernel
theorem ci_2113_33 : ab_at 2113 33 (.imul) 1 = true := by decide +kernel
theorem ci_2113_34 : ab_at 2113 34 (.iload_n 2) 1 = true := by decide +kernel
theorem ci_2113_35 : ab_at 2113 35 (.iadd) 1 = true := by decide +kernel
theorem ci_2113_36 : ab_at 2113 36 (.aload_n 0) 1 = true := by decide +kernel
theorem ci_2113_37 : ab_at 2113 37 (.getfield 33) 3 = true := by decide +kernel
theorem ci_2113_40 : ab_at 2113 40 (.iload_n 2) 1 = true := by decide +kernel
theorem ci_2113_41 : ab_at 2113 41 (.iaload) 1 = true := by decide +kernel
theorem ci_2113_42 : ab_at 2113 42 (.iastore) 1 = true := by decide +kernel
theorem ci_2113_43 : ab_at 2113 43 (.iinc 2 1) 3 = true := by decide +kernel
theorem ci_2113_46 : ab_at 2113 46 (.goto (-28)) 3 = true := by decide +kernel
theorem ci_2117_27 : ab_at 2117 27 (.iload_n 2) 1 = true := by decide +kernel
theorem ci_2117_28 : ab_at 2117 28 (.sipush 307) 3 = true := by decide +kernel
theorem ci_2117_31 : ab_at 2117 31 (.if_icmp .ge 27) 3 = true := by decide +kernel
theorem ci_2117_34 : ab_at 2117 34 (.aload_n 0) 1 = true := by decide +kernel
theorem ci_2117_35 : ab_at 2117 35 (.getfield 33) 3 = true := by decide +kernel
theorem ci_2117_38 : ab_at 2117 38 (.iload_n 2) 1 = true := by decide +kernel
theorem ci_2117_39 : ab_at 2117 39 (.aload_n 0) 1 = true := by decide +kernel
theorem ci_2117_40 : ab_at 2117 40 (.getfield 90) 3 = true := by decide +kernel
theorem ci_2117_43 : ab_at 2117 43 (.sipush 307) 3 = true := by decide +kernel
theorem ci_2117_46 : ab_at 2117 46 (.iload_n 1) 1 = true := by decide +kernel
theorem ci_2117_47 : ab_at 2117 47 (.imul) 1 = true := by decide +kernel
theorem ci_2117_48 : ab_at 2117 48 (.iload_n 2) 1 = true := by decide +kernel
theorem ci_2117_49 : ab_at 2117 49 (.iadd) 1 = true := by decide +kernel
theorem ci_2117_50 : ab_at 2117 50 (.iaload) 1 = true := by decide +kernel
theorem ci_2117_51 : ab_at 2117 51 (.iastore) 1 = true := by decide +kernel
theorem ci_2117_52 : ab_at 2117 52 (.iinc 2 1) 3 = true := by decide +kernel
theorem ci_2117_55 : ab_at 2117 55 (.goto (-28)) 3 = true := by decide +kernel
theorem ck_ka11 : ckn 259 (fun i => ck2 190 (i + 37) 190 i) = true := by decide +kernel
theorem cp_ka11 {sc : List Value} {sp dq : Nat} {h0 : eg_H} (r : Nat) : ∀ (i : Nat) (x : Int32) (ls : eg_L) (h : eg_H), r + i = 259 → ab_hp0 h → ab_fr [(190, 0, 295)] h h0 → eg_find 0 ls = some (.ref 182) → eg_find 1 ls = some (.int x) → x.toInt = (i : Int) → hs sc sp 1845 11 dq (fun pc' ls' st' h' => pc' = 39 ∧ st' = [] ∧ ab_hp0 h' ∧ ab_fr [(190, 0, 295)] h' h0 ∧ eg_find 0 ls' = some (.ref 182)) 11 ls [] h := by
  induction r with
  | zero =>
    intro i x ls h hi hp hf l0 l1 hx
    refine hs_iload_n ci_1845_11 l1 ?_
    refine hs_sipush ci_1845_12 ?_
    refine hs_ic (t := 39) ci_1845_15 rfl (fun b15 => ?_) (fun b15 => ?_)
    · simp only [hs_cd, ab_not] at b15
      exact hs_k ⟨rfl, rfl, hp, hf, l0⟩
    · simp only [hs_cd, ab_not] at b15
      have e9 : (Int16.ofInt 259).toInt32.toInt = 259 := rfl
      omega
  | succ r ih =>
    intro i x ls h hi hp hf l0 l1 hx
    obtain ⟨q, q2, g1, g2, g3, g4⟩ := ck2_v (ckn_v ck_ka11 (i := i) (by omega))
    have gb := gsl_b hp g1
    refine hs_iload_n ci_1845_11 l1 ?_
    refine hs_sipush ci_1845_12 ?_
    refine hs_ic (t := 39) ci_1845_15 rfl (fun b15 => ?_) (fun b15 => ?_)
    · simp only [hs_cd, ab_not] at b15
      have e9 : (Int16.ofInt 259).toInt32.toInt = 259 := rfl
      omega
    · simp only [hs_cd, ab_not] at b15
      refine hs_aload_n ci_1845_18 l0 ?_
      refine hs_gfr 23 190 ci_1845_19 (by decide +kernel) hp ?_
      refine hs_iload_n ci_1845_22 l1 ?_
      refine hs_aload_n ci_1845_23 l0 ?_
      refine hs_gfr 23 190 ci_1845_24 (by decide +kernel) hp ?_
      refine hs_iload_n ci_1845_27 l1 ?_
      refine hs_bipush ci_1845_28 ?_
      refine hs_iadd ci_1845_30 ?_
      refine hs_ial1 (i + 37) ci_1845_31 ((i32_add hx (b := 37) rfl (by omega) (by omega)).trans (by omega)) g1 hp ?_
      refine hs_ias1 i ci_1845_32 hx g2 hp (by omega) (by omega) ?_
      intro h9 w9
      refine hs_iinc ci_1845_33 (by decide +kernel) l1 ?_
      intro ls9 q9
      replace l0 := q9.2 0 _ (by decide) rfl l0
      have l1 := q9.1
      clear q9
      refine hs_goto (t := 11) ci_1845_36 rfl ?_
      replace hp := w9.1
      have hf9 := (w9.fr (M := [(190, 0, 295)]) (in1 (by omega) (by omega))).tr hf
      exact ih (i + 1) _ _ _ (by omega) hp hf9 l0 l1 (by have := i32_add hx (y := Int32.ofInt 1) (b := 1) rfl (by omega) (by omega); rw [this]; omega)
theorem ck_ka47 : ckn 8 (fun m => ckn 37 (fun i => ck2 184 (89 + i) 190 (37 * m + i))) = true := by decide +kernel
theorem cp_ka47 {sc : List Value} {sp dq : Nat} {h0 : eg_H} {m : Nat} (hm0 : m < 8) (r : Nat) : ∀ (i : Nat) (x : Int32) (ls : eg_L) (h : eg_H), r + i = 37 → ab_hp0 h → ab_fr [(190, 0, 295)] h h0 → (hv h 182 25).toInt = (m : Int) → eg_find 0 ls = some (.ref 182) → eg_find 1 ls = some (.int x) → x.toInt = (i : Int) → hs sc sp 1845 11 dq (fun pc' ls' st' h' => pc' = 82 ∧ st' = [] ∧ ab_hp0 h' ∧ ab_fr [(190, 0, 295)] h' h0 ∧ eg_find 0 ls' = some (.ref 182)) 47 ls [] h := by
  induction r with
  | zero =>
    intro i x ls h hi hp hf hm l0 l1 hx
    refine hs_iload_n ci_1845_47 l1 ?_
    refine hs_bipush ci_1845_48 ?_
    refine hs_ic (t := 82) ci_1845_50 rfl (fun b50 => ?_) (fun b50 => ?_)
    · simp only [hs_cd, ab_not] at b50
      exact hs_k ⟨rfl, rfl, hp, hf, l0⟩
    · simp only [hs_cd, ab_not] at b50
      have e9 : (Int8.ofInt 37).toInt32.toInt = 37 := rfl
      omega
  | succ r ih =>
    intro i x ls h hi hp hf hm l0 l1 hx
    obtain ⟨q, q2, g1, g2, g3, g4⟩ := ck2_v (ckn_v (ckn_v ck_ka47 hm0) (i := i) (by omega))
    have gb := gsl_b hp g1
    refine hs_iload_n ci_1845_47 l1 ?_
    refine hs_bipush ci_1845_48 ?_
    refine hs_ic (t := 82) ci_1845_50 rfl (fun b50 => ?_) (fun b50 => ?_)
    · simp only [hs_cd, ab_not] at b50
      have e9 : (Int8.ofInt 37).toInt32.toInt = 37 := rfl
      omega
    · simp only [hs_cd, ab_not] at b50
      refine hs_aload_n ci_1845_53 l0 ?_
      refine hs_gfr 23 190 ci_1845_54 (by decide +kernel) hp ?_
      refine hs_bipush ci_1845_57 ?_
      refine hs_aload_n ci_1845_59 l0 ?_
      refine hs_gfi 25 ci_1845_60 (by decide +kernel) hp ?_
      refine hs_imul ci_1845_63 ?_
      refine hs_iload_n ci_1845_64 l1 ?_
      refine hs_iadd ci_1845_65 ?_
      refine hs_aload_n ci_1845_66 l0 ?_
      refine hs_gfr 6 184 ci_1845_67 (by decide +kernel) hp ?_
      refine hs_bipush ci_1845_70 ?_
      refine hs_iload_n ci_1845_72 l1 ?_
      refine hs_iadd ci_1845_73 ?_
      refine hs_ial1 (89 + i) ci_1845_74 ((i32_add (a := 89) rfl hx (by omega) (by omega)).trans (by omega)) g1 hp ?_
      refine hs_ias1 (37 * m + i) ci_1845_75 ((i32_add (i32_mul (a := 37) rfl hm (by omega) (by omega)) hx (by omega) (by omega)).trans (by omega)) g2 hp (by omega) (by omega) ?_
      intro h9 w9
      refine hs_iinc ci_1845_76 (by decide +kernel) l1 ?_
      intro ls9 q9
      replace l0 := q9.2 0 _ (by decide) rfl l0
      have l1 := q9.1
      clear q9
      refine hs_goto (t := 47) ci_1845_79 rfl ?_
      replace hp := w9.1
      have hf9 := (w9.fr (M := [(190, 0, 295)]) (in1 (by omega) (by omega))).tr hf
      have hm9 : (hv h9 182 25).toInt = (m : Int) := by
        rw [w9.v 182 25, if_neg (fun e => absurd e.1 (by decide))]; exact hm
      exact ih (i + 1) _ _ _ (by omega) hp hf9 hm9 l0 l1 (by have := i32_add hx (y := Int32.ofInt 1) (b := 1) rfl (by omega) (by omega); rw [this]; omega)
theorem ck_un26 : ckn 8 (fun m => ckn 37 (fun i => ck2 190 (37 * m + i) 184 (89 + i))) = true := by decide +kernel
theorem cp_un26 {sc : List Value} {sp dq : Nat} {h0 : eg_H} {m : Nat} (hm0 : m < 8) (r : Nat) : ∀ (i : Nat) (x : Int32) (ls : eg_L) (h : eg_H), r + i = 37 → ab_hp0 h → ab_fr [(184, 89, 125)] h h0 → (hv h 182 25).toInt = (m : Int) → eg_find 0 ls = some (.ref 182) → eg_find 1 ls = some (.int x) → x.toInt = (i : Int) → hs sc sp 1918 11 dq (fun pc' ls' st' h' => pc' = 61 ∧ st' = [] ∧ ab_hp0 h' ∧ ab_fr [(184, 89, 125)] h' h0 ∧ eg_find 0 ls' = some (.ref 182)) 26 ls [] h := by
  induction r with
  | zero =>
    intro i x ls h hi hp hf hm l0 l1 hx
    refine hs_iload_n ci_1918_26 l1 ?_
    refine hs_bipush ci_1918_27 ?_
    refine hs_ic (t := 61) ci_1918_29 rfl (fun b29 => ?_) (fun b29 => ?_)
    · simp only [hs_cd, ab_not] at b29
      exact hs_k ⟨rfl, rfl, hp, hf, l0⟩
    · simp only [hs_cd, ab_not] at b29
      have e9 : (Int8.ofInt 37).toInt32.toInt = 37 := rfl
      omega
  | succ r ih =>
    intro i x ls h hi hp hf hm l0 l1 hx
    obtain ⟨q, q2, g1, g2, g3, g4⟩ := ck2_v (ckn_v (ckn_v ck_un26 hm0) (i := i) (by omega))
    have gb := gsl_b hp g1
    refine hs_iload_n ci_1918_26 l1 ?_
    refine hs_bipush ci_1918_27 ?_
    refine hs_ic (t := 61) ci_1918_29 rfl (fun b29 => ?_) (fun b29 => ?_)
    · simp only [hs_cd, ab_not] at b29
      have e9 : (Int8.ofInt 37).toInt32.toInt = 37 := rfl
      omega
    · simp only [hs_cd, ab_not] at b29
      refine hs_aload_n ci_1918_32 l0 ?_
      refine hs_gfr 6 184 ci_1918_33 (by decide +kernel) hp ?_
      refine hs_bipush ci_1918_36 ?_
      refine hs_iload_n ci_1918_38 l1 ?_
      refine hs_iadd ci_1918_39 ?_
      refine hs_aload_n ci_1918_40 l0 ?_
      refine hs_gfr 23 190 ci_1918_41 (by decide +kernel) hp ?_
      refine hs_bipush ci_1918_44 ?_
      refine hs_aload_n ci_1918_46 l0 ?_
      refine hs_gfi 25 ci_1918_47 (by decide +kernel) hp ?_
      refine hs_imul ci_1918_50 ?_
      refine hs_iload_n ci_1918_51 l1 ?_
      refine hs_iadd ci_1918_52 ?_
      refine hs_ial1 (37 * m + i) ci_1918_53 ((i32_add (i32_mul (a := 37) rfl hm (by omega) (by omega)) hx (by omega) (by omega)).trans (by omega)) g1 hp ?_
      refine hs_ias1 (89 + i) ci_1918_54 ((i32_add (a := 89) rfl hx (by omega) (by omega)).trans (by omega)) g2 hp (by omega) (by omega) ?_
      intro h9 w9
      refine hs_iinc ci_1918_55 (by decide +kernel) l1 ?_
      intro ls9 q9
      replace l0 := q9.2 0 _ (by decide) rfl l0
      have l1 := q9.1
      clear q9
      refine hs_goto (t := 26) ci_1918_58 rfl ?_
      replace hp := w9.1
      have hf9 := (w9.fr (M := [(184, 89, 125)]) (in1 (by omega) (by omega))).tr hf
      have hm9 : (hv h9 182 25).toInt = (m : Int) := by
        rw [w9.v 182 25, if_neg (fun e => absurd e.1 (by decide))]; exact hm
      exact ih (i + 1) _ _ _ (by omega) hp hf9 hm9 l0 l1 (by have := i32_add hx (y := Int32.ofInt 1) (b := 1) rfl (by omega) (by omega); rw [this]; omega)
theorem ck_tr2 : ckn 37 (fun i => ck2 184 (89 + i) 191 i) = true := by decide +kernel
theorem cp_tr2 {sc : List Value} {sp dq : Nat} {h0 : eg_H} (r : Nat) : ∀ (i : Nat) (x : Int32) (ls : eg_L) (h : eg_H), r + i = 37 → ab_hp0 h → ab_fr [(191, 0, 36)] h h0 → eg_find 0 ls = some (.ref 182) → eg_find 1 ls = some (.int x) → x.toInt = (i : Int) → hs sc sp 1938 11 dq (fun pc' ls' st' h' => pc' = 29 ∧ st' = [] ∧ ab_hp0 h' ∧ ab_fr [(191, 0, 36)] h' h0 ∧ eg_find 0 ls' = some (.ref 182)) 2 ls [] h := by
  induction r with
  | zero =>
    intro i x ls h hi hp hf l0 l1 hx
    refine hs_iload_n ci_1938_2 l1 ?_
    refine hs_bipush ci_1938_3 ?_
    refine hs_ic (t := 29) ci_1938_5 rfl (fun b5 => ?_) (fun b5 => ?_)
    · simp only [hs_cd, ab_not] at b5
      exact hs_k ⟨rfl, rfl, hp, hf, l0⟩
    · simp only [hs_cd, ab_not] at b5
      have e9 : (Int8.ofInt 37).toInt32.toInt = 37 := rfl
      omega
  | succ r ih =>
    intro i x ls h hi hp hf l0 l1 hx
    obtain ⟨q, q2, g1, g2, g3, g4⟩ := ck2_v (ckn_v ck_tr2 (i := i) (by omega))
    have gb := gsl_b hp g1
    refine hs_iload_n ci_1938_2 l1 ?_
    refine hs_bipush ci_1938_3 ?_
    refine hs_ic (t := 29) ci_1938_5 rfl (fun b5 => ?_) (fun b5 => ?_)
    · simp only [hs_cd, ab_not] at b5
      have e9 : (Int8.ofInt 37).toInt32.toInt = 37 := rfl
      omega
    · simp only [hs_cd, ab_not] at b5
      refine hs_aload_n ci_1938_8 l0 ?_
      refine hs_gfr 24 191 ci_1938_9 (by decide +kernel) hp ?_
      refine hs_iload_n ci_1938_12 l1 ?_
      refine hs_aload_n ci_1938_13 l0 ?_
      refine hs_gfr 6 184 ci_1938_14 (by decide +kernel) hp ?_
      refine hs_bipush ci_1938_17 ?_
      refine hs_iload_n ci_1938_19 l1 ?_
      refine hs_iadd ci_1938_20 ?_
      refine hs_ial1 (89 + i) ci_1938_21 ((i32_add (a := 89) rfl hx (by omega) (by omega)).trans (by omega)) g1 hp ?_
      refine hs_ias1 i ci_1938_22 hx g2 hp (by omega) (by omega) ?_
      intro h9 w9
      refine hs_iinc ci_1938_23 (by decide +kernel) l1 ?_
      intro ls9 q9
      replace l0 := q9.2 0 _ (by decide) rfl l0
      have l1 := q9.1
      clear q9
      refine hs_goto (t := 2) ci_1938_26 rfl ?_
      replace hp := w9.1
      have hf9 := (w9.fr (M := [(191, 0, 36)]) (in1 (by omega) (by omega))).tr hf
      exact ih (i + 1) _ _ _ (by omega) hp hf9 l0 l1 (by have := i32_add hx (y := Int32.ofInt 1) (b := 1) rfl (by omega) (by omega); rw [this]; omega)
theorem ck_ba2 : ckn 37 (fun i => ck2 191 i 184 (89 + i)) = true := by decide +kernel
theorem cp_ba2 {sc : List Value} {sp dq : Nat} {h0 : eg_H} (r : Nat) : ∀ (i : Nat) (x : Int32) (ls : eg_L) (h : eg_H), r + i = 37 → ab_hp0 h → ab_fr [(184, 89, 125)] h h0 → eg_find 0 ls = some (.ref 182) → eg_find 1 ls = some (.int x) → x.toInt = (i : Int) → hs sc sp 1942 11 dq (fun pc' ls' st' h' => pc' = 29 ∧ st' = [] ∧ ab_hp0 h' ∧ ab_fr [(184, 89, 125)] h' h0 ∧ eg_find 0 ls' = some (.ref 182)) 2 ls [] h := by
  induction r with
  | zero =>
    intro i x ls h hi hp hf l0 l1 hx
    refine hs_iload_n ci_1942_2 l1 ?_
    refine hs_bipush ci_1942_3 ?_
    refine hs_ic (t := 29) ci_1942_5 rfl (fun b5 => ?_) (fun b5 => ?_)
    · simp only [hs_cd, ab_not] at b5
      exact hs_k ⟨rfl, rfl, hp, hf, l0⟩
    · simp only [hs_cd, ab_not] at b5
      have e9 : (Int8.ofInt 37).toInt32.toInt = 37 := rfl
      omega
  | succ r ih =>
    intro i x ls h hi hp hf l0 l1 hx
    obtain ⟨q, q2, g1, g2, g3, g4⟩ := ck2_v (ckn_v ck_ba2 (i := i) (by omega))
    have gb := gsl_b hp g1
    refine hs_iload_n ci_1942_2 l1 ?_
    refine hs_bipush ci_1942_3 ?_
    refine hs_ic (t := 29) ci_1942_5 rfl (fun b5 => ?_) (fun b5 => ?_)
    · simp only [hs_cd, ab_not] at b5
      have e9 : (Int8.ofInt 37).toInt32.toInt = 37 := rfl
      omega
    · simp only [hs_cd, ab_not] at b5
      refine hs_aload_n ci_1942_8 l0 ?_
      refine hs_gfr 6 184 ci_1942_9 (by decide +kernel) hp ?_
      refine hs_bipush ci_1942_12 ?_
      refine hs_iload_n ci_1942_14 l1 ?_
      refine hs_iadd ci_1942_15 ?_
      refine hs_aload_n ci_1942_16 l0 ?_
      refine hs_gfr 24 191 ci_1942_17 (by decide +kernel) hp ?_
      refine hs_iload_n ci_1942_20 l1 ?_
      refine hs_ial1 i ci_1942_21 hx g1 hp ?_
      refine hs_ias1 (89 + i) ci_1942_22 ((i32_add (a := 89) rfl hx (by omega) (by omega)).trans (by omega)) g2 hp (by omega) (by omega) ?_
      intro h9 w9
      refine hs_iinc ci_1942_23 (by decide +kernel) l1 ?_
      intro ls9 q9
      replace l0 := q9.2 0 _ (by decide) rfl l0
      have l1 := q9.1
      clear q9
      refine hs_goto (t := 2) ci_1942_26 rfl ?_
      replace hp := w9.1
      have hf9 := (w9.fr (M := [(184, 89, 125)]) (in1 (by omega) (by omega))).tr hf
      exact ih (i + 1) _ _ _ (by omega) hp hf9 l0 l1 (by have := i32_add hx (y := Int32.ofInt 1) (b := 1) rfl (by omega) (by omega); rw [this]; omega)
theorem ck_bk230 : ckn 9 (fun m => (Nat.beq m 0) || ckn 37 (fun i => ck2 191 i 190 (37 * (m - 1) + i))) = true := by decide +kernel
theorem cp_bk230 {sc : List Value} {sp dq : Nat} {h0 : eg_H} {m : Nat} (hm0 : 1 ≤ m ∧ m ≤ 8) (y1 : Int32) (y2 : Int32) (r : Nat) : ∀ (i : Nat) (x : Int32) (ls : eg_L) (h : eg_H), r + i = 37 → ab_hp0 h → ab_fr [(190, 0, 295)] h h0 → (hv h 182 25).toInt = (m : Int) → eg_find 0 ls = some (.ref 182) → eg_find 3 ls = some (.int x) → x.toInt = (i : Int) → eg_find 1 ls = some (.int y1) → eg_find 2 ls = some (.int y2) → hs sc sp 2057 11 dq (fun pc' ls' st' h' => pc' = 264 ∧ st' = [] ∧ ab_hp0 h' ∧ ab_fr [(190, 0, 295)] h' h0 ∧ eg_find 0 ls' = some (.ref 182) ∧ eg_find 1 ls' = some (.int y1) ∧ eg_find 2 ls' = some (.int y2)) 230 ls [] h := by
  induction r with
  | zero =>
    intro i x ls h hi hp hf hm l0 l3 hx l1 l2
    refine hs_iload_n ci_2057_230 l3 ?_
    refine hs_bipush ci_2057_231 ?_
    refine hs_ic (t := 264) ci_2057_233 rfl (fun b233 => ?_) (fun b233 => ?_)
    · simp only [hs_cd, ab_not] at b233
      exact hs_k ⟨rfl, rfl, hp, hf, l0, l1, l2⟩
    · simp only [hs_cd, ab_not] at b233
      have e9 : (Int8.ofInt 37).toInt32.toInt = 37 := rfl
      omega
  | succ r ih =>
    intro i x ls h hi hp hf hm l0 l3 hx l1 l2
    have ck9 := ckn_v ck_bk230 (i := m) (by omega)
    have ck8 : Nat.beq m 0 = false := by
      cases hb : Nat.beq m 0 with
      | false => rfl
      | true => have := Nat.eq_of_beq_eq_true hb; omega
    rw [ck8] at ck9
    obtain ⟨q, q2, g1, g2, g3, g4⟩ := ck2_v (ckn_v ck9 (i := i) (by omega))
    have gb := gsl_b hp g1
    refine hs_iload_n ci_2057_230 l3 ?_
    refine hs_bipush ci_2057_231 ?_
    refine hs_ic (t := 264) ci_2057_233 rfl (fun b233 => ?_) (fun b233 => ?_)
    · simp only [hs_cd, ab_not] at b233
      have e9 : (Int8.ofInt 37).toInt32.toInt = 37 := rfl
      omega
    · simp only [hs_cd, ab_not] at b233
      refine hs_aload_n ci_2057_236 l0 ?_
      refine hs_gfr 23 190 ci_2057_237 (by decide +kernel) hp ?_
      refine hs_bipush ci_2057_240 ?_
      refine hs_aload_n ci_2057_242 l0 ?_
      refine hs_gfi 25 ci_2057_243 (by decide +kernel) hp ?_
      refine hs_iconst ci_2057_246 ?_
      refine hs_isub ci_2057_247 ?_
      refine hs_imul ci_2057_248 ?_
      refine hs_iload_n ci_2057_249 l3 ?_
      refine hs_iadd ci_2057_250 ?_
      refine hs_aload_n ci_2057_251 l0 ?_
      refine hs_gfr 24 191 ci_2057_252 (by decide +kernel) hp ?_
      refine hs_iload_n ci_2057_255 l3 ?_
      refine hs_ial1 i ci_2057_256 hx g1 hp ?_
      refine hs_ias1 (37 * (m - 1) + i) ci_2057_257 ((i32_add (i32_mul (a := 37) rfl (i32_sub hm (b := 1) rfl (by omega) (by omega)) (by omega) (by omega)) hx (by omega) (by omega)).trans (by omega)) g2 hp (by omega) (by omega) ?_
      intro h9 w9
      refine hs_iinc ci_2057_258 (by decide +kernel) l3 ?_
      intro ls9 q9
      replace l0 := q9.2 0 _ (by decide) rfl l0
      replace l1 := q9.2 1 _ (by decide) rfl l1
      replace l2 := q9.2 2 _ (by decide) rfl l2
      have l3 := q9.1
      clear q9
      refine hs_goto (t := 230) ci_2057_261 rfl ?_
      replace hp := w9.1
      have hf9 := (w9.fr (M := [(190, 0, 295)]) (in1 (by omega) (by omega))).tr hf
      have hm9 : (hv h9 182 25).toInt = (m : Int) := by
        rw [w9.v 182 25, if_neg (fun e => absurd e.1 (by decide))]; exact hm
      exact ih (i + 1) _ _ _ (by omega) hp hf9 hm9 l0 l3 (by have := i32_add hx (y := Int32.ofInt 1) (b := 1) rfl (by omega) (by omega); rw [this]; omega) l1 l2
theorem ck_im18 : ckn 2 (fun m => ckn 307 (fun i => ck2 184 i 201 (307 * m + i))) = true := by decide +kernel
theorem cp_im18 {sc : List Value} {sp dq : Nat} {h0 : eg_H} {m : Nat} (hm0 : m < 2) (y1 : Int32) (r : Nat) : ∀ (i : Nat) (x : Int32) (ls : eg_L) (h : eg_H), r + i = 307 → ab_hp0 h → ab_fr [(201, 307 * m, 307 * m + 306)] h h0 → y1.toInt = (m : Int) → (∀ j, j < i → hv h 201 (307 * m + j) = hv h0 184 j) → eg_find 0 ls = some (.ref 182) → eg_find 2 ls = some (.int x) → x.toInt = (i : Int) → eg_find 1 ls = some (.int y1) → hs sc sp 2113 11 dq (fun pc' ls' st' h' => pc' = 49 ∧ st' = [] ∧ ab_hp0 h' ∧ ab_fr [(201, 307 * m, 307 * m + 306)] h' h0 ∧ eg_find 0 ls' = some (.ref 182) ∧ eg_find 1 ls' = some (.int y1) ∧ (∀ j, j < 307 → hv h' 201 (307 * m + j) = hv h0 184 j)) 18 ls [] h := by
  induction r with
  | zero =>
    intro i x ls h hi hp hf hm hxe l0 l2 hx l1
    refine hs_iload_n ci_2113_18 l2 ?_
    refine hs_sipush ci_2113_19 ?_
    refine hs_ic (t := 49) ci_2113_22 rfl (fun b22 => ?_) (fun b22 => ?_)
    · simp only [hs_cd, ab_not] at b22
      exact hs_k ⟨rfl, rfl, hp, hf, l0, l1, fun j hj => hxe j (by omega)⟩
    · simp only [hs_cd, ab_not] at b22
      have e9 : (Int16.ofInt 307).toInt32.toInt = 307 := rfl
      omega
  | succ r ih =>
    intro i x ls h hi hp hf hm hxe l0 l2 hx l1
    obtain ⟨q, q2, g1, g2, g3, g4⟩ := ck2_v (ckn_v (ckn_v ck_im18 hm0) (i := i) (by omega))
    have gb := gsl_b hp g1
    refine hs_iload_n ci_2113_18 l2 ?_
    refine hs_sipush ci_2113_19 ?_
    refine hs_ic (t := 49) ci_2113_22 rfl (fun b22 => ?_) (fun b22 => ?_)
    · simp only [hs_cd, ab_not] at b22
      have e9 : (Int16.ofInt 307).toInt32.toInt = 307 := rfl
      omega
    · simp only [hs_cd, ab_not] at b22
      refine hs_aload_n ci_2113_25 l0 ?_
      refine hs_gfr 51 201 ci_2113_26 (by decide +kernel) hp ?_
      refine hs_sipush ci_2113_29 ?_
      refine hs_iload_n ci_2113_32 l1 ?_
      refine hs_imul ci_2113_33 ?_
      refine hs_iload_n ci_2113_34 l2 ?_
      refine hs_iadd ci_2113_35 ?_
      refine hs_aload_n ci_2113_36 l0 ?_
      refine hs_gfr 6 184 ci_2113_37 (by decide +kernel) hp ?_
      refine hs_iload_n ci_2113_40 l2 ?_
      refine hs_ial1 i ci_2113_41 hx g1 hp ?_
      refine hs_ias1 (307 * m + i) ci_2113_42 ((i32_add (i32_mul (a := 307) rfl hm (by omega) (by omega)) hx (by omega) (by omega)).trans (by omega)) g2 hp (by omega) (by omega) ?_
      intro h9 w9
      refine hs_iinc ci_2113_43 (by decide +kernel) l2 ?_
      intro ls9 q9
      replace l0 := q9.2 0 _ (by decide) rfl l0
      replace l1 := q9.2 1 _ (by decide) rfl l1
      have l2 := q9.1
      clear q9
      refine hs_goto (t := 18) ci_2113_46 rfl ?_
      replace hp := w9.1
      have hf9 := (w9.fr (M := [(201, 307 * m, 307 * m + 306)]) (in1 (by omega) (by omega))).tr hf
      have hx9 : ∀ j, j < i + 1 → hv h9 201 (307 * m + j) = hv h0 184 j := fun j hj => by
        rw [w9.v]
        by_cases e : j = i
        · subst e
          rw [if_pos ⟨rfl, rfl⟩]
          exact hv_fr hf (by
            unfold ab_inr
            rfl)
        · rw [if_neg (by rintro ⟨-, e2⟩; omega)]
          exact hxe j (by omega)
      exact ih (i + 1) _ _ _ (by omega) hp hf9 hm hx9 l0 l2 (by have := i32_add hx (y := Int32.ofInt 1) (b := 1) rfl (by omega) (by omega); rw [this]; omega) l1
theorem ck_re27 : ckn 2 (fun m => ckn 307 (fun i => ck2 201 (307 * m + i) 184 i)) = true := by decide +kernel
theorem cp_re27 {sc : List Value} {sp dq : Nat} {h0 : eg_H} {m : Nat} (hm0 : m < 2) (y1 : Int32) (r : Nat) : ∀ (i : Nat) (x : Int32) (ls : eg_L) (h : eg_H), r + i = 307 → ab_hp0 h → ab_fr [(184, 0, 306)] h h0 → y1.toInt = (m : Int) → (∀ j, j < i → hv h 184 j = hv h0 201 (307 * m + j)) → eg_find 0 ls = some (.ref 182) → eg_find 2 ls = some (.int x) → x.toInt = (i : Int) → eg_find 1 ls = some (.int y1) → hs sc sp 2117 11 dq (fun pc' ls' st' h' => pc' = 58 ∧ st' = [] ∧ ab_hp0 h' ∧ ab_fr [(184, 0, 306)] h' h0 ∧ eg_find 0 ls' = some (.ref 182) ∧ eg_find 1 ls' = some (.int y1) ∧ (∀ j, j < 307 → hv h' 184 j = hv h0 201 (307 * m + j))) 27 ls [] h := by
  induction r with
  | zero =>
    intro i x ls h hi hp hf hm hxe l0 l2 hx l1
    refine hs_iload_n ci_2117_27 l2 ?_
    refine hs_sipush ci_2117_28 ?_
    refine hs_ic (t := 58) ci_2117_31 rfl (fun b31 => ?_) (fun b31 => ?_)
    · simp only [hs_cd, ab_not] at b31
      exact hs_k ⟨rfl, rfl, hp, hf, l0, l1, fun j hj => hxe j (by omega)⟩
    · simp only [hs_cd, ab_not] at b31
      have e9 : (Int16.ofInt 307).toInt32.toInt = 307 := rfl
      omega
  | succ r ih =>
    intro i x ls h hi hp hf hm hxe l0 l2 hx l1
    obtain ⟨q, q2, g1, g2, g3, g4⟩ := ck2_v (ckn_v (ckn_v ck_re27 hm0) (i := i) (by omega))
    have gb := gsl_b hp g1
    refine hs_iload_n ci_2117_27 l2 ?_
    refine hs_sipush ci_2117_28 ?_
    refine hs_ic (t := 58) ci_2117_31 rfl (fun b31 => ?_) (fun b31 => ?_)
    · simp only [hs_cd, ab_not] at b31
      have e9 : (Int16.ofInt 307).toInt32.toInt = 307 := rfl
      omega
    · simp only [hs_cd, ab_not] at b31
      refine hs_aload_n ci_2117_34 l0 ?_
      refine hs_gfr 6 184 ci_2117_35 (by decide +kernel) hp ?_
      refine hs_iload_n ci_2117_38 l2 ?_
      refine hs_aload_n ci_2117_39 l0 ?_
      refine hs_gfr 51 201 ci_2117_40 (by decide +kernel) hp ?_
      refine hs_sipush ci_2117_43 ?_
      refine hs_iload_n ci_2117_46 l1 ?_
      refine hs_imul ci_2117_47 ?_
      refine hs_iload_n ci_2117_48 l2 ?_
      refine hs_iadd ci_2117_49 ?_
      refine hs_ial1 (307 * m + i) ci_2117_50 ((i32_add (i32_mul (a := 307) rfl hm (by omega) (by omega)) hx (by omega) (by omega)).trans (by omega)) g1 hp ?_
      refine hs_ias1 i ci_2117_51 hx g2 hp (by omega) (by omega) ?_
      intro h9 w9
      refine hs_iinc ci_2117_52 (by decide +kernel) l2 ?_
      intro ls9 q9
      replace l0 := q9.2 0 _ (by decide) rfl l0
      replace l1 := q9.2 1 _ (by decide) rfl l1
      have l2 := q9.1
      clear q9
      refine hs_goto (t := 27) ci_2117_55 rfl ?_
      replace hp := w9.1
      have hf9 := (w9.fr (M := [(184, 0, 306)]) (in1 (by omega) (by omega))).tr hf
      have hx9 : ∀ j, j < i + 1 → hv h9 184 j = hv h0 201 (307 * m + j) := fun j hj => by
        rw [w9.v]
        by_cases e : j = i
        · subst e
          rw [if_pos ⟨rfl, rfl⟩]
          exact hv_fr hf (by
            unfold ab_inr
            rfl)
        · rw [if_neg (by rintro ⟨-, e2⟩; omega)]
          exact hxe j (by omega)
      exact ih (i + 1) _ _ _ (by omega) hp hf9 hm hx9 l0 l2 (by have := i32_add hx (y := Int32.ofInt 1) (b := 1) rfl (by omega) (by omega); rw [this]; omega) l1
