/-! BY HAND: a summary out of a walk -/
def ck_hd (q : ab_Q) : Bool := q.2.2.2.2.2.2.1.all (fun e => ab_nd e.2.2.1 && Nat.ble q.2.2.2.2.1.1 e.2.1) && Nat.ble 2 q.2.2.2.2.1.1
/-- one of the ends that a summary tells -/
def hs_E (sc : List Value) (q : ab_Q) (ν : Nat → Int) (h : eg_H) : Nat → eg_L → List Value → eg_H → Prop := fun pc' ls' st' h' => ∃ e ∈ q.2.2.2.2.2.2.1, e.1 = pc' ∧ ∃ ν', ab_r sc.length ν' e.2 ls' st' h' ∧ ab_ext ν ν' q.2.2.2.2.1.1 ∧ ab_fr q.2.2.2.2.2.1 h' h
theorem tr_hand {q : ab_Q} (ck : ck_hd q = true) (H : ∀ sc sp, ab_osc sc → ∀ dq, q.2.2.2.1 ≤ dq → ∀ (ν : Nat → Int) (ls : eg_L) (st : List Value) (h : eg_H), ab_r sc.length ν q.2.2.2.2.1 ls st h → hs sc sp q.1 q.2.1 dq (hs_E sc q ν h) q.2.2.1 ls st h) : ab_Tr q := by
  intro sc sp hsc
  have c1 := Bool.and_eq_true_iff.mp ck
  have hends : ∀ e ∈ q.2.2.2.2.2.2.1, ab_nd e.2.2.1 = true ∧ q.2.2.2.2.1.1 ≤ e.2.1 := fun e he => by
    have := Bool.and_eq_true_iff.mp (List.all_eq_true.mp c1.1 e he)
    exact ⟨this.1, Nat.le_of_ble_eq_true this.2⟩
  refine ⟨hends, Nat.le_of_ble_eq_true c1.2, fun dq hdq ν ls st h hr => ?_⟩
  obtain ⟨pc', ls', st', h', g1, e, he, rfl, ν', k1, k2, k3⟩ := H sc sp hsc dq hdq ν ls st h hr
  exact ⟨e, he, ν', ls', st', h', k1, k2, (hends e he).2, k3, g1⟩
/-- a summary used in a walk -/
theorem hs_q {q : ab_Q} (hq : ab_Tr q) {sc : List Value} {sp : Nat} (hsc : ab_osc sc) {dq : Nat} (hd : q.2.2.2.1 ≤ dq) {K : Nat → eg_L → List Value → eg_H → Prop} {ν : Nat → Int} {ls : eg_L} {st : List Value} {h : eg_H} (hr : ab_r sc.length ν q.2.2.2.2.1 ls st h) (n : ∀ e ∈ q.2.2.2.2.2.2.1, ∀ (ν' : Nat → Int) (ls' : eg_L) (st' : List Value) (h' : eg_H), ab_r sc.length ν' e.2 ls' st' h' → ab_ext ν ν' q.2.2.2.2.1.1 → ab_fr q.2.2.2.2.2.1 h' h → hs sc sp q.1 q.2.1 dq K e.1 ls' st' h') : hs sc sp q.1 q.2.1 dq K q.2.2.1 ls st h := by
  obtain ⟨-, -, ht⟩ := hq sc sp hsc
  obtain ⟨e, he, ν', ls', st', h', g1, g2, g3, g4, g5⟩ := ht dq hd ν ls st h hr
  exact (n e he ν' ls' st' h' g1 g2 g4).pre g5
/-- ends of one int, of none -/
theorem en_int {L : Nat} {ν : Nat → Int} {n : Nat} {lo hi : Int} {ls : eg_L} {h : eg_H} {r : Int32} (hb : 2 ≤ n ∧ ν 0 = 0 ∧ ν 1 = L) (h1 : lo ≤ r.toInt) (h2 : r.toInt ≤ hi) (hp : ab_hp h) : ab_r L (ab_upd ν n r.toInt) (n + 1, [(n, lo, hi, false, none)], [], [.inl (n, .ofNat 0)], []) ls [.int r] h := by
  refine ⟨ab_base hb ab_upd_ext (Nat.le_succ n), ?_, (fun k A hm => nomatch hm), ⟨_, [], rfl, ⟨r, rfl, Nat.lt_succ_self n, ?_⟩, rfl⟩, (fun _ _ _ hf => by cases hf), hp⟩
  · intro j B hf
    rw [ab_find_cons] at hf
    by_cases e : n = j
    · rw [if_pos e] at hf
      cases hf
      rw [← e]
      exact ab_upd_be h1 h2
    · rw [if_neg e] at hf
      cases hf
  · show r.toInt = ab_upd ν n r.toInt n + 0
    rw [ab_upd_n]; omega
theorem en_void {L : Nat} {ν : Nat → Int} {n : Nat} {ls : eg_L} {h : eg_H} (hb : 2 ≤ n ∧ ν 0 = 0 ∧ ν 1 = L) (hp : ab_hp h) : ab_r L ν (n, [], [], [], []) ls [] h := ⟨hb, (fun j B hf => by cases hf), (fun k A hm => nomatch hm), rfl, (fun _ _ _ hf => by cases hf), hp⟩
/-- locals that are told -/
theorem ab_r.loc {L : Nat} {ν : Nat → Int} {σ : ab_S} {ls : eg_L} {st : List Value} {h : eg_H} (hr : ab_r L ν σ ls st h) {k : Nat} {A : ab_A} (hk : eg_find k σ.2.2.1 = some A) : ∃ v, eg_find k ls = some v ∧ ab_v ν σ.1 A v := hr.2.2.1 k A (eg_find_mem hk)
theorem ab_r.ref {L : Nat} {ν : Nat → Int} {σ : ab_S} {ls : eg_L} {st : List Value} {h : eg_H} (hr : ab_r L ν σ ls st h) (k a : Nat) (hk : eg_find k σ.2.2.1 = some (.inr (a + 2))) : eg_find k ls = some (.ref a) := by
  obtain ⟨v, h1, h2⟩ := hr.loc hk
  rw [h1, show v = .ref a from h2]
theorem ab_r.int {L : Nat} {ν : Nat → Int} {σ : ab_S} {ls : eg_L} {st : List Value} {h : eg_H} (hr : ab_r L ν σ ls st h) (k : Nat) {j : Nat} {d : Int} (hk : eg_find k σ.2.2.1 = some (.inl (j, d))) : ∃ x : Int32, eg_find k ls = some (.int x) ∧ x.toInt = ν j + d := by
  obtain ⟨v, h1, x, rfl, -, h2⟩ := hr.loc hk
  exact ⟨x, h1, h2⟩
theorem ab_r.bnd {L : Nat} {ν : Nat → Int} {σ : ab_S} {ls : eg_L} {st : List Value} {h : eg_H} (hr : ab_r L ν σ ls st h) (j : Nat) {lo hi : Int} {z : Bool} {r : Option (Nat × Int)} (hk : eg_find j σ.2.1 = some (lo, hi, z, r)) : lo ≤ ν j ∧ ν j ≤ hi := by
  obtain ⟨-, h1, h2, -⟩ := hr.2.1 j _ hk
  exact ⟨h1, h2⟩
/-! bits -/
theorem ci_1829_0 : ab_at 1829 0 (.iconst 0) 1 = true := by decide +kernel
theorem ci_1829_1 : ab_at 1829 1 (.istore_n 1) 1 = true := by decide +kernel
theorem ci_1829_2 : ab_at 1829 2 (.iload_n 0) 1 = true := by decide +kernel
theorem ci_1829_3 : ab_at 1829 3 (.istore_n 2) 1 = true := by decide +kernel
theorem ci_1829_4 : ab_at 1829 4 (.iload_n 2) 1 = true := by decide +kernel
theorem ci_1829_5 : ab_at 1829 5 (.ifCond .eq 15) 3 = true := by decide +kernel
theorem ci_1829_8 : ab_at 1829 8 (.iinc 1 1) 3 = true := by decide +kernel
theorem ci_1829_11 : ab_at 1829 11 (.iload_n 2) 1 = true := by decide +kernel
theorem ci_1829_12 : ab_at 1829 12 (.iload_n 2) 1 = true := by decide +kernel
theorem ci_1829_13 : ab_at 1829 13 (.iconst 1) 1 = true := by decide +kernel
theorem ci_1829_14 : ab_at 1829 14 (.isub) 1 = true := by decide +kernel
theorem ci_1829_15 : ab_at 1829 15 (.iand) 1 = true := by decide +kernel
theorem ci_1829_16 : ab_at 1829 16 (.istore_n 2) 1 = true := by decide +kernel
theorem ci_1829_17 : ab_at 1829 17 (.goto (-13)) 3 = true := by decide +kernel
theorem ci_1829_20 : ab_at 1829 20 (.iload_n 1) 1 = true := by decide +kernel
theorem bt_lt (v : Int32) (hv : ¬ v.toInt = 0) : (v &&& (v - Int32.ofInt 1)).toBitVec.toNat < v.toBitVec.toNat := by
  have h0 : v.toBitVec.toNat ≠ 0 := fun e => hv (by
    have : v = 0 := by
      apply Int32.toBitVec_inj.mp
      apply BitVec.eq_of_toNat_eq
      rw [e]; rfl
    rw [this]; rfl)
  have h1 : (v - Int32.ofInt 1).toBitVec.toNat = v.toBitVec.toNat - 1 := by
    rw [Int32.toBitVec_sub, BitVec.toNat_sub]
    have : (Int32.ofInt 1).toBitVec.toNat = 1 := rfl
    rw [this]
    have := v.toBitVec.isLt
    omega
  rw [Int32.toBitVec_and, BitVec.toNat_and]
  have := Nat.and_le_right (n := v.toBitVec.toNat) (m := (v - Int32.ofInt 1).toBitVec.toNat)
  omega
theorem bt_loop {sc : List Value} {sp dq : Nat} {h : eg_H} (m : Nat) : ∀ (v n : Int32) (ls : eg_L), v.toBitVec.toNat ≤ m → eg_find 1 ls = some (.int n) → eg_find 2 ls = some (.int v) → hs sc sp 1829 11 dq (fun pc' _ st' h' => pc' = 21 ∧ (∃ r, st' = [.int r]) ∧ h' = h) 4 ls [] h := by
  induction m using Nat.strongRecOn with
  | _ m ih =>
    intro v n ls hv l1 l2
    refine hs_iload_n ci_1829_4 l2 ?_
    refine hs_if (t := 20) ci_1829_5 rfl (fun b5 => ?_) (fun b5 => ?_)
    · simp only [hs_cd, ab_not] at b5
      refine hs_iload_n ci_1829_20 l1 ?_
      exact hs_k ⟨rfl, ⟨_, rfl⟩, rfl⟩
    · simp only [hs_cd, ab_not] at b5
      refine hs_iinc ci_1829_8 (by decide +kernel) l1 ?_
      intro ls9 q9
      replace l2 := q9.2 2 _ (by decide) rfl l2
      have l1 := q9.1
      clear q9
      refine hs_iload_n ci_1829_11 l2 ?_
      refine hs_iload_n ci_1829_12 l2 ?_
      refine hs_iconst ci_1829_13 ?_
      refine hs_isub ci_1829_14 ?_
      refine hs_iand ci_1829_15 ?_
      refine hs_istore_n ci_1829_16 (by decide +kernel) ?_
      intro ls9 q9
      replace l1 := q9.2 1 _ (by decide) rfl l1
      have l2 := q9.1
      clear q9
      refine hs_goto (t := 4) ci_1829_17 rfl ?_
      have := bt_lt v b5
      exact ih _ (Nat.lt_of_lt_of_le this hv) _ _ _ (Nat.le_refl _) l1 l2
def sm_bits : ab_Q := (1829, 11, 0, 1, (3, [(2, .negSucc 2147483647, .ofNat 2147483647, false, none)], [(0, .inl (2, .ofNat 0))], [], []), [], [(21, (4, [(3, .negSucc 2147483647, .ofNat 2147483647, false, none)], [], [.inl (3, .ofNat 0)], []))], none)
theorem tr_bits : ab_Tr sm_bits := tr_hand (by decide +kernel) (fun sc sp hsc dq hdq ν ls st h hr => by
  obtain ⟨x, l0, -⟩ := hr.int 0 (by rfl)
  obtain rfl : st = [] := hr.2.2.2.1
  show hs sc sp 1829 11 dq _ 0 ls [] h
  refine hs_iconst ci_1829_0 ?_
  refine hs_istore_n ci_1829_1 (by decide +kernel) ?_
  intro ls9 q9
  replace l0 := q9.2 0 _ (by decide) rfl l0
  have l1 := q9.1
  clear q9
  refine hs_iload_n ci_1829_2 l0 ?_
  refine hs_istore_n ci_1829_3 (by decide +kernel) ?_
  intro ls9 q9
  replace l1 := q9.2 1 _ (by decide) rfl l1
  have l2 := q9.1
  clear q9
  refine hs.mono (bt_loop _ _ _ _ (Nat.le_refl _) l1 l2) ?_
  rintro pc' ls' st' h' ⟨rfl, ⟨r, rfl⟩, rfl⟩
  exact ⟨_, List.mem_cons_self, rfl, _, en_int hr.1 (ab_ige r) (ab_ile r) hr.2.2.2.2.2, ab_upd_ext, ab_fr.rf⟩)
