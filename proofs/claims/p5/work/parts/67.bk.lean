/-! BY HAND: lines of a book -/
abbrev MB : ab_M := [(113, 0, 39), (114, 0, 39)]
theorem gq_de : ckn 40 (fun i => ckq 113 (0 + i) (-2147483648) 2147483647) = true := by decide +kernel
theorem gq_wh : ckn 40 (fun i => ckq 114 (0 + i) (-2147483648) 2147483647) = true := by decide +kernel
theorem ab_J.b {h h' : eg_H} (hJ : ab_J h) (e : ∀ a k, ¬ a = 113 → ¬ a = 114 → ab_slot h' a k = ab_slot h a k) (hb : ab_Jb h') : ab_J h' := ⟨hJ.1.same (fun k _ => e _ _ (by decide) (by decide)), hJ.2.1.same (fun k _ => e _ _ (by decide) (by decide)), hJ.2.2.1.same (fun k _ => e _ _ (by decide) (by decide)), hb⟩
theorem hw.ne {h h' : eg_H} {a k : Nat} {x : Int32} (w : hw h h' a k x) (b m : Nat) (hb : ¬ b = a) : ab_slot h' b m = ab_slot h b m := by
  rw [w.2 b m, if_neg (fun q => hb q.1)]
theorem c_number {sc : List Value} {sp d : Nat} (hsc : ab_osc sc) {h : eg_H} (hp : ab_hp h) : mc sc sp 758 8 (d + 1) [.ref 3] h (mc_P [] h (some (-2147483648, 2147483647))) := mc_q tr_number (iv := some (-2147483648, 2147483647)) (by decide +kernel) hsc (show 1 ≤ d + 1 by omega) (ar_0 hp)
/-- an end that answers a number told -/
theorem en_cst {L : Nat} {ν : Nat → Int} {n : Nat} {v : Int} {ls : eg_L} {h : eg_H} {r : Int32} (hb : 2 ≤ n ∧ ν 0 = 0 ∧ ν 1 = L) (e : r.toInt = v) (hp : ab_hp h) : ab_r L ν (n, [], [], [.inl (0, v)], []) ls [.int r] h := ⟨hb, (fun j B hf => by cases hf), (fun k A hm => nomatch hm), ⟨_, [], rfl, ⟨r, rfl, by show 0 < n; omega, by show r.toInt = ν 0 + v; rw [hb.2.1, e]; omega⟩, rfl⟩, (fun _ _ _ hf => by cases hf), hp⟩

theorem ml_758 : (eg_md 758).2.2.1 = 1 := by decide +kernel
theorem rt_758 : (eg_md 758).2.2.2 = some .int := by decide +kernel
theorem ci_1209_33 : ab_at 1209 33 (.aload_n 0) 1 = true := by decide +kernel
theorem ci_1209_34 : ab_at 1209 34 (.getfield 9) 3 = true := by decide +kernel
theorem ci_1209_37 : ab_at 1209 37 (.aload_n 0) 1 = true := by decide +kernel
theorem ci_1209_38 : ab_at 1209 38 (.getfield 18) 3 = true := by decide +kernel
theorem ci_1209_41 : ab_at 1209 41 (.iconst 4) 1 = true := by decide +kernel
theorem ci_1209_42 : ab_at 1209 42 (.iastore) 1 = true := by decide +kernel
theorem ci_1209_43 : ab_at 1209 43 (.aload_n 0) 1 = true := by decide +kernel
theorem ci_1209_44 : ab_at 1209 44 (.getfield 15) 3 = true := by decide +kernel
theorem ci_1209_47 : ab_at 1209 47 (.aload_n 0) 1 = true := by decide +kernel
theorem ci_1209_48 : ab_at 1209 48 (.getfield 18) 3 = true := by decide +kernel
theorem ci_1209_51 : ab_at 1209 51 (.aload_n 0) 1 = true := by decide +kernel
theorem ci_1209_52 : ab_at 1209 52 (.getfield 38) 3 = true := by decide +kernel
theorem ci_1209_55 : ab_at 1209 55 (.invokevirtual 75) 3 = true := by decide +kernel
theorem ci_1209_58 : ab_at 1209 58 (.iastore) 1 = true := by decide +kernel
theorem ci_1209_59 : ab_at 1209 59 (.iconst 1) 1 = true := by decide +kernel
theorem ci_1216_79 : ab_at 1216 79 (.aload_n 0) 1 = true := by decide +kernel
theorem ci_1216_80 : ab_at 1216 80 (.getfield 9) 3 = true := by decide +kernel
theorem ci_1216_83 : ab_at 1216 83 (.aload_n 0) 1 = true := by decide +kernel
theorem ci_1216_84 : ab_at 1216 84 (.getfield 18) 3 = true := by decide +kernel
theorem ci_1216_87 : ab_at 1216 87 (.iload_n 2) 1 = true := by decide +kernel
theorem ci_1216_88 : ab_at 1216 88 (.iastore) 1 = true := by decide +kernel
theorem ci_1216_89 : ab_at 1216 89 (.aload_n 0) 1 = true := by decide +kernel
theorem ci_1216_90 : ab_at 1216 90 (.getfield 15) 3 = true := by decide +kernel
theorem ci_1216_93 : ab_at 1216 93 (.aload_n 0) 1 = true := by decide +kernel
theorem ci_1216_94 : ab_at 1216 94 (.getfield 18) 3 = true := by decide +kernel
theorem ci_1216_97 : ab_at 1216 97 (.iload_n 1) 1 = true := by decide +kernel
theorem ci_1216_98 : ab_at 1216 98 (.iastore) 1 = true := by decide +kernel
theorem ci_1216_99 : ab_at 1216 99 (.iconst 1) 1 = true := by decide +kernel
theorem ci_1226_33 : ab_at 1226 33 (.aload_n 0) 1 = true := by decide +kernel
theorem ci_1226_34 : ab_at 1226 34 (.getfield 9) 3 = true := by decide +kernel
theorem ci_1226_37 : ab_at 1226 37 (.iload_n 2) 1 = true := by decide +kernel
theorem ci_1226_38 : ab_at 1226 38 (.iaload) 1 = true := by decide +kernel
theorem ci_1226_39 : ab_at 1226 39 (.iconst 4) 1 = true := by decide +kernel
theorem ci_1226_40 : ab_at 1226 40 (.if_icmp .eq 46) 3 = true := by decide +kernel
theorem ci_1226_43 : ab_at 1226 43 (.aload_n 1) 1 = true := by decide +kernel
theorem ci_1226_44 : ab_at 1226 44 (.aload_n 0) 1 = true := by decide +kernel
theorem ci_1226_45 : ab_at 1226 45 (.getfield 9) 3 = true := by decide +kernel
theorem ci_1226_48 : ab_at 1226 48 (.iload_n 2) 1 = true := by decide +kernel
theorem ci_1226_49 : ab_at 1226 49 (.iaload) 1 = true := by decide +kernel
theorem ci_1226_50 : ab_at 1226 50 (.aload_n 0) 1 = true := by decide +kernel
theorem ci_1226_51 : ab_at 1226 51 (.getfield 15) 3 = true := by decide +kernel
theorem ci_1226_54 : ab_at 1226 54 (.iload_n 2) 1 = true := by decide +kernel
theorem ci_1226_55 : ab_at 1226 55 (.iaload) 1 = true := by decide +kernel
def sm_rdays : ab_Q := (1209, 0, 33, 2, (3, [(2, .ofNat 0, .ofNat 39, false, none)], [(0, .inr 114)], [], [(114692, 2, .ofNat 0)]), [(113, 0, 39), (114, 0, 39)], [(60, (3, [], [], [.inl (0, .ofNat 1)], []))], none)
theorem tr_rdays : ab_Tr sm_rdays := tr_hand (by decide +kernel) (fun sc sp hsc dq hdq ν ls st h hr => by
  have l0 := hr.ref 0 112 (by rfl)
  obtain rfl : st = [] := hr.2.2.2.1
  have hp : ab_hp h := hr.2.2.2.2.2
  have hl := hr.ov 112 4 (by rfl) (by decide)
  have hl : (hv h 112 4).toInt = ν 2 + 0 := hl
  have hlb : 0 ≤ ν 2 ∧ ν 2 ≤ 39 := hr.bnd 2 (by rfl)
  obtain ⟨n, hn⟩ : ∃ n : Nat, (hv h 112 4).toInt = (n : Int) := ⟨(hv h 112 4).toInt.toNat, by omega⟩
  have hn40 : n < 40 := by omega
  have hdq : 2 ≤ dq := hdq
  obtain ⟨d, rfl⟩ : ∃ d, dq = d + 1 + 1 := ⟨dq - 2, by omega⟩
  show hs sc sp 1209 0 (d + 1 + 1) _ 33 ls [] h
  refine hs_aload_n ci_1209_33 l0 ?_
  refine hs_gfr 2 113 ci_1209_34 (by decide +kernel) hp.1 ?_
  refine hs_aload_n ci_1209_37 l0 ?_
  refine hs_gfi 4 ci_1209_38 (by decide +kernel) hp.1 ?_
  refine hs_iconst ci_1209_41 ?_
  refine hs_ias1 (0 + n) ci_1209_42 (hn.trans (by omega)) (ckq_v gq_de n hn40) hp.1 (ab_ige _) (ab_ile _) ?_
  intro h5 w5
  have hf : ab_fr MB h5 h := w5.fr (M := MB) (in1 (by omega) (by omega))
  have e4 : ∀ k, hv h5 113 k = if k = n then Int32.ofInt 4 else hv h 113 k := fun k => by
    rw [w5.v]
    by_cases e : k = n
    · rw [if_pos ⟨rfl, by omega⟩, if_pos e]
    · rw [if_neg (by omega), if_neg e]
  have e6 : hv h5 112 4 = hv h 112 4 := hv_same (w5.ne _ _ (by decide))
  replace hp : ab_hp h5 := ⟨w5.1, hp.2.b (fun a k q1 q2 => w5.ne _ _ q1) (fun k hd => by
    rw [e4] at hd
    by_cases e : k = n
    · rw [if_pos e] at hd; exact absurd rfl hd
    · rw [if_neg e] at hd
      rw [hv_same (w5.ne 114 k (by decide))]
      exact hp.2.2.2.2 k hd)⟩
  refine hs_aload_n ci_1209_43 l0 ?_
  refine hs_gfr 3 114 ci_1209_44 (by decide +kernel) hp.1 ?_
  refine hs_aload_n ci_1209_47 l0 ?_
  refine hs_gfi 4 ci_1209_48 (by decide +kernel) hp.1 ?_
  refine hs_aload_n ci_1209_51 l0 ?_
  refine hs_gfr 0 3 ci_1209_52 (by decide +kernel) hp.1 ?_
  refine hs_cv 758 8 0 ci_1209_55 (by decide +kernel) (by decide +kernel) hp.1 rfl (by rw [ml_758]; rfl) (c_number hsc hp) ?_
  rintro v9 h6 ⟨hp2, f2, r, e8, q1, q2⟩
  rw [e8]
  clear e8 v9
  simp only [Option.toList, List.cons_append, List.nil_append]
  replace hf := fr_up f2 hf
  have e7 : ∀ a k, hv h6 a k = hv h5 a k := fr_nil f2
  replace hp := hp2
  clear hp2
  refine hs_ias1 (0 + n) ci_1209_58 (by rw [e6]; exact hn.trans (by omega)) (ckq_v gq_wh n hn40) hp.1 (ab_ige _) (ab_ile _) ?_
  intro h7 w7
  replace hf := (w7.fr (M := MB) (in2 (by omega) (by omega) (fun _ => trivial))).tr hf
  replace hp : ab_hp h7 := ⟨w7.1, hp.2.b (fun a k q1 q2 => w7.ne _ _ q2) (fun k hd => by
    rw [hv_same (w7.ne 113 k (by decide))] at hd
    rw [w7.v]
    by_cases e : k = n
    · rw [e7, e4, if_pos e] at hd; exact absurd rfl hd
    · rw [if_neg (by omega)]
      exact hp.2.2.2.2 k hd)⟩
  refine hs_iconst ci_1209_59 ?_
  exact hs_k ⟨_, List.mem_cons_self, rfl, ν, en_cst hr.1 rfl hp, ab_ext.rf, hf⟩)
def sm_rdeed : ab_Q := (1216, 0, 79, 1, (5, [(2, .ofNat 0, .ofNat 9, false, none), (3, .ofNat 0, .ofNat 3, false, none), (4, .ofNat 0, .ofNat 39, false, none)], [(0, .inr 114), (1, .inl (2, .ofNat 0)), (2, .inl (3, .ofNat 0))], [], [(114692, 4, .ofNat 0)]), [(113, 0, 39), (114, 0, 39)], [(100, (5, [], [], [.inl (0, .ofNat 1)], []))], none)
theorem tr_rdeed : ab_Tr sm_rdeed := tr_hand (by decide +kernel) (fun sc sp hsc dq hdq ν ls st h hr => by
  have l0 := hr.ref 0 112 (by rfl)
  obtain ⟨x, l1, hx⟩ := hr.int 1 (by rfl)
  obtain ⟨y, l2, hy⟩ := hr.int 2 (by rfl)
  have hx : x.toInt = ν 2 + 0 := hx
  have hxb : 0 ≤ ν 2 ∧ ν 2 ≤ 9 := hr.bnd 2 (by rfl)
  obtain rfl : st = [] := hr.2.2.2.1
  have hp : ab_hp h := hr.2.2.2.2.2
  have hl := hr.ov 112 4 (by rfl) (by decide)
  have hl : (hv h 112 4).toInt = ν 4 + 0 := hl
  have hlb : 0 ≤ ν 4 ∧ ν 4 ≤ 39 := hr.bnd 4 (by rfl)
  obtain ⟨n, hn⟩ : ∃ n : Nat, (hv h 112 4).toInt = (n : Int) := ⟨(hv h 112 4).toInt.toNat, by omega⟩
  have hn40 : n < 40 := by omega
  show hs sc sp 1216 0 dq _ 79 ls [] h
  refine hs_aload_n ci_1216_79 l0 ?_
  refine hs_gfr 2 113 ci_1216_80 (by decide +kernel) hp.1 ?_
  refine hs_aload_n ci_1216_83 l0 ?_
  refine hs_gfi 4 ci_1216_84 (by decide +kernel) hp.1 ?_
  refine hs_iload_n ci_1216_87 l2 ?_
  refine hs_ias1 (0 + n) ci_1216_88 (hn.trans (by omega)) (ckq_v gq_de n hn40) hp.1 (ab_ige _) (ab_ile _) ?_
  intro h5 w5
  have hf : ab_fr MB h5 h := w5.fr (M := MB) (in1 (by omega) (by omega))
  have hp5 := w5.1
  have e6 : hv h5 112 4 = hv h 112 4 := hv_same (w5.ne _ _ (by decide))
  refine hs_aload_n ci_1216_89 l0 ?_
  refine hs_gfr 3 114 ci_1216_90 (by decide +kernel) hp5 ?_
  refine hs_aload_n ci_1216_93 l0 ?_
  refine hs_gfi 4 ci_1216_94 (by decide +kernel) hp5 ?_
  refine hs_iload_n ci_1216_97 l1 ?_
  refine hs_ias1 (0 + n) ci_1216_98 (by rw [e6]; exact hn.trans (by omega)) (ckq_v gq_wh n hn40) hp5 (ab_ige _) (ab_ile _) ?_
  intro h7 w7
  replace hf := (w7.fr (M := MB) (in2 (by omega) (by omega) (fun _ => trivial))).tr hf
  replace hp : ab_hp h7 := ⟨w7.1, hp.2.b (fun a k q1 q2 => (w7.ne _ _ q2).trans (w5.ne _ _ q1)) (fun k hd => by
    rw [hv_same (w7.ne 113 k (by decide)), w5.v] at hd
    rw [w7.v]
    by_cases e : k = n
    · rw [if_pos ⟨rfl, by omega⟩]
      omega
    · rw [if_neg (by omega)] at hd ⊢
      rw [hv_same (w5.ne 114 k (by decide))]
      exact hp.2.2.2.2 k hd)⟩
  refine hs_iconst ci_1216_99 ?_
  exact hs_k ⟨_, List.mem_cons_self, rfl, ν, en_cst hr.1 rfl hp, ab_ext.rf, hf⟩)
def sm_live37 : ab_Q := (1226, 0, 33, 1, (3, [(2, .ofNat 0, .ofNat 39, false, none)], [(0, .inr 114), (1, .inr 39), (2, .inl (2, .ofNat 0))], [], []), [], [(56, (5, [(3, .ofNat 0, .ofNat 9, false, none), (4, .negSucc 2147483647, .ofNat 2147483647, false, none)], [(0, .inr 114), (1, .inr 39), (2, .inl (2, .ofNat 0))], [.inl (3, .ofNat 0), .inl (4, .ofNat 0), .inr 39], [])), (86, (3, [], [(0, .inr 114), (1, .inr 39), (2, .inl (2, .ofNat 0))], [], []))], none)
theorem tr_live37 : ab_Tr sm_live37 := tr_hand (by decide +kernel) (fun sc sp hsc dq hdq ν ls st h hr => by
  have l0 := hr.ref 0 112 (by rfl)
  have l1 := hr.ref 1 37 (by rfl)
  obtain ⟨x, l2, hx⟩ := hr.int 2 (by rfl)
  have hx' : x.toInt = ν 2 + 0 := hx
  have hxb : 0 ≤ ν 2 ∧ ν 2 ≤ 39 := hr.bnd 2 (by rfl)
  obtain rfl : st = [] := hr.2.2.2.1
  have hp : ab_hp h := hr.2.2.2.2.2
  obtain ⟨n, hn⟩ : ∃ n : Nat, x.toInt = (n : Int) := ⟨x.toInt.toNat, by omega⟩
  show hs sc sp 1226 0 dq _ 33 ls [] h
  refine hs_aload_n ci_1226_33 l0 ?_
  refine hs_gfr 2 113 ci_1226_34 (by decide +kernel) hp.1 ?_
  refine hs_iload_n ci_1226_37 l2 ?_
  refine hs_ial1 (0 + n) ci_1226_38 (hn.trans (by omega)) (ckq_v gq_de n (by omega)) hp.1 ?_
  refine hs_iconst ci_1226_39 ?_
  refine hs_ic (t := 86) ci_1226_40 rfl (fun b40 => ?_) (fun b40 => ?_)
  · simp only [hs_cd, ab_not] at b40
    exact hs_k ⟨_, List.mem_cons_of_mem _ List.mem_cons_self, rfl, ν, en_loc hr.1 (vl_ref l0 (vl_ref l1 (vl_int l2 (by decide) hx vl_nil))) hp, ab_ext.rf, ab_fr.rf⟩
  · simp only [hs_cd, ab_not] at b40
    refine hs_aload_n ci_1226_43 l1 ?_
    refine hs_aload_n ci_1226_44 l0 ?_
    refine hs_gfr 2 113 ci_1226_45 (by decide +kernel) hp.1 ?_
    refine hs_iload_n ci_1226_48 l2 ?_
    refine hs_ial1 (0 + n) ci_1226_49 (hn.trans (by omega)) (ckq_v gq_de n (by omega)) hp.1 ?_
    refine hs_aload_n ci_1226_50 l0 ?_
    refine hs_gfr 3 114 ci_1226_51 (by decide +kernel) hp.1 ?_
    refine hs_iload_n ci_1226_54 l2 ?_
    refine hs_ial1 (0 + n) ci_1226_55 (hn.trans (by omega)) (ckq_v gq_wh n (by omega)) hp.1 ?_
    have hb := hp.2.2.2.2 n (by rw [show n = 0 + n by omega]; exact b40)
    rw [show n = 0 + n by omega] at hb
    have x1 := ab_upd_ext (ν := ν) (n := 3) (x := (hv h 114 (0 + n)).toInt)
    have x2 := ab_upd_ext (ν := ab_upd ν 3 (hv h 114 (0 + n)).toInt) (n := 4) (x := (hv h 113 (0 + n)).toInt)
    refine hs_k ⟨_, List.mem_cons_self, rfl, ab_upd (ab_upd ν 3 (hv h 114 (0 + n)).toInt) 4 (hv h 113 (0 + n)).toInt, ⟨ab_base (ab_base hr.1 x1 (show 3 ≤ 4 by decide)) x2 (show 4 ≤ 5 by decide), ?_, ?_, ⟨_, _, rfl, ⟨hv h 114 (0 + n), rfl, by show 3 < 5; decide, ?_⟩, _, _, rfl, ⟨hv h 113 (0 + n), rfl, by show 4 < 5; decide, ?_⟩, _, _, rfl, rfl, rfl⟩, (fun _ _ _ hf => by cases hf), hp⟩, x1.tr x2 (by show 3 ≤ 4; decide), ab_fr.rf⟩
    · intro j B hf
      rw [ab_find_cons] at hf
      by_cases e : 3 = j
      · rw [if_pos e] at hf
        cases hf
        rw [← e]
        exact (ab_upd_be (ν := ν) (n := 3) hb.1 hb.2).up x2 (by decide)
      · rw [if_neg e, ab_find_cons] at hf
        by_cases e : 4 = j
        · rw [if_pos e] at hf
          cases hf
          rw [← e]
          exact ab_upd_be (ab_ige _) (ab_ile _)
        · rw [if_neg e] at hf
          cases hf
    · exact vl_ref l0 (vl_ref l1 (vl_int l2 (by show 2 < 5; decide) hx vl_nil))
    · show (hv h 114 (0 + n)).toInt = ab_upd (ab_upd ν 3 (hv h 114 (0 + n)).toInt) 4 (hv h 113 (0 + n)).toInt 3 + 0
      rw [x2 3 (by decide), ab_upd_n]; omega
    · show (hv h 113 (0 + n)).toInt = ab_upd (ab_upd ν 3 (hv h 114 (0 + n)).toInt) 4 (hv h 113 (0 + n)).toInt 4 + 0
      rw [ab_upd_n]; omega)
def sm_live44 : ab_Q := (1226, 0, 33, 1, (3, [(2, .ofNat 0, .ofNat 39, false, none)], [(0, .inr 114), (1, .inr 46), (2, .inl (2, .ofNat 0))], [], []), [], [(56, (5, [(3, .ofNat 0, .ofNat 9, false, none), (4, .negSucc 2147483647, .ofNat 2147483647, false, none)], [(0, .inr 114), (1, .inr 46), (2, .inl (2, .ofNat 0))], [.inl (3, .ofNat 0), .inl (4, .ofNat 0), .inr 46], [])), (86, (3, [], [(0, .inr 114), (1, .inr 46), (2, .inl (2, .ofNat 0))], [], []))], none)
theorem tr_live44 : ab_Tr sm_live44 := tr_hand (by decide +kernel) (fun sc sp hsc dq hdq ν ls st h hr => by
  have l0 := hr.ref 0 112 (by rfl)
  have l1 := hr.ref 1 44 (by rfl)
  obtain ⟨x, l2, hx⟩ := hr.int 2 (by rfl)
  have hx' : x.toInt = ν 2 + 0 := hx
  have hxb : 0 ≤ ν 2 ∧ ν 2 ≤ 39 := hr.bnd 2 (by rfl)
  obtain rfl : st = [] := hr.2.2.2.1
  have hp : ab_hp h := hr.2.2.2.2.2
  obtain ⟨n, hn⟩ : ∃ n : Nat, x.toInt = (n : Int) := ⟨x.toInt.toNat, by omega⟩
  show hs sc sp 1226 0 dq _ 33 ls [] h
  refine hs_aload_n ci_1226_33 l0 ?_
  refine hs_gfr 2 113 ci_1226_34 (by decide +kernel) hp.1 ?_
  refine hs_iload_n ci_1226_37 l2 ?_
  refine hs_ial1 (0 + n) ci_1226_38 (hn.trans (by omega)) (ckq_v gq_de n (by omega)) hp.1 ?_
  refine hs_iconst ci_1226_39 ?_
  refine hs_ic (t := 86) ci_1226_40 rfl (fun b40 => ?_) (fun b40 => ?_)
  · simp only [hs_cd, ab_not] at b40
    exact hs_k ⟨_, List.mem_cons_of_mem _ List.mem_cons_self, rfl, ν, en_loc hr.1 (vl_ref l0 (vl_ref l1 (vl_int l2 (by decide) hx vl_nil))) hp, ab_ext.rf, ab_fr.rf⟩
  · simp only [hs_cd, ab_not] at b40
    refine hs_aload_n ci_1226_43 l1 ?_
    refine hs_aload_n ci_1226_44 l0 ?_
    refine hs_gfr 2 113 ci_1226_45 (by decide +kernel) hp.1 ?_
    refine hs_iload_n ci_1226_48 l2 ?_
    refine hs_ial1 (0 + n) ci_1226_49 (hn.trans (by omega)) (ckq_v gq_de n (by omega)) hp.1 ?_
    refine hs_aload_n ci_1226_50 l0 ?_
    refine hs_gfr 3 114 ci_1226_51 (by decide +kernel) hp.1 ?_
    refine hs_iload_n ci_1226_54 l2 ?_
    refine hs_ial1 (0 + n) ci_1226_55 (hn.trans (by omega)) (ckq_v gq_wh n (by omega)) hp.1 ?_
    have hb := hp.2.2.2.2 n (by rw [show n = 0 + n by omega]; exact b40)
    rw [show n = 0 + n by omega] at hb
    have x1 := ab_upd_ext (ν := ν) (n := 3) (x := (hv h 114 (0 + n)).toInt)
    have x2 := ab_upd_ext (ν := ab_upd ν 3 (hv h 114 (0 + n)).toInt) (n := 4) (x := (hv h 113 (0 + n)).toInt)
    refine hs_k ⟨_, List.mem_cons_self, rfl, ab_upd (ab_upd ν 3 (hv h 114 (0 + n)).toInt) 4 (hv h 113 (0 + n)).toInt, ⟨ab_base (ab_base hr.1 x1 (show 3 ≤ 4 by decide)) x2 (show 4 ≤ 5 by decide), ?_, ?_, ⟨_, _, rfl, ⟨hv h 114 (0 + n), rfl, by show 3 < 5; decide, ?_⟩, _, _, rfl, ⟨hv h 113 (0 + n), rfl, by show 4 < 5; decide, ?_⟩, _, _, rfl, rfl, rfl⟩, (fun _ _ _ hf => by cases hf), hp⟩, x1.tr x2 (by show 3 ≤ 4; decide), ab_fr.rf⟩
    · intro j B hf
      rw [ab_find_cons] at hf
      by_cases e : 3 = j
      · rw [if_pos e] at hf
        cases hf
        rw [← e]
        exact (ab_upd_be (ν := ν) (n := 3) hb.1 hb.2).up x2 (by decide)
      · rw [if_neg e, ab_find_cons] at hf
        by_cases e : 4 = j
        · rw [if_pos e] at hf
          cases hf
          rw [← e]
          exact ab_upd_be (ab_ige _) (ab_ile _)
        · rw [if_neg e] at hf
          cases hf
    · exact vl_ref l0 (vl_ref l1 (vl_int l2 (by show 2 < 5; decide) hx vl_nil))
    · show (hv h 114 (0 + n)).toInt = ab_upd (ab_upd ν 3 (hv h 114 (0 + n)).toInt) 4 (hv h 113 (0 + n)).toInt 3 + 0
      rw [x2 3 (by decide), ab_upd_n]; omega
    · show (hv h 113 (0 + n)).toInt = ab_upd (ab_upd ν 3 (hv h 114 (0 + n)).toInt) 4 (hv h 113 (0 + n)).toInt 4 + 0
      rw [ab_upd_n]; omega)
