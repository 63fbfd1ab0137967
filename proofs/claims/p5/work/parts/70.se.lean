/-! BY HAND: a sentence is read: its codes take no more truths than there are -/
abbrev MSN : ab_M := [(182, 4, 4), (182, 11, 18), (182, 45, 49), (186, 0, 134), (199, 0, 44)]
def RD (h : eg_H) (i : Nat) : Int := (hv h 186 (3 * i)).toInt
def SK (h : eg_H) (i : Nat) : Int := (hv h 199 i).toInt
/-- how many of them join two -/
def nb (f : Nat → Int) : Nat → Nat
  | 0 => 0
  | t + 1 => nb f t + (if f t = 21 ∨ f t = 22 then 1 else 0)
theorem nb_same {f g : Nat → Int} {t : Nat} (h : ∀ j, j < t → g j = f j) : nb g t = nb f t := by
  induction t with
  | zero => rfl
  | succ t ih =>
    unfold nb
    rw [ih (fun j hj => h j (by omega)), h t (by omega)]
def S5 (h : eg_H) (c t n w : Nat) (e : Int) : Prop := (hv h 182 45).toInt = (c : Int) ∧ (hv h 182 47).toInt = (t : Int) ∧ (hv h 182 46).toInt = (n : Int) ∧ (hv h 182 49).toInt = (w : Int) ∧ wf_ok (RD h) c ∧ wf_h (RD h) c = (nb (SK h) t : Int) + e
theorem S5.same {h h' : eg_H} {c t n w : Nat} {e : Int} (s : S5 h c t n w e) (e1 : hv h' 182 45 = hv h 182 45) (e2 : hv h' 182 47 = hv h 182 47) (e3 : hv h' 182 46 = hv h 182 46) (e4 : hv h' 182 49 = hv h 182 49) (e5 : ∀ j, hv h' 186 j = hv h 186 j) (e6 : ∀ j, hv h' 199 j = hv h 199 j) : S5 h' c t n w e := by
  obtain ⟨s1, s2, s3, s4, s5, s6⟩ := s
  have r1 : RD h' = RD h := funext (fun i => by unfold RD; rw [e5])
  have r2 : SK h' = SK h := funext (fun i => by unfold SK; rw [e6])
  unfold S5
  rw [e1, e2, e3, e4, r1, r2]
  exact ⟨s1, s2, s3, s4, s5, s6⟩
theorem gq_sk : ckn 45 (fun i => ckq 199 (0 + i) (-2147483648) 2147483647) = true := by decide +kernel
theorem gf_182 {h : eg_H} (hp : ab_hp0 h) : (0 ≤ (hv h 182 45).toInt ∧ (hv h 182 45).toInt ≤ 45) ∧ 0 ≤ (hv h 182 47).toInt ∧ (hv h 182 47).toInt ≤ 45 := by
  obtain ⟨rg, g1, g2, g3⟩ : ∃ rg, ab_get 182 = some (111, rg) ∧ ab_sl rg 45 = some (.inl (0, 45)) ∧ ab_sl rg 47 = some (.inl (0, 45)) := ⟨_, rfl, by decide +kernel, by decide +kernel⟩
  exact ⟨(hv_slot hp g1 g2).2, (hv_slot hp g1 g3).2⟩
theorem wf_d_le (c : Int) : wf_d c ≤ 1 := by
  unfold wf_d
  split
  · omega
  · split
    · omega
    · split <;> omega
/-- one code more -/
theorem S5.code {h h' : eg_H} {c t n w : Nat} {e v : Int} (s : S5 h c t n w e) (h1 : v = 20 → 1 ≤ (nb (SK h) t : Int) + e) (h2 : v = 21 ∨ v = 22 → 2 ≤ (nb (SK h) t : Int) + e) (e1 : (hv h' 182 45).toInt = ((c + 1 : Nat) : Int)) (e2 : hv h' 182 47 = hv h 182 47) (e3 : hv h' 182 46 = hv h 182 46) (e4 : hv h' 182 49 = hv h 182 49) (e5 : ∀ j, j < 3 * c → hv h' 186 j = hv h 186 j) (e7 : (hv h' 186 (3 * c)).toInt = v) (e6 : ∀ j, hv h' 199 j = hv h 199 j) : S5 h' (c + 1) t n w (e + wf_d v) := by
  obtain ⟨s1, s2, s3, s4, s5, s6⟩ := s
  have r1 : ∀ i, i < c → RD h' i = RD h i := fun i hi => by unfold RD; rw [e5 _ (by omega)]
  have r2 : SK h' = SK h := funext (fun i => by unfold SK; rw [e6])
  have r3 : RD h' c = v := e7
  have r4 : wf_h (RD h') c = wf_h (RD h) c := wf_h_same r1 c (Nat.le_refl _)
  refine ⟨e1, by rw [e2]; exact s2, by rw [e3]; exact s3, by rw [e4]; exact s4, fun i hi => ?_, ?_⟩
  · by_cases q : i = c
    · subst q
      rw [r3, r4, s6]
      exact ⟨h1, h2⟩
    · rw [r1 i (by omega), wf_h_same r1 i (by omega)]
      exact s5 i (by omega)
  · show wf_h (RD h') c + wf_d (RD h' c) = _
    rw [r3, r4, r2, s6]; omega
/-- one thing put on the row -/
theorem S5.push {h h' : eg_H} {c t n w w' : Nat} {e e' v : Int} (s : S5 h c t n w e) (hv1 : e' = e - (if v = 21 ∨ v = 22 then 1 else 0)) (e1 : hv h' 182 45 = hv h 182 45) (e2 : (hv h' 182 47).toInt = ((t + 1 : Nat) : Int)) (e3 : hv h' 182 46 = hv h 182 46) (e4 : (hv h' 182 49).toInt = (w' : Int)) (e5 : ∀ j, hv h' 186 j = hv h 186 j) (e6 : ∀ j, ¬ j = t → hv h' 199 j = hv h 199 j) (e7 : (hv h' 199 t).toInt = v) : S5 h' c (t + 1) n w' e' := by
  obtain ⟨s1, s2, s3, s4, s5, s6⟩ := s
  have r1 : RD h' = RD h := funext (fun i => by unfold RD; rw [e5])
  have r2 : nb (SK h') t = nb (SK h) t := nb_same (fun j hj => by unfold SK; rw [e6 j (by omega)])
  have r3 : SK h' t = v := e7
  refine ⟨by rw [e1]; exact s1, e2, by rw [e3]; exact s3, e4, by rw [r1]; exact s5, ?_⟩
  rw [r1, s6]
  show _ = ((nb (SK h') t + (if SK h' t = 21 ∨ SK h' t = 22 then 1 else 0) : Nat) : Int) + e'
  rw [r2, r3, hv1]
  split <;> omega
/-- one thing taken off it -/
theorem S5.pop {h h' : eg_H} {c t n w : Nat} {e : Int} (s : S5 h c (t + 1) n w e) (e1 : hv h' 182 45 = hv h 182 45) (e2 : (hv h' 182 47).toInt = (t : Int)) (e3 : hv h' 182 46 = hv h 182 46) (e4 : hv h' 182 49 = hv h 182 49) (e5 : ∀ j, hv h' 186 j = hv h 186 j) (e6 : ∀ j, hv h' 199 j = hv h 199 j) : S5 h' c t n w (e + (if SK h t = 21 ∨ SK h t = 22 then 1 else 0)) := by
  obtain ⟨s1, s2, s3, s4, s5, s6⟩ := s
  have r1 : RD h' = RD h := funext (fun i => by unfold RD; rw [e5])
  have r2 : SK h' = SK h := funext (fun i => by unfold SK; rw [e6])
  refine ⟨by rw [e1]; exact s1, e2, by rw [e3]; exact s3, by rw [e4]; exact s4, by rw [r1]; exact s5, ?_⟩
  rw [r1, r2, s6]
  show ((nb (SK h) t + (if SK h t = 21 ∨ SK h t = 22 then 1 else 0) : Nat) : Int) + e = _
  split <;> omega

theorem ml_2077 : (eg_md 2077).2.2.1 = 1 := by decide +kernel
theorem rt_2077 : (eg_md 2077).2.2.2 = none := by decide +kernel
theorem ml_2081 : (eg_md 2081).2.2.1 = 4 := by decide +kernel
theorem rt_2081 : (eg_md 2081).2.2.2 = none := by decide +kernel
theorem ml_2085 : (eg_md 2085).2.2.1 = 2 := by decide +kernel
theorem rt_2085 : (eg_md 2085).2.2.2 = none := by decide +kernel
theorem ci_2077_0 : ab_at 2077 0 (.aload_n 0) 1 = true := by decide +kernel
theorem ci_2077_1 : ab_at 2077 1 (.getfield 449) 3 = true := by decide +kernel
theorem ci_2077_4 : ab_at 2077 4 (.ifCond .le 50) 3 = true := by decide +kernel
theorem ci_2077_7 : ab_at 2077 7 (.aload_n 0) 1 = true := by decide +kernel
theorem ci_2077_8 : ab_at 2077 8 (.getfield 83) 3 = true := by decide +kernel
theorem ci_2077_11 : ab_at 2077 11 (.aload_n 0) 1 = true := by decide +kernel
theorem ci_2077_12 : ab_at 2077 12 (.getfield 449) 3 = true := by decide +kernel
theorem ci_2077_15 : ab_at 2077 15 (.iconst 1) 1 = true := by decide +kernel
theorem ci_2077_16 : ab_at 2077 16 (.isub) 1 = true := by decide +kernel
theorem ci_2077_17 : ab_at 2077 17 (.iaload) 1 = true := by decide +kernel
theorem ci_2077_18 : ab_at 2077 18 (.bipush 20) 2 = true := by decide +kernel
theorem ci_2077_20 : ab_at 2077 20 (.if_icmp .ne 34) 3 = true := by decide +kernel
theorem ci_2077_23 : ab_at 2077 23 (.aload_n 0) 1 = true := by decide +kernel
theorem ci_2077_24 : ab_at 2077 24 (.dup) 1 = true := by decide +kernel
theorem ci_2077_25 : ab_at 2077 25 (.getfield 449) 3 = true := by decide +kernel
theorem ci_2077_28 : ab_at 2077 28 (.iconst 1) 1 = true := by decide +kernel
theorem ci_2077_29 : ab_at 2077 29 (.isub) 1 = true := by decide +kernel
theorem ci_2077_30 : ab_at 2077 30 (.putfield 449) 3 = true := by decide +kernel
theorem ci_2077_33 : ab_at 2077 33 (.aload_n 0) 1 = true := by decide +kernel
theorem ci_2077_34 : ab_at 2077 34 (.dup) 1 = true := by decide +kernel
theorem ci_2077_35 : ab_at 2077 35 (.getfield 456) 3 = true := by decide +kernel
theorem ci_2077_38 : ab_at 2077 38 (.iconst 1) 1 = true := by decide +kernel
theorem ci_2077_39 : ab_at 2077 39 (.isub) 1 = true := by decide +kernel
theorem ci_2077_40 : ab_at 2077 40 (.putfield 456) 3 = true := by decide +kernel
theorem ci_2077_43 : ab_at 2077 43 (.aload_n 0) 1 = true := by decide +kernel
theorem ci_2077_44 : ab_at 2077 44 (.bipush 20) 2 = true := by decide +kernel
theorem ci_2077_46 : ab_at 2077 46 (.iconst 0) 1 = true := by decide +kernel
theorem ci_2077_47 : ab_at 2077 47 (.iconst 0) 1 = true := by decide +kernel
theorem ci_2077_48 : ab_at 2077 48 (.invokevirtual 452) 3 = true := by decide +kernel
theorem ci_2077_51 : ab_at 2077 51 (.goto (-51)) 3 = true := by decide +kernel
theorem ci_2081_0 : ab_at 2081 0 (.aload_n 0) 1 = true := by decide +kernel
theorem ci_2081_1 : ab_at 2081 1 (.getfield 40) 3 = true := by decide +kernel
theorem ci_2081_4 : ab_at 2081 4 (.iconst 3) 1 = true := by decide +kernel
theorem ci_2081_5 : ab_at 2081 5 (.aload_n 0) 1 = true := by decide +kernel
theorem ci_2081_6 : ab_at 2081 6 (.getfield 446) 3 = true := by decide +kernel
theorem ci_2081_9 : ab_at 2081 9 (.imul) 1 = true := by decide +kernel
theorem ci_2081_10 : ab_at 2081 10 (.iload_n 1) 1 = true := by decide +kernel
theorem ci_2081_11 : ab_at 2081 11 (.iastore) 1 = true := by decide +kernel
theorem ci_2081_12 : ab_at 2081 12 (.aload_n 0) 1 = true := by decide +kernel
theorem ci_2081_13 : ab_at 2081 13 (.getfield 40) 3 = true := by decide +kernel
theorem ci_2081_16 : ab_at 2081 16 (.iconst 3) 1 = true := by decide +kernel
theorem ci_2081_17 : ab_at 2081 17 (.aload_n 0) 1 = true := by decide +kernel
theorem ci_2081_18 : ab_at 2081 18 (.getfield 446) 3 = true := by decide +kernel
theorem ci_2081_21 : ab_at 2081 21 (.imul) 1 = true := by decide +kernel
theorem ci_2081_22 : ab_at 2081 22 (.iconst 1) 1 = true := by decide +kernel
theorem ci_2081_23 : ab_at 2081 23 (.iadd) 1 = true := by decide +kernel
theorem ci_2081_24 : ab_at 2081 24 (.iload_n 2) 1 = true := by decide +kernel
theorem ci_2081_25 : ab_at 2081 25 (.iastore) 1 = true := by decide +kernel
theorem ci_2081_26 : ab_at 2081 26 (.aload_n 0) 1 = true := by decide +kernel
theorem ci_2081_27 : ab_at 2081 27 (.getfield 40) 3 = true := by decide +kernel
theorem ci_2081_30 : ab_at 2081 30 (.iconst 3) 1 = true := by decide +kernel
theorem ci_2081_31 : ab_at 2081 31 (.aload_n 0) 1 = true := by decide +kernel
theorem ci_2081_32 : ab_at 2081 32 (.getfield 446) 3 = true := by decide +kernel
theorem ci_2081_35 : ab_at 2081 35 (.imul) 1 = true := by decide +kernel
theorem ci_2081_36 : ab_at 2081 36 (.iconst 2) 1 = true := by decide +kernel
theorem ci_2081_37 : ab_at 2081 37 (.iadd) 1 = true := by decide +kernel
theorem ci_2081_38 : ab_at 2081 38 (.iload_n 3) 1 = true := by decide +kernel
theorem ci_2081_39 : ab_at 2081 39 (.iastore) 1 = true := by decide +kernel
theorem ci_2081_40 : ab_at 2081 40 (.aload_n 0) 1 = true := by decide +kernel
theorem ci_2081_41 : ab_at 2081 41 (.dup) 1 = true := by decide +kernel
theorem ci_2081_42 : ab_at 2081 42 (.getfield 446) 3 = true := by decide +kernel
theorem ci_2081_45 : ab_at 2081 45 (.iconst 1) 1 = true := by decide +kernel
theorem ci_2081_46 : ab_at 2081 46 (.iadd) 1 = true := by decide +kernel
theorem ci_2081_47 : ab_at 2081 47 (.putfield 446) 3 = true := by decide +kernel
theorem ci_2085_0 : ab_at 2085 0 (.aload_n 0) 1 = true := by decide +kernel
theorem ci_2085_1 : ab_at 2085 1 (.getfield 449) 3 = true := by decide +kernel
theorem ci_2085_4 : ab_at 2085 4 (.ifCond .le 69) 3 = true := by decide +kernel
theorem ci_2085_7 : ab_at 2085 7 (.aload_n 0) 1 = true := by decide +kernel
theorem ci_2085_8 : ab_at 2085 8 (.getfield 83) 3 = true := by decide +kernel
theorem ci_2085_11 : ab_at 2085 11 (.aload_n 0) 1 = true := by decide +kernel
theorem ci_2085_12 : ab_at 2085 12 (.getfield 449) 3 = true := by decide +kernel
theorem ci_2085_15 : ab_at 2085 15 (.iconst 1) 1 = true := by decide +kernel
theorem ci_2085_16 : ab_at 2085 16 (.isub) 1 = true := by decide +kernel
theorem ci_2085_17 : ab_at 2085 17 (.iaload) 1 = true := by decide +kernel
theorem ci_2085_18 : ab_at 2085 18 (.bipush 21) 2 = true := by decide +kernel
theorem ci_2085_20 : ab_at 2085 20 (.if_icmp .eq 25) 3 = true := by decide +kernel
theorem ci_2085_23 : ab_at 2085 23 (.aload_n 0) 1 = true := by decide +kernel
theorem ci_2085_24 : ab_at 2085 24 (.getfield 83) 3 = true := by decide +kernel
theorem ci_2085_27 : ab_at 2085 27 (.aload_n 0) 1 = true := by decide +kernel
theorem ci_2085_28 : ab_at 2085 28 (.getfield 449) 3 = true := by decide +kernel
theorem ci_2085_31 : ab_at 2085 31 (.iconst 1) 1 = true := by decide +kernel
theorem ci_2085_32 : ab_at 2085 32 (.isub) 1 = true := by decide +kernel
theorem ci_2085_33 : ab_at 2085 33 (.iaload) 1 = true := by decide +kernel
theorem ci_2085_34 : ab_at 2085 34 (.bipush 22) 2 = true := by decide +kernel
theorem ci_2085_36 : ab_at 2085 36 (.if_icmp .ne 37) 3 = true := by decide +kernel
theorem ci_2085_39 : ab_at 2085 39 (.iload_n 1) 1 = true := by decide +kernel
theorem ci_2085_40 : ab_at 2085 40 (.bipush 22) 2 = true := by decide +kernel
theorem ci_2085_42 : ab_at 2085 42 (.if_icmp .ne 31) 3 = true := by decide +kernel
theorem ci_2085_45 : ab_at 2085 45 (.aload_n 0) 1 = true := by decide +kernel
theorem ci_2085_46 : ab_at 2085 46 (.dup) 1 = true := by decide +kernel
theorem ci_2085_47 : ab_at 2085 47 (.getfield 449) 3 = true := by decide +kernel
theorem ci_2085_50 : ab_at 2085 50 (.iconst 1) 1 = true := by decide +kernel
theorem ci_2085_51 : ab_at 2085 51 (.isub) 1 = true := by decide +kernel
theorem ci_2085_52 : ab_at 2085 52 (.putfield 449) 3 = true := by decide +kernel
theorem ci_2085_55 : ab_at 2085 55 (.aload_n 0) 1 = true := by decide +kernel
theorem ci_2085_56 : ab_at 2085 56 (.aload_n 0) 1 = true := by decide +kernel
theorem ci_2085_57 : ab_at 2085 57 (.getfield 83) 3 = true := by decide +kernel
theorem ci_2085_60 : ab_at 2085 60 (.aload_n 0) 1 = true := by decide +kernel
theorem ci_2085_61 : ab_at 2085 61 (.getfield 449) 3 = true := by decide +kernel
theorem ci_2085_64 : ab_at 2085 64 (.iaload) 1 = true := by decide +kernel
theorem ci_2085_65 : ab_at 2085 65 (.iconst 0) 1 = true := by decide +kernel
theorem ci_2085_66 : ab_at 2085 66 (.iconst 0) 1 = true := by decide +kernel
theorem ci_2085_67 : ab_at 2085 67 (.invokevirtual 452) 3 = true := by decide +kernel
theorem ci_2085_70 : ab_at 2085 70 (.goto (-70)) 3 = true := by decide +kernel
theorem c_code {sc : List Value} {sp d : Nat} {h : eg_H} {c t n w : Nat} {e : Int} (x1 x2 x3 : Int32) (s5 : S5 h c t n w e) (hc44 : c ≤ 44) (h1 : x1.toInt = 20 → 1 ≤ (nb (SK h) t : Int) + e) (h2 : x1.toInt = 21 ∨ x1.toInt = 22 → 2 ≤ (nb (SK h) t : Int) + e) (hp : ab_hp h) : mc sc sp 2081 11 d [.ref 182, .int x1, .int x2, .int x3] h (fun vo h' => ab_hp h' ∧ ab_fr [(182, 45, 45), (186, 0, 134)] h' h ∧ S5 h' (c + 1) t n w (e + wf_d x1.toInt) ∧ vo = none) := by
  have l0 : eg_find 0 (eg_args 0 [.ref 182, .int x1, .int x2, .int x3]) = some (.ref 182) := rfl
  have l1 : eg_find 1 (eg_args 0 [.ref 182, .int x1, .int x2, .int x3]) = some (.int x1) := rfl
  have l2 : eg_find 2 (eg_args 0 [.ref 182, .int x1, .int x2, .int x3]) = some (.int x2) := rfl
  have l3 : eg_find 3 (eg_args 0 [.ref 182, .int x1, .int x2, .int x3]) = some (.int x3) := rfl
  have hc := s5.1
  have hf : ab_fr [(182, 45, 45), (186, 0, 134)] h h := ab_fr.rf
  have hlow : ∀ j, j < 3 * c → hv h 186 j = hv h 186 j := fun j _ => rfl
  unfold mc
  refine hs_aload_n ci_2081_0 l0 ?_
  refine hs_gfr 8 186 ci_2081_1 (by decide +kernel) hp.1 ?_
  refine hs_iconst ci_2081_4 ?_
  refine hs_aload_n ci_2081_5 l0 ?_
  refine hs_gfi 45 ci_2081_6 (by decide +kernel) hp.1 ?_
  refine hs_imul ci_2081_9 ?_
  refine hs_iload_n ci_2081_10 l1 ?_
  refine hs_ias1 (0 + (3 * c)) ci_2081_11 ((i32_mul (a := 3) rfl hc (by omega) (by omega)).trans (by omega)) (ckq_v gq_rd (3 * c) (by omega)) hp.1 (ab_ige _) (ab_ile _) ?_
  intro j1 w9
  replace hf := (w9.fr (M := [(182, 45, 45), (186, 0, 134)]) (in2 (by omega) (by omega) (fun _ => trivial))).tr hf
  replace hp : ab_hp j1 := ⟨w9.1, hp.2.set (by unfold ab_pr; rfl) w9.2⟩
  replace hc : (hv j1 182 45).toInt = (c : Int) := by rw [w9.v, if_neg (fun e => absurd e.1 (by decide))]; exact hc
  replace hlow : ∀ j, j < 3 * c → hv j1 186 j = hv h 186 j := fun j hj => ((w9.v 186 j).trans (if_neg (by omega))).trans (hlow j hj)
  have hw9 : hv j1 186 (3 * c) = x1 := by rw [w9.v, if_pos ⟨rfl, by omega⟩]
  refine hs_aload_n ci_2081_12 l0 ?_
  refine hs_gfr 8 186 ci_2081_13 (by decide +kernel) hp.1 ?_
  refine hs_iconst ci_2081_16 ?_
  refine hs_aload_n ci_2081_17 l0 ?_
  refine hs_gfi 45 ci_2081_18 (by decide +kernel) hp.1 ?_
  refine hs_imul ci_2081_21 ?_
  refine hs_iconst ci_2081_22 ?_
  refine hs_iadd ci_2081_23 ?_
  refine hs_iload_n ci_2081_24 l2 ?_
  refine hs_ias1 (0 + (3 * c + 1)) ci_2081_25 ((i32_add (i32_mul (a := 3) rfl hc (by omega) (by omega)) (b := 1) rfl (by omega) (by omega)).trans (by omega)) (ckq_v gq_rd (3 * c + 1) (by omega)) hp.1 (ab_ige _) (ab_ile _) ?_
  intro j2 w9
  replace hf := (w9.fr (M := [(182, 45, 45), (186, 0, 134)]) (in2 (by omega) (by omega) (fun _ => trivial))).tr hf
  replace hp : ab_hp j2 := ⟨w9.1, hp.2.set (by unfold ab_pr; rfl) w9.2⟩
  replace hc : (hv j2 182 45).toInt = (c : Int) := by rw [w9.v, if_neg (fun e => absurd e.1 (by decide))]; exact hc
  replace hlow : ∀ j, j < 3 * c → hv j2 186 j = hv h 186 j := fun j hj => ((w9.v 186 j).trans (if_neg (by omega))).trans (hlow j hj)
  replace hw9 : hv j2 186 (3 * c) = x1 := by rw [w9.v, if_neg (by omega)]; exact hw9
  refine hs_aload_n ci_2081_26 l0 ?_
  refine hs_gfr 8 186 ci_2081_27 (by decide +kernel) hp.1 ?_
  refine hs_iconst ci_2081_30 ?_
  refine hs_aload_n ci_2081_31 l0 ?_
  refine hs_gfi 45 ci_2081_32 (by decide +kernel) hp.1 ?_
  refine hs_imul ci_2081_35 ?_
  refine hs_iconst ci_2081_36 ?_
  refine hs_iadd ci_2081_37 ?_
  refine hs_iload_n ci_2081_38 l3 ?_
  refine hs_ias1 (0 + (3 * c + 2)) ci_2081_39 ((i32_add (i32_mul (a := 3) rfl hc (by omega) (by omega)) (b := 2) rfl (by omega) (by omega)).trans (by omega)) (ckq_v gq_rd (3 * c + 2) (by omega)) hp.1 (ab_ige _) (ab_ile _) ?_
  intro j3 w9
  replace hf := (w9.fr (M := [(182, 45, 45), (186, 0, 134)]) (in2 (by omega) (by omega) (fun _ => trivial))).tr hf
  replace hp : ab_hp j3 := ⟨w9.1, hp.2.set (by unfold ab_pr; rfl) w9.2⟩
  replace hc : (hv j3 182 45).toInt = (c : Int) := by rw [w9.v, if_neg (fun e => absurd e.1 (by decide))]; exact hc
  replace hlow : ∀ j, j < 3 * c → hv j3 186 j = hv h 186 j := fun j hj => ((w9.v 186 j).trans (if_neg (by omega))).trans (hlow j hj)
  replace hw9 : hv j3 186 (3 * c) = x1 := by rw [w9.v, if_neg (by omega)]; exact hw9
  refine hs_aload_n ci_2081_40 l0 ?_
  refine hs_dup ci_2081_41 rfl ?_
  refine hs_gfi 45 ci_2081_42 (by decide +kernel) hp.1 ?_
  refine hs_iconst ci_2081_45 ?_
  refine hs_iadd ci_2081_46 ?_
  have e5 : (hv j3 182 45 + Int32.ofInt 1).toInt = ((c + 1 : Nat) : Int) := (i32_add hc (b := 1) rfl (by omega) (by omega)).trans (by omega)
  refine hs_pfi 45 0 45 ci_2081_47 (by decide +kernel) hp.1 (by rw [e5]; omega) (by rw [e5]; omega) ?_
  intro j4 w9
  replace hf := (w9.fr (M := [(182, 45, 45), (186, 0, 134)]) rfl).tr hf
  replace hp : ab_hp j4 := ⟨w9.1, hp.2.set (by unfold ab_pr; rfl) w9.2⟩
  have hc4 : (hv j4 182 45).toInt = ((c + 1 : Nat) : Int) := by rw [w9.v, if_pos ⟨rfl, rfl⟩]; exact e5
  replace hlow : ∀ j, j < 3 * c → hv j4 186 j = hv h 186 j := fun j hj => ((w9.v 186 j).trans (if_neg (fun e => absurd e.1 (by decide)))).trans (hlow j hj)
  replace hw9 : hv j4 186 (3 * c) = x1 := by rw [w9.v, if_neg (fun e => absurd e.1 (by decide))]; exact hw9
  exact hs_k ⟨5, none, by decide +kernel, by rw [rt_2081]; rfl, hp, hf, s5.code h1 h2 hc4 (hv_fr hf (by rfl)) (hv_fr hf (by rfl)) (hv_fr hf (by rfl)) hlow (by rw [hw9]) (fun j => hv_fr hf (by rfl)), rfl⟩
theorem nt_loop {sc : List Value} {sp d : Nat} {h0 : eg_H} {n k : Nat} (hk : k ≤ 44) (r : Nat) : ∀ (c t : Nat) (ls : eg_L) (h : eg_H), t + 1 ≤ r → c + t = k → S5 h c t n 1 1 → ab_hp h → ab_fr [(182, 45, 48), (186, 0, 134)] h h0 → eg_find 0 ls = some (.ref 182) → hs sc sp 2077 11 (d + 1) (fun pc' _ st' h' => pc' = 54 ∧ st' = [] ∧ ab_hp h' ∧ ab_fr [(182, 45, 48), (186, 0, 134)] h' h0 ∧ ∃ c' t', c' + t' = k ∧ t' ≤ t ∧ S5 h' c' t' n 1 1) 0 ls [] h := by
  induction r with
  | zero =>
    intro c t ls h hr
    omega
  | succ r ih =>
    intro c t ls h hr hk2 s5 hp hf l0
    refine hs_aload_n ci_2077_0 l0 ?_
    refine hs_gfi 47 ci_2077_1 (by decide +kernel) hp.1 ?_
    refine hs_if (t := 54) ci_2077_4 rfl (fun b4 => ?_) (fun b4 => ?_)
    · simp only [hs_cd, ab_not] at b4
      exact hs_k ⟨rfl, rfl, hp, hf, c, _, hk2, Nat.le_refl _, s5⟩
    · simp only [hs_cd, ab_not] at b4
      obtain ⟨t, rfl⟩ : ∃ t1, t = t1 + 1 := ⟨t - 1, by have := s5.2.1; omega⟩
      refine hs_aload_n ci_2077_7 l0 ?_
      refine hs_gfr 44 199 ci_2077_8 (by decide +kernel) hp.1 ?_
      refine hs_aload_n ci_2077_11 l0 ?_
      refine hs_gfi 47 ci_2077_12 (by decide +kernel) hp.1 ?_
      refine hs_iconst ci_2077_15 ?_
      refine hs_isub ci_2077_16 ?_
      refine hs_ial1 (0 + t) ci_2077_17 ((i32_sub s5.2.1 (b := 1) rfl (by omega) (by omega)).trans (by omega)) (ckq_v gq_sk t (by omega)) hp.1 ?_
      refine hs_bipush ci_2077_18 ?_
      refine hs_ic (t := 54) ci_2077_20 rfl (fun b20 => ?_) (fun b20 => ?_)
      · simp only [hs_cd, ab_not] at b20
        exact hs_k ⟨rfl, rfl, hp, hf, c, _, hk2, Nat.le_refl _, s5⟩
      · simp only [hs_cd, ab_not] at b20
        refine hs_aload_n ci_2077_23 l0 ?_
        refine hs_dup ci_2077_24 rfl ?_
        refine hs_gfi 47 ci_2077_25 (by decide +kernel) hp.1 ?_
        refine hs_iconst ci_2077_28 ?_
        refine hs_isub ci_2077_29 ?_
        have e5 : (hv h 182 47 - Int32.ofInt 1).toInt = (t : Int) := (i32_sub s5.2.1 (b := 1) rfl (by omega) (by omega)).trans (by omega)
        refine hs_pfi 47 0 45 ci_2077_30 (by decide +kernel) hp.1 (by rw [e5]; omega) (by rw [e5]; omega) ?_
        intro j1 w9
        replace hf := (w9.fr (M := [(182, 45, 48), (186, 0, 134)]) rfl).tr hf
        replace hp : ab_hp j1 := ⟨w9.1, hp.2.set (by unfold ab_pr; rfl) w9.2⟩
        have s6 := s5.pop (h' := j1) (by rw [w9.v, if_neg (fun e => absurd e.2 (by decide))]) (by rw [w9.v, if_pos ⟨rfl, rfl⟩]; exact e5) (by rw [w9.v, if_neg (fun e => absurd e.2 (by decide))]) (by rw [w9.v, if_neg (fun e => absurd e.2 (by decide))]) (fun j => by rw [w9.v, if_neg (fun e => absurd e.1 (by decide))]) (fun j => by rw [w9.v, if_neg (fun e => absurd e.1 (by decide))])
        clear w9
        refine hs_aload_n ci_2077_33 l0 ?_
        refine hs_dup ci_2077_34 rfl ?_
        refine hs_gfi 48 ci_2077_35 (by decide +kernel) hp.1 ?_
        refine hs_iconst ci_2077_38 ?_
        refine hs_isub ci_2077_39 ?_
        refine hs_pfi 48 (-2147483648) (2147483647) ci_2077_40 (by decide +kernel) hp.1 (ab_ige _) (ab_ile _) ?_
        intro j2 w9
        replace hf := (w9.fr (M := [(182, 45, 48), (186, 0, 134)]) rfl).tr hf
        replace hp : ab_hp j2 := ⟨w9.1, hp.2.set (by unfold ab_pr; rfl) w9.2⟩
        have hsk : SK h t = 20 := by have e20 : (Int8.ofInt 20).toInt32.toInt = 20 := rfl; unfold SK; rw [show t = 0 + t by omega]; omega
        rw [if_neg (by rw [hsk]; decide)] at s6
        replace s6 := s6.same (h' := j2) (by rw [w9.v, if_neg (fun e => absurd e.2 (by decide))]) (by rw [w9.v, if_neg (fun e => absurd e.2 (by decide))]) (by rw [w9.v, if_neg (fun e => absurd e.2 (by decide))]) (by rw [w9.v, if_neg (fun e => absurd e.2 (by decide))]) (fun j => by rw [w9.v, if_neg (fun e => absurd e.1 (by decide))]) (fun j => by rw [w9.v, if_neg (fun e => absurd e.1 (by decide))])
        clear w9
        refine hs_aload_n ci_2077_43 l0 ?_
        refine hs_bipush ci_2077_44 ?_
        refine hs_iconst ci_2077_46 ?_
        refine hs_iconst ci_2077_47 ?_
        refine hs_cv 2081 11 3 ci_2077_48 (by decide +kernel) (by decide +kernel) hp.1 rfl (by rw [ml_2081]; rfl) (c_code (d := d) _ _ _ s6 (by omega) (fun _ => by omega) (fun q => by have e20 : (Int8.ofInt 20).toInt32.toInt = 20 := rfl; omega) hp) ?_
        rintro v9 k1 ⟨hp2, f2, s7, e8⟩
        rw [e8]
        clear e8 v9
        simp only [Option.toList, List.cons_append, List.nil_append]
        have e20 : wf_d (Int8.ofInt 20).toInt32.toInt = 0 := rfl
        rw [e20] at s7
        replace hf := (fr_sub (M := [(182, 45, 48), (186, 0, 134)]) (by decide +kernel) f2).tr hf
        replace hp := hp2
        clear hp2
        refine hs_goto (t := 0) ci_2077_51 rfl ?_
        refine hs.mono (ih (c + 1) t _ _ (by omega) (by omega) s7 hp hf l0) ?_
        rintro pc' ls' st' h' ⟨g1, g2, g3, g4, c', t', g5, g6, g7⟩
        exact ⟨g1, g2, g3, g4, c', t', g5, by omega, g7⟩
theorem c_nots {sc : List Value} {sp d : Nat} {h : eg_H} {c t n : Nat} (hk : c + t ≤ 44) (s5 : S5 h c t n 1 1) (hp : ab_hp h) : mc sc sp 2077 11 (d + 1) [.ref 182] h (fun vo h' => ab_hp h' ∧ ab_fr [(182, 45, 48), (186, 0, 134)] h' h ∧ (∃ c' t', c' + t' = c + t ∧ t' ≤ t ∧ S5 h' c' t' n 1 1) ∧ vo = none) := by
  have l0 : eg_find 0 (eg_args 0 [.ref 182]) = some (.ref 182) := rfl
  unfold mc
  refine hs.mono (nt_loop hk (t + 1) c t _ h (Nat.le_refl _) rfl s5 hp ab_fr.rf l0) ?_
  rintro pc' ls' st' h' ⟨rfl, rfl, g3, g4, g5⟩
  exact ⟨5, none, by decide +kernel, by rw [rt_2077]; rfl, g3, g4, g5, rfl⟩
theorem jn_loop {sc : List Value} {sp d : Nat} {h0 : eg_H} {n k : Nat} {x1 : Int32} (hk : k ≤ 44) (r : Nat) : ∀ (c t : Nat) (ls : eg_L) (h : eg_H), t + 1 ≤ r → c + t = k → S5 h c t n 1 1 → ab_hp h → ab_fr [(182, 45, 48), (186, 0, 134)] h h0 → eg_find 0 ls = some (.ref 182) → eg_find 1 ls = some (.int x1) → hs sc sp 2085 11 (d + 1) (fun pc' _ st' h' => pc' = 73 ∧ st' = [] ∧ ab_hp h' ∧ ab_fr [(182, 45, 48), (186, 0, 134)] h' h0 ∧ ∃ c' t', c' + t' = k ∧ t' ≤ t ∧ S5 h' c' t' n 1 1 ∧ (x1.toInt = 22 → t' = 0 ∨ ∃ t1, t' = t1 + 1 ∧ ¬ (SK h' t1 = 21 ∨ SK h' t1 = 22))) 0 ls [] h := by
  induction r with
  | zero =>
    intro c t ls h hr
    omega
  | succ r ih =>
    intro c t ls h hr hk2 s5 hp hf l0 l1
    refine hs_aload_n ci_2085_0 l0 ?_
    refine hs_gfi 47 ci_2085_1 (by decide +kernel) hp.1 ?_
    refine hs_if (t := 73) ci_2085_4 rfl (fun b4 => ?_) (fun b4 => ?_)
    · simp only [hs_cd, ab_not] at b4
      exact hs_k ⟨rfl, rfl, hp, hf, c, _, hk2, Nat.le_refl _, s5, fun _ => Or.inl (by have := s5.2.1; omega)⟩
    · simp only [hs_cd, ab_not] at b4
      obtain ⟨t, rfl⟩ : ∃ t1, t = t1 + 1 := ⟨t - 1, by have := s5.2.1; omega⟩
      have e21 : (Int8.ofInt 21).toInt32.toInt = 21 := rfl
      have e22 : (Int8.ofInt 22).toInt32.toInt = 22 := rfl
      refine hs_aload_n ci_2085_7 l0 ?_
      refine hs_gfr 44 199 ci_2085_8 (by decide +kernel) hp.1 ?_
      refine hs_aload_n ci_2085_11 l0 ?_
      refine hs_gfi 47 ci_2085_12 (by decide +kernel) hp.1 ?_
      refine hs_iconst ci_2085_15 ?_
      refine hs_isub ci_2085_16 ?_
      refine hs_ial1 (0 + t) ci_2085_17 ((i32_sub s5.2.1 (b := 1) rfl (by omega) (by omega)).trans (by omega)) (ckq_v gq_sk t (by omega)) hp.1 ?_
      refine hs_bipush ci_2085_18 ?_
      refine hs_ic (t := 45) ci_2085_20 rfl (fun b20 => ?_) (fun b20 => ?_)
      · simp only [hs_cd, ab_not] at b20
        refine hs_aload_n ci_2085_45 l0 ?_
        refine hs_dup ci_2085_46 rfl ?_
        refine hs_gfi 47 ci_2085_47 (by decide +kernel) hp.1 ?_
        refine hs_iconst ci_2085_50 ?_
        refine hs_isub ci_2085_51 ?_
        have e5 : (hv h 182 47 - Int32.ofInt 1).toInt = (t : Int) := (i32_sub s5.2.1 (b := 1) rfl (by omega) (by omega)).trans (by omega)
        refine hs_pfi 47 0 45 ci_2085_52 (by decide +kernel) hp.1 (by rw [e5]; omega) (by rw [e5]; omega) ?_
        intro j1 w9
        replace hf := (w9.fr (M := [(182, 45, 48), (186, 0, 134)]) rfl).tr hf
        replace hp : ab_hp j1 := ⟨w9.1, hp.2.set (by unfold ab_pr; rfl) w9.2⟩
        have s6 := s5.pop (h' := j1) (by rw [w9.v, if_neg (fun e => absurd e.2 (by decide))]) (by rw [w9.v, if_pos ⟨rfl, rfl⟩]; exact e5) (by rw [w9.v, if_neg (fun e => absurd e.2 (by decide))]) (by rw [w9.v, if_neg (fun e => absurd e.2 (by decide))]) (fun j => by rw [w9.v, if_neg (fun e => absurd e.1 (by decide))]) (fun j => by rw [w9.v, if_neg (fun e => absurd e.1 (by decide))])
        have FJ : ab_fr [(182, 45, 48), (186, 0, 134)] j1 h := w9.fr rfl
        clear w9
        refine hs_aload_n ci_2085_55 l0 ?_
        refine hs_aload_n ci_2085_56 l0 ?_
        refine hs_gfr 44 199 ci_2085_57 (by decide +kernel) hp.1 ?_
        refine hs_aload_n ci_2085_60 l0 ?_
        refine hs_gfi 47 ci_2085_61 (by decide +kernel) hp.1 ?_
        have hbin : SK h t = 21 ∨ SK h t = 22 := by unfold SK; rw [show t = 0 + t by omega]; omega
        have hsv : hv j1 199 (0 + t) = hv h 199 (0 + t) := hv_fr FJ (by rfl)
        rw [if_pos hbin] at s6
        refine hs_ial1 (0 + t) ci_2085_64 (s6.2.1.trans (by omega)) (ckq_v gq_sk t (by omega)) hp.1 ?_
        rw [hsv]
        have hbin2 : (hv h 199 (0 + t)).toInt = 21 ∨ (hv h 199 (0 + t)).toInt = 22 := by have := hbin; unfold SK at this; rw [show t = 0 + t by omega] at this; exact this
        refine hs_iconst ci_2085_65 ?_
        refine hs_iconst ci_2085_66 ?_
        refine hs_cv 2081 11 3 ci_2085_67 (by decide +kernel) (by decide +kernel) hp.1 rfl (by rw [ml_2081]; rfl) (c_code (d := d) _ _ _ s6 (by omega) (fun q => by omega) (fun _ => by omega) hp) ?_
        rintro v9 k2 ⟨hp2, f2, s7, e8⟩
        rw [e8]
        clear e8 v9
        simp only [Option.toList, List.cons_append, List.nil_append]
        have ewf : wf_d (hv h 199 (0 + t)).toInt = -1 := by
          unfold wf_d
          rcases hbin2 with q | q <;> rw [q] <;> rfl
        rw [ewf] at s7
        replace hf := (fr_sub (M := [(182, 45, 48), (186, 0, 134)]) (by decide +kernel) f2).tr hf
        replace hp := hp2
        clear hp2
        refine hs_goto (t := 0) ci_2085_70 rfl ?_
        refine hs.mono (ih (c + 1) t _ _ (by omega) (by omega) s7 hp hf l0 l1) ?_
        rintro pc' ls' st' h' ⟨g1, g2, g3, g4, c', t', g5, g6, g7, g8⟩
        exact ⟨g1, g2, g3, g4, c', t', g5, by omega, g7, g8⟩
      · simp only [hs_cd, ab_not] at b20
        refine hs_aload_n ci_2085_23 l0 ?_
        refine hs_gfr 44 199 ci_2085_24 (by decide +kernel) hp.1 ?_
        refine hs_aload_n ci_2085_27 l0 ?_
        refine hs_gfi 47 ci_2085_28 (by decide +kernel) hp.1 ?_
        refine hs_iconst ci_2085_31 ?_
        refine hs_isub ci_2085_32 ?_
        refine hs_ial1 (0 + t) ci_2085_33 ((i32_sub s5.2.1 (b := 1) rfl (by omega) (by omega)).trans (by omega)) (ckq_v gq_sk t (by omega)) hp.1 ?_
        refine hs_bipush ci_2085_34 ?_
        refine hs_ic (t := 73) ci_2085_36 rfl (fun b36 => ?_) (fun b36 => ?_)
        · simp only [hs_cd, ab_not] at b36
          exact hs_k ⟨rfl, rfl, hp, hf, c, _, hk2, Nat.le_refl _, s5, fun q => Or.inr ⟨t, rfl, by unfold SK; rw [show t = 0 + t by omega]; omega⟩⟩
        · simp only [hs_cd, ab_not] at b36
          refine hs_iload_n ci_2085_39 l1 ?_
          refine hs_bipush ci_2085_40 ?_
          refine hs_ic (t := 73) ci_2085_42 rfl (fun b42 => ?_) (fun b42 => ?_)
          · simp only [hs_cd, ab_not] at b42
            exact hs_k ⟨rfl, rfl, hp, hf, c, _, hk2, Nat.le_refl _, s5, fun q => Or.inr ⟨t, rfl, by unfold SK; rw [show t = 0 + t by omega]; omega⟩⟩
          · simp only [hs_cd, ab_not] at b42
            refine hs_aload_n ci_2085_45 l0 ?_
            refine hs_dup ci_2085_46 rfl ?_
            refine hs_gfi 47 ci_2085_47 (by decide +kernel) hp.1 ?_
            refine hs_iconst ci_2085_50 ?_
            refine hs_isub ci_2085_51 ?_
            have e5 : (hv h 182 47 - Int32.ofInt 1).toInt = (t : Int) := (i32_sub s5.2.1 (b := 1) rfl (by omega) (by omega)).trans (by omega)
            refine hs_pfi 47 0 45 ci_2085_52 (by decide +kernel) hp.1 (by rw [e5]; omega) (by rw [e5]; omega) ?_
            intro j1 w9
            replace hf := (w9.fr (M := [(182, 45, 48), (186, 0, 134)]) rfl).tr hf
            replace hp : ab_hp j1 := ⟨w9.1, hp.2.set (by unfold ab_pr; rfl) w9.2⟩
            have s6 := s5.pop (h' := j1) (by rw [w9.v, if_neg (fun e => absurd e.2 (by decide))]) (by rw [w9.v, if_pos ⟨rfl, rfl⟩]; exact e5) (by rw [w9.v, if_neg (fun e => absurd e.2 (by decide))]) (by rw [w9.v, if_neg (fun e => absurd e.2 (by decide))]) (fun j => by rw [w9.v, if_neg (fun e => absurd e.1 (by decide))]) (fun j => by rw [w9.v, if_neg (fun e => absurd e.1 (by decide))])
            have FJ : ab_fr [(182, 45, 48), (186, 0, 134)] j1 h := w9.fr rfl
            clear w9
            refine hs_aload_n ci_2085_55 l0 ?_
            refine hs_aload_n ci_2085_56 l0 ?_
            refine hs_gfr 44 199 ci_2085_57 (by decide +kernel) hp.1 ?_
            refine hs_aload_n ci_2085_60 l0 ?_
            refine hs_gfi 47 ci_2085_61 (by decide +kernel) hp.1 ?_
            have hbin : SK h t = 21 ∨ SK h t = 22 := by unfold SK; rw [show t = 0 + t by omega]; omega
            have hsv : hv j1 199 (0 + t) = hv h 199 (0 + t) := hv_fr FJ (by rfl)
            rw [if_pos hbin] at s6
            refine hs_ial1 (0 + t) ci_2085_64 (s6.2.1.trans (by omega)) (ckq_v gq_sk t (by omega)) hp.1 ?_
            rw [hsv]
            have hbin2 : (hv h 199 (0 + t)).toInt = 21 ∨ (hv h 199 (0 + t)).toInt = 22 := by have := hbin; unfold SK at this; rw [show t = 0 + t by omega] at this; exact this
            refine hs_iconst ci_2085_65 ?_
            refine hs_iconst ci_2085_66 ?_
            refine hs_cv 2081 11 3 ci_2085_67 (by decide +kernel) (by decide +kernel) hp.1 rfl (by rw [ml_2081]; rfl) (c_code (d := d) _ _ _ s6 (by omega) (fun q => by omega) (fun _ => by omega) hp) ?_
            rintro v9 k2 ⟨hp2, f2, s7, e8⟩
            rw [e8]
            clear e8 v9
            simp only [Option.toList, List.cons_append, List.nil_append]
            have ewf : wf_d (hv h 199 (0 + t)).toInt = -1 := by
              unfold wf_d
              rcases hbin2 with q | q <;> rw [q] <;> rfl
            rw [ewf] at s7
            replace hf := (fr_sub (M := [(182, 45, 48), (186, 0, 134)]) (by decide +kernel) f2).tr hf
            replace hp := hp2
            clear hp2
            refine hs_goto (t := 0) ci_2085_70 rfl ?_
            refine hs.mono (ih (c + 1) t _ _ (by omega) (by omega) s7 hp hf l0 l1) ?_
            rintro pc' ls' st' h' ⟨g1, g2, g3, g4, c', t', g5, g6, g7, g8⟩
            exact ⟨g1, g2, g3, g4, c', t', g5, by omega, g7, g8⟩
theorem c_joins {sc : List Value} {sp d : Nat} {h : eg_H} {c t n : Nat} (x1 : Int32) (hk : c + t ≤ 44) (s5 : S5 h c t n 1 1) (hp : ab_hp h) : mc sc sp 2085 11 (d + 1) [.ref 182, .int x1] h (fun vo h' => ab_hp h' ∧ ab_fr [(182, 45, 48), (186, 0, 134)] h' h ∧ (∃ c' t', c' + t' = c + t ∧ t' ≤ t ∧ S5 h' c' t' n 1 1 ∧ (x1.toInt = 22 → t' = 0 ∨ ∃ t1, t' = t1 + 1 ∧ ¬ (SK h' t1 = 21 ∨ SK h' t1 = 22))) ∧ vo = none) := by
  have l0 : eg_find 0 (eg_args 0 [.ref 182, .int x1]) = some (.ref 182) := rfl
  have l1 : eg_find 1 (eg_args 0 [.ref 182, .int x1]) = some (.int x1) := rfl
  unfold mc
  refine hs.mono (jn_loop hk (t + 1) c t _ h (Nat.le_refl _) rfl s5 hp ab_fr.rf l0 l1) ?_
  rintro pc' ls' st' h' ⟨rfl, rfl, g3, g4, g5⟩
  exact ⟨5, none, by decide +kernel, by rw [rt_2085]; rfl, g3, g4, g5, rfl⟩
