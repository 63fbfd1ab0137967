/-! BY HAND: the reference's headland -/
theorem ci_1483_0 : ab_at 1483 0 (.iconst 0) 1 = true := by decide +kernel
theorem ci_1483_1 : ab_at 1483 1 (.istore_n 1) 1 = true := by decide +kernel
theorem ci_1483_2 : ab_at 1483 2 (.iload_n 1) 1 = true := by decide +kernel
theorem ci_1483_3 : ab_at 1483 3 (.bipush 89) 2 = true := by decide +kernel
theorem ci_1483_5 : ab_at 1483 5 (.if_icmp .ge 16) 3 = true := by decide +kernel
theorem ci_1483_8 : ab_at 1483 8 (.aload_n 0) 1 = true := by decide +kernel
theorem ci_1483_9 : ab_at 1483 9 (.getfield 37) 3 = true := by decide +kernel
theorem ci_1483_12 : ab_at 1483 12 (.iload_n 1) 1 = true := by decide +kernel
theorem ci_1483_13 : ab_at 1483 13 (.iconst 0) 1 = true := by decide +kernel
theorem ci_1483_14 : ab_at 1483 14 (.iastore) 1 = true := by decide +kernel
theorem ci_1483_15 : ab_at 1483 15 (.iinc 1 1) 3 = true := by decide +kernel
theorem ci_1483_18 : ab_at 1483 18 (.goto (-16)) 3 = true := by decide +kernel
theorem ci_1483_21 : ab_at 1483 21 (.aload_n 0) 1 = true := by decide +kernel
theorem ci_1483_22 : ab_at 1483 22 (.getfield 37) 3 = true := by decide +kernel
theorem ci_1483_25 : ab_at 1483 25 (.iconst 2) 1 = true := by decide +kernel
theorem ci_1483_26 : ab_at 1483 26 (.iconst 4) 1 = true := by decide +kernel
theorem ci_1483_27 : ab_at 1483 27 (.iastore) 1 = true := by decide +kernel
theorem ci_1483_28 : ab_at 1483 28 (.aload_n 0) 1 = true := by decide +kernel
theorem ci_1483_29 : ab_at 1483 29 (.getfield 37) 3 = true := by decide +kernel
theorem ci_1483_32 : ab_at 1483 32 (.iconst 3) 1 = true := by decide +kernel
theorem ci_1483_33 : ab_at 1483 33 (.iconst 4) 1 = true := by decide +kernel
theorem ci_1483_34 : ab_at 1483 34 (.iastore) 1 = true := by decide +kernel
theorem ci_1483_35 : ab_at 1483 35 (.aload_n 0) 1 = true := by decide +kernel
theorem ci_1483_36 : ab_at 1483 36 (.getfield 37) 3 = true := by decide +kernel
theorem ci_1483_39 : ab_at 1483 39 (.iconst 5) 1 = true := by decide +kernel
theorem ci_1483_40 : ab_at 1483 40 (.iconst 1) 1 = true := by decide +kernel
theorem ci_1483_41 : ab_at 1483 41 (.iastore) 1 = true := by decide +kernel
theorem ci_1483_42 : ab_at 1483 42 (.aload_n 0) 1 = true := by decide +kernel
theorem ci_1483_43 : ab_at 1483 43 (.getfield 37) 3 = true := by decide +kernel
theorem ci_1483_46 : ab_at 1483 46 (.bipush 6) 2 = true := by decide +kernel
theorem ci_1483_48 : ab_at 1483 48 (.iconst 1) 1 = true := by decide +kernel
theorem ci_1483_49 : ab_at 1483 49 (.iastore) 1 = true := by decide +kernel
theorem ci_1650_0 : ab_at 1650 0 (.aload_n 0) 1 = true := by decide +kernel
theorem ci_1650_1 : ab_at 1650 1 (.iconst 0) 1 = true := by decide +kernel
theorem ci_1650_2 : ab_at 1650 2 (.putfield 1) 3 = true := by decide +kernel
theorem ci_1650_5 : ab_at 1650 5 (.aload_n 0) 1 = true := by decide +kernel
theorem ci_1650_6 : ab_at 1650 6 (.sipush 900) 3 = true := by decide +kernel
theorem ci_1650_9 : ab_at 1650 9 (.invokevirtual 243) 3 = true := by decide +kernel
theorem ci_1650_12 : ab_at 1650 12 (.aload_n 0) 1 = true := by decide +kernel
theorem ci_1650_13 : ab_at 1650 13 (.iconst 0) 1 = true := by decide +kernel
theorem ci_1650_14 : ab_at 1650 14 (.putfield 175) 3 = true := by decide +kernel
theorem ci_1650_17 : ab_at 1650 17 (.aload_n 0) 1 = true := by decide +kernel
theorem ci_1650_18 : ab_at 1650 18 (.iconst 0) 1 = true := by decide +kernel
theorem ci_1650_19 : ab_at 1650 19 (.putfield 246) 3 = true := by decide +kernel
theorem ci_1650_22 : ab_at 1650 22 (.aload_n 0) 1 = true := by decide +kernel
theorem ci_1650_23 : ab_at 1650 23 (.iconst 0) 1 = true := by decide +kernel
theorem ci_1650_24 : ab_at 1650 24 (.putfield 212) 3 = true := by decide +kernel
theorem ci_1650_27 : ab_at 1650 27 (.aload_n 0) 1 = true := by decide +kernel
theorem ci_1650_28 : ab_at 1650 28 (.invokevirtual 145) 3 = true := by decide +kernel
theorem ci_1650_31 : ab_at 1650 31 (.aload_n 0) 1 = true := by decide +kernel
theorem ci_1650_32 : ab_at 1650 32 (.invokevirtual 187) 3 = true := by decide +kernel
theorem ci_1650_35 : ab_at 1650 35 (.aload_n 0) 1 = true := by decide +kernel
theorem ci_1650_36 : ab_at 1650 36 (.getfield 158) 3 = true := by decide +kernel
theorem ci_1650_39 : ab_at 1650 39 (.ifCond .eq 39) 3 = true := by decide +kernel
theorem ci_1650_42 : ab_at 1650 42 (.aload_n 0) 1 = true := by decide +kernel
theorem ci_1650_43 : ab_at 1650 43 (.invokevirtual 249) 3 = true := by decide +kernel
theorem ci_1650_46 : ab_at 1650 46 (.ifCond .eq 12) 3 = true := by decide +kernel
theorem ci_1650_49 : ab_at 1650 49 (.aload_n 0) 1 = true := by decide +kernel
theorem ci_1650_50 : ab_at 1650 50 (.bipush 59) 2 = true := by decide +kernel
theorem ci_1650_52 : ab_at 1650 52 (.invokevirtual 252) 3 = true := by decide +kernel
theorem ci_1650_55 : ab_at 1650 55 (.ifCond .ne 10) 3 = true := by decide +kernel
theorem ci_1650_58 : ab_at 1650 58 (.iconst (-1)) 1 = true := by decide +kernel
theorem ci_1650_59 : ab_at 1650 59 (.aload_n 0) 1 = true := by decide +kernel
theorem ci_1650_60 : ab_at 1650 60 (.getfield 178) 3 = true := by decide +kernel
theorem ci_1650_63 : ab_at 1650 63 (.isub) 1 = true := by decide +kernel
theorem ci_1650_65 : ab_at 1650 65 (.aload_n 0) 1 = true := by decide +kernel
theorem ci_1650_66 : ab_at 1650 66 (.dup) 1 = true := by decide +kernel
theorem ci_1650_67 : ab_at 1650 67 (.getfield 246) 3 = true := by decide +kernel
theorem ci_1650_70 : ab_at 1650 70 (.iconst 1) 1 = true := by decide +kernel
theorem ci_1650_71 : ab_at 1650 71 (.iadd) 1 = true := by decide +kernel
theorem ci_1650_72 : ab_at 1650 72 (.putfield 246) 3 = true := by decide +kernel
theorem ci_1650_75 : ab_at 1650 75 (.goto (-40)) 3 = true := by decide +kernel
theorem ci_1650_78 : ab_at 1650 78 (.iconst 0) 1 = true := by decide +kernel
theorem ci_1650_79 : ab_at 1650 79 (.istore_n 1) 1 = true := by decide +kernel
theorem ci_1650_176 : ab_at 1650 176 (.aload_n 0) 1 = true := by decide +kernel
theorem ci_1650_177 : ab_at 1650 177 (.iconst 0) 1 = true := by decide +kernel
theorem ci_1650_178 : ab_at 1650 178 (.putfield 255) 3 = true := by decide +kernel
theorem ci_1650_181 : ab_at 1650 181 (.aload_n 0) 1 = true := by decide +kernel
theorem ci_1650_182 : ab_at 1650 182 (.getfield 246) 3 = true := by decide +kernel
theorem ci_1654_0 : ab_at 1654 0 (.aload_n 0) 1 = true := by decide +kernel
theorem ci_1654_1 : ab_at 1654 1 (.aload_n 0) 1 = true := by decide +kernel
theorem ci_1654_2 : ab_at 1654 2 (.getfield 7) 3 = true := by decide +kernel
theorem ci_1654_5 : ab_at 1654 5 (.putfield 18) 3 = true := by decide +kernel
theorem ci_1654_8 : ab_at 1654 8 (.aload_n 0) 1 = true := by decide +kernel
theorem ci_1654_9 : ab_at 1654 9 (.iconst 0) 1 = true := by decide +kernel
theorem ci_1654_10 : ab_at 1654 10 (.putfield 7) 3 = true := by decide +kernel
theorem ci_1654_13 : ab_at 1654 13 (.aload_n 0) 1 = true := by decide +kernel
theorem ci_1654_14 : ab_at 1654 14 (.iconst 0) 1 = true := by decide +kernel
theorem ci_1654_15 : ab_at 1654 15 (.putfield 21) 3 = true := by decide +kernel
theorem ci_1654_18 : ab_at 1654 18 (.aload_n 0) 1 = true := by decide +kernel
theorem ci_1654_19 : ab_at 1654 19 (.iload_n 1) 1 = true := by decide +kernel
theorem ci_1654_20 : ab_at 1654 20 (.putfield 24) 3 = true := by decide +kernel
theorem ml_1483 : (eg_md 1483).2.2.1 = 2 := by decide +kernel
theorem ml_1654 : (eg_md 1654).2.2.1 = 2 := by decide +kernel
theorem ml_1672 : (eg_md 1672).2.2.1 = 2 := by decide +kernel
theorem kB_89 : (Int8.ofInt (89)).toInt32.toInt = 89 := by decide +kernel
theorem sbn_i {α β : Type} {x : Sum ER α} {k : α → Sum ER β} {r : β} (h : sbn x k = .inr r) : ∃ a, x = .inr a ∧ k a = .inr r := by
  match x, h with
  | .inl e, h => exact absurd h (by simp [sbn])
  | .inr a, h => exact ⟨a, rfl, h⟩
theorem ite_i {α : Type} {c : Prop} [Decidable c] {e : ER} {x : Sum ER α} {r : α} (h : (if c then .inl e else x) = .inr r) : ¬ c ∧ x = .inr r := by
  by_cases hc : c
  · rw [if_pos hc] at h
    exact absurd h (by simp)
  · rw [if_neg hc] at h
    exact ⟨hc, h⟩
section RJ
variable {tk : Nat → tx_K} {ta : Nat → Nat} {ps p : PS} {j j' : Nat}
theorem pg_size (h : sp_size tk ta ps j = .inr (p, j')) : j' = j + 2 := by
  unfold sp_size at h
  obtain ⟨-, h⟩ := ite_i h
  obtain ⟨_, -, h⟩ := sbn_i h
  obtain ⟨_, -, h⟩ := sbn_i h
  exact (Prod.mk.inj (Sum.inr.inj h)).2.symm
theorem pg_man (h : sp_man tk ta ps j = .inr (p, j')) : j' = j + 3 := by
  unfold sp_man at h
  obtain ⟨-, h⟩ := ite_i h
  obtain ⟨_, -, h⟩ := sbn_i h
  obtain ⟨_, -, h⟩ := sbn_i h
  exact (Prod.mk.inj (Sum.inr.inj h)).2.symm
theorem pg_prom (h : sp_prom tk ta ps j = .inr (p, j')) : j' = j + 7 := by
  unfold sp_prom at h
  obtain ⟨-, h⟩ := ite_i h
  obtain ⟨_, -, h⟩ := sbn_i h
  obtain ⟨_, -, h⟩ := sbn_i h
  obtain ⟨_, -, h⟩ := sbn_i h
  obtain ⟨-, h⟩ := ite_i h
  obtain ⟨_, -, h⟩ := sbn_i h
  obtain ⟨_, -, h⟩ := sbn_i h
  obtain ⟨_, -, h⟩ := sbn_i h
  exact (Prod.mk.inj (Sum.inr.inj h)).2.symm
theorem pg_clash (h : sp_clash tk ta ps j = .inr (p, j')) : j' = j + 2 := by
  unfold sp_clash at h
  obtain ⟨-, h⟩ := ite_i h
  obtain ⟨_, -, h⟩ := sbn_i h
  obtain ⟨_, -, h⟩ := sbn_i h
  obtain ⟨-, h⟩ := ite_i h
  exact (Prod.mk.inj (Sum.inr.inj h)).2.symm
theorem pg_grow (h : sp_grow tk ta ps j = .inr (p, j')) : j' = j + 1 := by
  unfold sp_grow at h
  obtain ⟨-, h⟩ := ite_i h
  obtain ⟨_, -, h⟩ := sbn_i h
  exact (Prod.mk.inj (Sum.inr.inj h)).2.symm
theorem pg_stor (h : sp_stor tk ta ps j = .inr (p, j')) : j' = j + 1 := by
  unfold sp_stor at h
  obtain ⟨-, h⟩ := ite_i h
  obtain ⟨_, -, h⟩ := sbn_i h
  exact (Prod.mk.inj (Sum.inr.inj h)).2.symm
theorem nu_dead {t : tx_K} {a : Nat} {lo hi v : Int} (h4 : 4 ≤ t.1) (h : sp_num t a lo hi = .inr v) : False := by
  unfold sp_num at h
  rw [if_neg (by omega)] at h
  exact absurd h (by simp)
theorem nm_dead {t : tx_K} {a i : Nat} {v : Int} (hi : i < 23) (he : t.2.1 = kwv.getD i 0) (h : sp_nam t a = .inr v) : False := by
  unfold sp_nam at h
  rw [if_neg (fun g => g.2 i hi he.symm)] at h
  exact absurd h (by simp)
/-- a line: some tokens more; none where the token behind is as it -/
theorem pg_line (h : sp_line tk ta ps (j + 1) = .inr (p, j')) : j + 2 ≤ j' ∧ tk (j + 1) ≠ tk j := by
  have ej : j + 1 - 1 = j := by omega
  unfold sp_line at h
  rw [ej] at h
  by_cases h4 : 4 ≤ (tk j).1
  · rw [if_pos h4] at h
    by_cases e0 : (tk j).2.1 = 237307
    · rw [if_pos e0] at h
      refine ⟨by have := pg_size h; omega, fun e => ?_⟩
      unfold sp_size at h
      obtain ⟨-, h⟩ := ite_i h
      obtain ⟨_, h1, -⟩ := sbn_i h
      exact nu_dead (by rw [e]; exact h4) h1
    rw [if_neg e0] at h
    by_cases e1 : (tk j).2.1 = 9518
    · rw [if_pos e1] at h
      refine ⟨by have := pg_man h; omega, fun e => ?_⟩
      unfold sp_man sp_new at h
      obtain ⟨-, h⟩ := ite_i h
      obtain ⟨_, h1, -⟩ := sbn_i h
      obtain ⟨_, h2, -⟩ := sbn_i h1
      exact nm_dead (i := 1) (by decide) (by rw [e]; exact e1) h2
    rw [if_neg e1] at h
    by_cases e2 : (tk j).2.1 = 6465242723
    · rw [if_pos e2] at h
      refine ⟨by have := pg_prom h; omega, fun e => ?_⟩
      unfold sp_prom sp_new at h
      obtain ⟨-, h⟩ := ite_i h
      obtain ⟨_, h1, -⟩ := sbn_i h
      obtain ⟨_, h2, -⟩ := sbn_i h1
      exact nm_dead (i := 2) (by decide) (by rw [e]; exact e2) h2
    rw [if_neg e2] at h
    by_cases e3 : (tk j).2.1 = 1831769
    · rw [if_pos e3] at h
      refine ⟨by have := pg_clash h; omega, fun e => ?_⟩
      unfold sp_clash sp_old at h
      obtain ⟨-, h⟩ := ite_i h
      obtain ⟨_, h1, -⟩ := sbn_i h
      obtain ⟨_, h2, -⟩ := sbn_i h1
      exact nm_dead (i := 3) (by decide) (by rw [e]; exact e3) h2
    rw [if_neg e3] at h
    by_cases e4 : (tk j).2.1 = 4085956
    · rw [if_pos e4] at h
      refine ⟨by have := pg_grow h; omega, fun e => ?_⟩
      unfold sp_grow at h
      obtain ⟨-, h⟩ := ite_i h
      obtain ⟨_, h1, -⟩ := sbn_i h
      exact nu_dead (by rw [e]; exact h4) h1
    rw [if_neg e4] at h
    by_cases e5 : (tk j).2.1 = 10502473
    · rw [if_pos e5] at h
      refine ⟨by have := pg_stor h; omega, fun e => ?_⟩
      unfold sp_stor at h
      obtain ⟨-, h⟩ := ite_i h
      obtain ⟨_, h1, -⟩ := sbn_i h
      exact nu_dead (by rw [e]; exact h4) h1
    rw [if_neg e5] at h
    exact absurd h (by simp)
  · rw [if_neg h4] at h
    exact absurd h (by simp)
end RJ
def tn9_P (h : eg_H) (vo : Option Value) (h' : eg_H) : Prop := vo = none ∧ ab_hp h' ∧ ab_fr [(182, 2, 5)] h' h ∧ hv h' 182 3 = hv h 182 2 ∧ (hv h' 182 2).toInt = 0 ∧ (hv h' 182 4).toInt = 0 ∧ (hv h' 182 5).toInt = 900
theorem rt_1654 : (eg_md 1654).2.2.2 = none := by decide +kernel
theorem m_taken {sc : List Value} {sp d : Nat} {h : eg_H} {x : Int32} (hx : x.toInt = 900) (hq : ab_hp h) : mc sc sp 1654 11 d [.ref 182, .int x] h (tn9_P h) := by
  have l0 : eg_find 0 (eg_args 0 [.ref 182, .int x]) = some (.ref 182) := rfl
  have l1 : eg_find 1 (eg_args 0 [.ref 182, .int x]) = some (.int x) := rfl
  have hp := hq.1
  obtain ⟨-, b1, b2⟩ := sb_v (a := 182) (k := 2) (lo := .ofNat 0) (hi := .ofNat 940) hq (by decide +kernel)
  have b1 : (0 : Int) ≤ (hv h 182 2).toInt := b1
  have b2 : (hv h 182 2).toInt ≤ (940 : Int) := b2
  unfold mc
  refine hs_aload_n ci_1654_0 l0 ?_
  refine hs_aload_n ci_1654_1 l0 ?_
  refine hs_gfi 2 ci_1654_2 (by decide +kernel) hp ?_
  refine hs_pfi 3 (0) (940) ci_1654_5 (by decide +kernel) hp b1 b2 ?_
  intro h5 w5
  replace hp := w5.1
  refine hs_aload_n ci_1654_8 l0 ?_
  refine hs_iconst ci_1654_9 ?_
  refine hs_pfi 2 (0) (940) ci_1654_10 (by decide +kernel) hp (by decide) (by decide) ?_
  intro h10 w10
  replace hp := w10.1
  refine hs_aload_n ci_1654_13 l0 ?_
  refine hs_iconst ci_1654_14 ?_
  refine hs_pfi 4 (0) (940) ci_1654_15 (by decide +kernel) hp (by decide) (by decide) ?_
  intro h15 w15
  replace hp := w15.1
  refine hs_aload_n ci_1654_18 l0 ?_
  refine hs_iload_n ci_1654_19 l1 ?_
  refine hs_pfi 5 (0) (940) ci_1654_20 (by decide +kernel) hp (by omega) (by omega) ?_
  intro h20 w20
  replace hp := w20.1
  have f5 : ab_fr [(182, 2, 5)] h5 h := w5.fr rfl
  have f10 : ab_fr [(182, 2, 5)] h10 h := (w10.fr rfl).tr f5
  have f15 : ab_fr [(182, 2, 5)] h15 h := (w15.fr rfl).tr f10
  have f20 : ab_fr [(182, 2, 5)] h20 h := (w20.fr rfl).tr f15
  refine hs_k ⟨5, none, by decide +kernel, by rw [rt_1654]; rfl, rfl, ⟨hp, hq.2.fr (M := [(182, 2, 5)]) (by decide +kernel) f20⟩, f20, ?_, ?_, ?_, ?_⟩
  · rw [w20.v, if_neg (by omega), w15.v, if_neg (by omega), w10.v, if_neg (by omega), w5.v, if_pos ⟨rfl, rfl⟩]
  · rw [w20.v, if_neg (by omega), w15.v, if_neg (by omega), w10.v, if_pos ⟨rfl, rfl⟩]
    exact kI_0
  · rw [w20.v, if_neg (by omega), w15.v, if_pos ⟨rfl, rfl⟩]
    exact kI_0
  · rw [w20.v, if_pos ⟨rfl, rfl⟩]
    exact hx
theorem kM_6 : (Int8.ofInt (6)).toInt32.toInt.toNat = 6 := by decide +kernel
def c185 (q : Nat) : Int := if q = 2 ∨ q = 3 then 4 else if q = 5 ∨ q = 6 then 1 else 0
def cs_P (h : eg_H) (vo : Option Value) (h' : eg_H) : Prop := vo = none ∧ ab_hp h' ∧ ab_fr [(185, 0, 88)] h' h ∧ (∀ q, q < 89 → (hv h' 185 q).toInt = c185 q) ∧ ∀ q, 79 ≤ q → q < 89 → hv h' 185 q = Int32.ofInt 0
theorem rt_1483 : (eg_md 1483).2.2.2 = none := by decide +kernel
theorem cs_loop {sc : List Value} {sp d : Nat} {h : eg_H} (hqh : ab_hp h) : ∀ (n k : Nat) (x : Int32) (ls : eg_L) (h1 : eg_H), k + n = 89 → x.toInt = (k : Int) → eg_find 0 ls = some (.ref 182) → eg_find 1 ls = some (.int x) → ab_hp0 h1 → ab_fr [(185, 0, 88)] h1 h → (∀ q, q < k → hv h1 185 q = Int32.ofInt 0) → hs sc sp 1483 11 d (fun pc' _ st' h' => ∃ ik vo, ab_ret 1483 pc' = some ik ∧ eg_rv (eg_md 1483).2.2.2 ik st' = some vo ∧ cs_P h vo h') 2 ls [] h1 := by
  intro n
  induction n with
  | zero =>
    intro k x ls h1 hk hx l0 l1 hp f1 z1
    refine hs_iload_n ci_1483_2 l1 ?_
    refine hs_bipush ci_1483_3 ?_
    refine hs_ic (t := 21) ci_1483_5 rfl (fun b5 => ?_) (fun b5 => ?_)
    · simp only [hs_cd, ab_not, kB_89] at b5
      refine hs_aload_n ci_1483_21 l0 ?_
      refine hs_gfr 7 185 ci_1483_22 (by decide +kernel) hp ?_
      refine hs_iconst ci_1483_25 ?_
      refine hs_iconst ci_1483_26 ?_
      refine hs_iastore 2 2 (0) (8) ci_1483_27 (by decide +kernel) hp (by decide) (by decide) (by decide) (by decide) ?_
      intro h27 w27
      replace hp := w27.1
      refine hs_aload_n ci_1483_28 l0 ?_
      refine hs_gfr 7 185 ci_1483_29 (by decide +kernel) hp ?_
      refine hs_iconst ci_1483_32 ?_
      refine hs_iconst ci_1483_33 ?_
      refine hs_iastore 3 3 (0) (8) ci_1483_34 (by decide +kernel) hp (by decide) (by decide) (by decide) (by decide) ?_
      intro h34 w34
      replace hp := w34.1
      refine hs_aload_n ci_1483_35 l0 ?_
      refine hs_gfr 7 185 ci_1483_36 (by decide +kernel) hp ?_
      refine hs_iconst ci_1483_39 ?_
      refine hs_iconst ci_1483_40 ?_
      refine hs_iastore 5 5 (-2147483648) (2147483647) ci_1483_41 (by decide +kernel) hp (by decide) (by decide) (ab_ige _) (ab_ile _) ?_
      intro h41 w41
      replace hp := w41.1
      refine hs_aload_n ci_1483_42 l0 ?_
      refine hs_gfr 7 185 ci_1483_43 (by decide +kernel) hp ?_
      refine hs_bipush ci_1483_46 ?_
      refine hs_iconst ci_1483_48 ?_
      refine hs_iastore 6 6 (-2147483648) (2147483647) ci_1483_49 (by decide +kernel) hp (by decide) (by decide) (ab_ige _) (ab_ile _) ?_
      intro h49 w49
      replace hp := w49.1
      rw [kN_2] at w27
      rw [kN_3] at w34
      rw [kN_5] at w41
      rw [kM_6] at w49
      have f27 : ab_fr [(185, 0, 88)] h27 h := (w27.fr (ab_inr_up (k1 := 0) (k2 := 88) rfl (by decide) (by decide))).tr f1
      have f34 : ab_fr [(185, 0, 88)] h34 h := (w34.fr (ab_inr_up (k1 := 0) (k2 := 88) rfl (by decide) (by decide))).tr f27
      have f41 : ab_fr [(185, 0, 88)] h41 h := (w41.fr (ab_inr_up (k1 := 0) (k2 := 88) rfl (by decide) (by decide))).tr f34
      have f49 : ab_fr [(185, 0, 88)] h49 h := (w49.fr (ab_inr_up (k1 := 0) (k2 := 88) rfl (by decide) (by decide))).tr f41
      refine hs_k ⟨5, none, by decide +kernel, by rw [rt_1483]; rfl, rfl, ⟨hp, hqh.2.fr (M := [(185, 0, 88)]) (by decide +kernel) f49⟩, f49, fun q hq => ?_, fun q q1 q2 => ?_⟩
      · unfold c185
        rw [w49.v, w41.v, w34.v, w27.v]
        by_cases e6 : q = 6
        · rw [if_pos ⟨rfl, e6⟩, if_neg (by omega), if_pos (by omega)]
          exact kI_1
        · rw [if_neg (fun g => e6 g.2)]
          by_cases e5 : q = 5
          · rw [if_pos ⟨rfl, e5⟩, if_neg (by omega), if_pos (by omega)]
            exact kI_1
          · rw [if_neg (fun g => e5 g.2)]
            by_cases e3 : q = 3
            · rw [if_pos ⟨rfl, e3⟩, if_pos (by omega)]
              exact kI_4
            · rw [if_neg (fun g => e3 g.2)]
              by_cases e2 : q = 2
              · rw [if_pos ⟨rfl, e2⟩, if_pos (by omega)]
                exact kI_4
              · rw [if_neg (fun g => e2 g.2), if_neg (by omega), if_neg (by omega), z1 q (by omega)]
                exact kI_0
      · rw [w49.v, if_neg (by omega), w41.v, if_neg (by omega), w34.v, if_neg (by omega), w27.v, if_neg (by omega), z1 q (by omega)]
    · simp only [hs_cd, ab_not, kB_89] at b5
      omega
  | succ n ih =>
    intro k x ls h1 hk hx l0 l1 hp f1 z1
    refine hs_iload_n ci_1483_2 l1 ?_
    refine hs_bipush ci_1483_3 ?_
    refine hs_ic (t := 21) ci_1483_5 rfl (fun b5 => ?_) (fun b5 => ?_)
    · simp only [hs_cd, ab_not, kB_89] at b5
      omega
    · simp only [hs_cd, ab_not, kB_89] at b5
      refine hs_aload_n ci_1483_8 l0 ?_
      refine hs_gfr 7 185 ci_1483_9 (by decide +kernel) hp ?_
      refine hs_iload_n ci_1483_12 l1 ?_
      refine hs_iconst ci_1483_13 ?_
      refine hs_iastore 0 88 (0) (5) ci_1483_14 (by decide +kernel) hp (by omega) (by omega) (by decide) (by decide) ?_
      intro h14 w14
      replace hp := w14.1
      refine hs_iinc2 ci_1483_15 (by decide +kernel) l1 ?_
      intro ls9 q9
      replace l0 := q9.2 0 _ (by decide) (Or.inl rfl) l0
      have l1 := q9.1
      clear q9
      refine hs_goto (t := 2) ci_1483_18 rfl ?_
      have e9 : x.toInt.toNat = k := by omega
      have f14 : ab_fr [(185, 0, 88)] h14 h1 := w14.f9 (n := 88) rfl (by omega)
      refine ih (k + 1) _ _ h14 (by omega) (i32_inc hx (by omega) (by omega)) l0 l1 hp (f14.tr f1) (fun q hq => ?_)
      rw [w14.v]
      by_cases e : q = k
      · rw [if_pos ⟨rfl, by omega⟩]
      · rw [if_neg (by omega)]
        exact z1 q (by omega)
theorem m_clears {sc : List Value} {sp d : Nat} {h : eg_H} (hq : ab_hp h) : mc sc sp 1483 11 d [.ref 182] h (cs_P h) := by
  have l0 : eg_find 0 (eg_args 0 [.ref 182]) = some (.ref 182) := rfl
  unfold mc
  refine hs_iconst ci_1483_0 ?_
  refine hs_istore2_n ci_1483_1 (by decide +kernel) ?_
  intro ls9 q9
  replace l0 := q9.2 0 _ (by decide) (Or.inl rfl) l0
  have l1 := q9.1
  clear q9
  exact cs_loop hq 89 0 _ _ h rfl kI_0 l0 l1 hq.1 ab_fr.rf (fun q hq => by omega)
abbrev MHM : ab_M := [(182, 0, 0), (182, 2, 5), (182, 11, 20), (182, 25, 25), (184, 0, 306), (185, 0, 88), (187, 0, 31)]
abbrev MHN : ab_M := [(182, 0, 0), (182, 2, 5), (182, 11, 20), (185, 0, 88), (187, 16, 31)]
theorem mhn_lo : ∀ q, q < 16 → ab_inr MHN 187 q q = false := by decide +kernel
/-- the reference's headland as told -/
def lr (h : eg_H) (p : PS) : Prop := (hv h 184 0).toInt = p.1 4 ∧ (hv h 184 1).toInt = p.1 5 ∧ (hv h 184 2).toInt = p.1 0 ∧ (hv h 184 3).toInt = p.1 1 ∧ (hv h 184 4).toInt = p.1 6 ∧ (hv h 184 5).toInt = p.1 2 ∧ (hv h 184 6).toInt = p.1 3 ∧ (∀ q : Nat, (q : Int) < p.1 5 → (hv h 184 (19 + q)).toInt = p.2 4 q) ∧ (∀ q : Nat, (q : Int) < p.1 4 → tx_co (p.2 0 q) (hl h 187 q).toInt) ∧ ∀ q : Nat, (q : Int) < p.1 5 → tx_co (p.2 3 q) (hl h 187 (6 + q)).toInt
def hm_P (h : eg_H) (x : Sum ER (PS × Nat)) (vo : Option Value) (h' : eg_H) : Prop := ab_hp h' ∧ ab_fr MHM h' h ∧ (hv h' 182 2).toInt = 0 ∧ ∃ r : Int32, vo = some (.int r) ∧ ((∃ p n, x = .inr (p, n) ∧ r.toInt = (n : Int) ∧ (hv h' 182 15).toInt = 0 ∧ lr h' p) ∨ (∃ k a, x = .inl (k, a) ∧ r.toInt = -1 - (a : Int) ∧ (hv h' 182 15).toInt = k ∧ (∀ q, q < 89 → hv h' 184 q = hv h 184 q) ∧ ∀ q, q < 16 → hl h' 187 q = hl h 187 q))
theorem cp_hl80v {sc : List Value} {sp dq : Nat} {h0 : eg_H} (r : Nat) : ∀ (i : Nat) (x : Int32) (ls : eg_L) (h : eg_H), r + i = 307 → ab_hp0 h → ab_fr [(184, 0, 306)] h h0 → (126 < i → (hv h 184 126).toInt = 0) → (∀ q, q < i → q < 89 → hv h 184 q = hv h0 185 q) → eg_find 0 ls = some (.ref 182) → eg_find 1 ls = some (.int x) → x.toInt = (i : Int) → hs sc sp 1650 11 dq (fun pc' ls' st' h' => pc' = 115 ∧ st' = [] ∧ ab_hp0 h' ∧ ab_fr [(184, 0, 306)] h' h0 ∧ (hv h' 184 126).toInt = 0 ∧ (∀ q, q < 89 → hv h' 184 q = hv h0 185 q) ∧ eg_find 0 ls' = some (.ref 182)) 80 ls [] h := by
  induction r with
  | zero =>
    intro i x ls h hi hp hf hz hw l0 l1 hx
    refine hs_iload_n ci_1650_80 l1 ?_
    refine hs_sipush ci_1650_81 ?_
    refine hs_ic (t := 115) ci_1650_84 rfl (fun b84 => ?_) (fun b84 => ?_)
    · simp only [hs_cd, ab_not] at b84
      exact hs_k ⟨rfl, rfl, hp, hf, hz (by omega), fun q hq => hw q (by omega) hq, l0⟩
    · simp only [hs_cd, ab_not] at b84
      have e9 : (Int16.ofInt 307).toInt32.toInt = 307 := rfl
      omega
  | succ r ih =>
    intro i x ls h hi hp hf hz hw l0 l1 hx
    refine hs_iload_n ci_1650_80 l1 ?_
    refine hs_sipush ci_1650_81 ?_
    refine hs_ic (t := 115) ci_1650_84 rfl (fun b84 => ?_) (fun b84 => ?_)
    · simp only [hs_cd, ab_not] at b84
      have e9 : (Int16.ofInt 307).toInt32.toInt = 307 := rfl
      omega
    · simp only [hs_cd, ab_not] at b84
      refine hs_aload_n ci_1650_87 l0 ?_
      refine hs_gfr 6 184 ci_1650_88 (by decide +kernel) hp ?_
      refine hs_iload_n ci_1650_91 l1 ?_
      refine hs_iload_n ci_1650_92 l1 ?_
      refine hs_bipush ci_1650_93 ?_
      refine hs_ic (t := 107) ci_1650_95 rfl (fun b95 => ?_) (fun b95 => ?_)
      · simp only [hs_cd, ab_not] at b95
        have e8 : (Int8.ofInt 89).toInt32.toInt = 89 := rfl
        refine hs_iconst ci_1650_107 ?_
        obtain ⟨q, g2, g3, g4⟩ := ck_z_v (ckn_v ck_hl2 (i := i) (by omega))
        refine hs_ias1 i ci_1650_108 hx g2 hp g3 g4 ?_
        intro h9 w9
        refine hs_iinc ci_1650_109 (by decide +kernel) l1 ?_
        intro ls9 q9
        replace l0 := q9.2 0 _ (by decide) rfl l0
        have l1 := q9.1
        clear q9
        refine hs_goto (t := 80) ci_1650_112 rfl ?_
        replace hp := w9.1
        have hf9 := (w9.fr (M := [(184, 0, 306)]) (in1 (by omega) (by omega))).tr hf
        have hz9 : 126 < i + 1 → (hv h9 184 126).toInt = 0 := fun h126 => by
          rw [w9.v]
          by_cases e : 126 = i
          · rw [if_pos ⟨rfl, e⟩]
            rfl
          · rw [if_neg (fun q => e q.2)]
            exact hz (by omega)
        have hw9 : ∀ q, q < i + 1 → q < 89 → hv h9 184 q = hv h0 185 q := fun q hq q89 => by
          rw [w9.v, if_neg (by omega)]
          exact hw q (by omega) q89
        exact ih (i + 1) _ _ _ (by omega) hp hf9 hz9 hw9 l0 l1 (by have := i32_add hx (y := Int32.ofInt 1) (b := 1) rfl (by omega) (by omega); rw [this]; omega)
      · simp only [hs_cd, ab_not] at b95
        have e8 : (Int8.ofInt 89).toInt32.toInt = 89 := rfl
        obtain ⟨q, q2, g1, g2, g3, g4⟩ := ck2_v (ckn_v ck_hl1 (i := i) (by omega))
        have gb := gsl_b hp g1
        refine hs_aload_n ci_1650_98 l0 ?_
        refine hs_gfr 7 185 ci_1650_99 (by decide +kernel) hp ?_
        refine hs_iload_n ci_1650_102 l1 ?_
        refine hs_ial1 i ci_1650_103 hx g1 hp ?_
        refine hs_goto (t := 108) ci_1650_104 rfl ?_
        refine hs_ias1 i ci_1650_108 hx g2 hp (by omega) (by omega) ?_
        intro h9 w9
        refine hs_iinc ci_1650_109 (by decide +kernel) l1 ?_
        intro ls9 q9
        replace l0 := q9.2 0 _ (by decide) rfl l0
        have l1 := q9.1
        clear q9
        refine hs_goto (t := 80) ci_1650_112 rfl ?_
        replace hp := w9.1
        have hf9 := (w9.fr (M := [(184, 0, 306)]) (in1 (by omega) (by omega))).tr hf
        have hz9 : 126 < i + 1 → (hv h9 184 126).toInt = 0 := fun h126 => by
          rw [w9.v]
          by_cases e : 126 = i
          · rw [if_pos ⟨rfl, e⟩]
            omega
          · rw [if_neg (fun q => e q.2)]
            exact hz (by omega)
        have hw9 : ∀ q, q < i + 1 → q < 89 → hv h9 184 q = hv h0 185 q := fun q hq q89 => by
          rw [w9.v]
          by_cases e : q = i
          · rw [if_pos ⟨rfl, e⟩, e, hv_same (hf 185 i rfl)]
          · rw [if_neg (fun g => e g.2)]
            exact hw q (by omega) q89
        exact ih (i + 1) _ _ _ (by omega) hp hf9 hz9 hw9 l0 l1 (by have := i32_add hx (y := Int32.ofInt 1) (b := 1) rfl (by omega) (by omega); rw [this]; omega)
theorem hl_J {h h' : eg_H} (hJ : ab_J h) (hf : ab_fr [(184, 0, 306)] h' h) (hz : (hv h' 184 126).toInt = 0) : ab_J h' := by
  have hs1 : ∀ a k, ¬ a = 184 → ab_slot h' a k = ab_slot h a k := fun a k ha => hf a k (by
    unfold ab_inr
    have : Nat.beq a 184 = false := by
      cases hb : Nat.beq a 184 with
      | false => rfl
      | true => exact absurd (Nat.eq_of_beq_eq_true hb) ha
    rw [this]; rfl)
  refine ⟨ab_Jc.none hz, hJ.2.1.same (fun k _ => hs1 _ _ (by decide)), hJ.2.2.1.same (fun k _ => hs1 _ _ (by decide)), fun k hd => ?_⟩
  rw [hv_same (hs1 113 k (by decide))] at hd
  rw [hv_same (hs1 114 k (by decide))]
  exact hJ.2.2.2 k hd
theorem inr_lo (q : Nat) (hq : q < 90) : ab_inr [(184, 90, 99), (187, 0, 15)] 184 q q = false := by
  have e : Nat.ble 90 q = false := by
    cases hb : Nat.ble 90 q with
    | false => rfl
    | true =>
      have := Nat.le_of_ble_eq_true hb
      omega
  unfold ab_inr
  rw [e]
  rfl
theorem rt_1650 : (eg_md 1650).2.2.2 = some .int := by decide +kernel
section RK
variable {B : Nat → Int} {n lim : Nat} {tk : Nat → tx_K} {ta P : Nat → Nat} {sc : List Value} {sp d : Nat} {h : eg_H}
theorem m_next0 {j : Nat} (ts : TS B n lim tk ta P) (hq : ab_hp h) (r1 : bM h = B) (r2 : (hv h 182 3).toInt = (n : Int)) (r3 : (hv h 182 5).toInt = (lim : Int)) (e4 : (hv h 182 4).toInt = (P j : Int)) (e5 : P j ≤ n) : mc sc sp 1658 11 (d + 1) [.ref 182] h (fun vo h' => vo = none ∧ ab_hp h' ∧ ab_fr MNX h' h ∧ rt B n lim tk ta P h' j) := by
  refine mc.mono (k_next hq (by omega)) ?_
  rintro vo h' ⟨e, q', f', t, a, p', hx, hp', hs⟩
  have e1 : (hv h 182 4).toInt.toNat = P j := by omega
  have e2 : nN h = n := by
    show (hv h 182 3).toInt.toNat = n
    omega
  have e3 : nL h = lim := by
    show (hv h 182 5).toInt.toNat = lim
    omega
  rw [r1, e1, e2, e3] at hx
  rw [e2] at hp'
  obtain ⟨g1, g2, g3⟩ := tx_X_one hx (ts j)
  subst g1
  subst g2
  subst g3
  exact ⟨e, q', f', by rw [bM_fr f']; exact r1, by rw [nN_fr f']; exact r2, by rw [nL_fr f']; exact r3, hp', hs⟩
theorem hm_end {ls : eg_L} {h1 : eg_H} {x : Sum ER (PS × Nat)} {k : Nat} {p : PS} (hsc : ab_osc sc) (q1 : ab_hp h1) (F : ab_fr MHN h1 h) (e2 : (hv h1 182 2).toInt = 0) (e15 : (hv h1 182 15).toInt = 0) (ex : x = .inr (p, k)) (n1 : (hv h1 182 19).toInt = (k : Int)) (P1 : MP h1 p) (l0 : eg_find 0 ls = some (.ref 182)) : hs sc sp 1650 11 (d + 1) (fun pc' _ st' h' => ∃ ik vo, ab_ret 1650 pc' = some ik ∧ eg_rv (eg_md 1650).2.2.2 ik st' = some vo ∧ hm_P h (x) vo h') 78 ls [] h1 := by
  have hp := q1.1
  refine hs_iconst ci_1650_78 ?_
  refine hs_istore2_n ci_1650_79 (by decide +kernel) ?_
  intro ls9 q9
  replace l0 := q9.2 0 _ (by decide) (Or.inl rfl) l0
  have l1 := q9.1
  clear q9
  refine hs.bind (cp_hl80v (h0 := h1) 307 0 _ _ h1 rfl hp ab_fr.rf (fun g => by omega) (fun q hq => by omega) l0 l1 kI_0) ?_
  rintro pc' ls' st' h2 ⟨rfl, rfl, hp2, f2, z2, v2, k0⟩
  have qh2 : ab_hp h2 := ⟨hp2, hl_J q1.2 f2 z2⟩
  refine hs_iconst ci_1650_115 ?_
  refine hs_istore2_n ci_1650_116 (by decide +kernel) ?_
  intro ls9 q9
  replace k0 := q9.2 0 _ (by decide) (Or.inl rfl) k0
  have k1 := q9.1
  clear q9
  refine hs.bind (cn_hd (h := h2) 16 0 _ _ h2 rfl kI_0 qh2.1 ab_fr.rf (fun q hq => by omega) k0 k1) ?_
  rintro pc' ls' st' hN ⟨rfl, rfl, hpN, fN, cN, k0⟩
  have qhN : ab_hp hN := ⟨hpN, qh2.2.fr (M := [(187, 0, 15)]) (by decide +kernel) fN⟩
  refine hs_seg tr_hd144 rfl hsc (show 1 ≤ d + 1 by omega) (ar_z (a := 182) qhN k0) ?_
  rintro ν' ls' st' h3 ⟨-, -, g0, g2, -, g3⟩ - g5
  obtain rfl : st' = [] := g2
  obtain ⟨v, l0', e0⟩ := g0 0 _ (List.mem_cons_self ..)
  obtain rfl : v = .ref 182 := e0
  have l0 := l0'
  have hp := g3.1
  refine hs_aload_n ci_1650_176 l0 ?_
  refine hs_iconst ci_1650_177 ?_
  refine hs_pfi 25 (0) (8) ci_1650_178 (by decide +kernel) hp (by decide) (by decide) ?_
  intro h178 w178
  replace hp := w178.1
  refine hs_aload_n ci_1650_181 l0 ?_
  refine hs_gfi 19 ci_1650_182 (by decide +kernel) hp ?_
  have f178 : ab_fr [(182, 25, 25)] h178 h3 := w178.fr rfl
  have F2 : ab_fr MHM h178 h := (fr_sub (by decide +kernel) f178).tr ((fr_sub (by decide +kernel) g5).tr ((fr_sub (by decide +kernel) fN).tr ((fr_sub (by decide +kernel) f2).tr (fr_sub (by decide +kernel) F))))
  have s9 : ∀ q, q < 89 → hv h178 184 q = hv h1 185 q := fun q hq => by
    rw [hv_same (f178 184 q rfl), hv_same (g5 184 q (inr_off (by omega))), hv_same (fN 184 q rfl)]
    exact v2 q (by omega)
  obtain ⟨⟨c0, c1, c2, c3, c4, c5, c6⟩, -, cm9, cp9, -, cz9⟩ := P1
  have hM6 : p.1 4 ≤ 6 := by omega
  have nm9 : ∀ q, q < 16 → hl h178 187 q = hl h1 187 (16 + q) := fun q hq => by
    rw [hl_same (f178 187 q rfl), hl_same (g5 187 q rfl), cN q hq, hl_same (f2 187 (16 + q) rfl)]
  refine hs_k ⟨3, some (.int (hv h178 182 19)), by decide +kernel, by rw [rt_1650]; rfl, ⟨hp, g3.2.fr (M := [(182, 25, 25)]) (by decide +kernel) f178⟩, F2, ?_, _, rfl, Or.inl ⟨p, k, ex, ?_, ?_, ?_⟩⟩
  · rw [hv_same (f178 182 2 rfl), hv_same (g5 182 2 rfl), hv_same (fN 182 2 rfl), hv_same (f2 182 2 rfl)]; exact e2
  · rw [hv_same (f178 182 19 rfl), hv_same (g5 182 19 rfl), hv_same (fN 182 19 rfl), hv_same (f2 182 19 rfl)]; exact n1
  · rw [hv_same (f178 182 15 rfl), hv_same (g5 182 15 rfl), hv_same (fN 182 15 rfl), hv_same (f2 182 15 rfl)]; exact e15
  · unfold lr
    rw [s9 0 (by decide), s9 1 (by decide), s9 2 (by decide), s9 3 (by decide), s9 4 (by decide), s9 5 (by decide), s9 6 (by decide)]
    exact ⟨c0, c1, c2, c3, c4, c5, c6, fun q hq => by rw [s9 (19 + q) (by omega)]; exact (cp9 q hq).2.1, fun q hq => by rw [nm9 q (by omega)]; exact (cm9 q hq).1, fun q hq => by rw [nm9 (6 + q) (by omega), show 16 + (6 + q) = 22 + q by omega]; exact (cp9 q hq).1⟩
theorem mh_loop {m : Nat} (hsc : ab_osc sc) (ts : TS B n lim tk ta P) (hm : ∀ t, m ≤ t → tk t = tk (m - 1)) (m1 : 1 ≤ m) (hqh : ab_hp h) : ∀ (f k j : Nat) (ps : PS) (ls : eg_L) (h1 : eg_H), k + f = 900 → m ≤ j + 2 * f → eg_find 0 ls = some (.ref 182) → ab_hp h1 → ab_fr MHN h1 h → (hv h1 182 2).toInt = 0 → (hv h1 182 15).toInt = 0 → rwok h1 → rt B n lim tk ta P h1 j → MP h1 ps → (hv h1 182 19).toInt = (k : Int) → hs sc sp 1650 11 (d + 1 + 1 + 1 + 1 + 1 + 1 + 1 + 1) (fun pc' _ st' h' => ∃ ik vo, ab_ret 1650 pc' = some ik ∧ eg_rv (eg_md 1650).2.2.2 ik st' = some vo ∧ hm_P h (sp_all tk ta (f + 1) ps k j) vo h') 35 ls [] h1 := by
  intro f
  induction f with
  | zero =>
    intro k j ps ls h1 hk hf l0 q1 F1 e2 e15 w1 r1 P1 n1
    have hp := q1.1
    obtain ⟨k0, -⟩ := rs_k r1.2.2.2.2
    refine hs_aload_n ci_1650_35 l0 ?_
    refine hs_gfi 11 ci_1650_36 (by decide +kernel) hp ?_
    refine hs_if (t := 78) ci_1650_39 rfl (fun b39 => ?_) (fun b39 => ?_)
    · simp only [hs_cd, ab_not] at b39
      refine hm_end hsc q1 F1 e2 e15 (p := ps) (k := k) ?_ n1 P1 l0
      show (if (tk j).1 = 0 then _ else _) = _
      rw [if_pos (k0.mp (by omega))]
    · simp only [hs_cd, ab_not] at b39
      refine hs_aload_n ci_1650_42 l0 ?_
      refine hs_cv 1672 11 0 ci_1650_43 (by decide +kernel) (by decide +kernel) hp rfl (by rw [ml_1672]; rfl) (mc.and (by decide) (m_line ts q1 w1 r1 P1) (c_ln15 (d := d) hsc q1 e15)) ?_
      rintro v9 hB ⟨⟨qB, fB, rB, e8, hrB⟩, rBx, e82, hz⟩
      obtain rfl : rB = rBx := by
        have := Option.some.inj (e8.symm.trans e82)
        exact Value.int.inj this
      rw [e8]
      clear e8 e82 v9
      replace hp := qB.1
      simp only [Option.toList, List.cons_append, List.nil_append]
      refine hs_if (t := 58) ci_1650_46 rfl (fun b46 => ?_) (fun b46 => ?_)
      · simp only [hs_cd, ab_not] at b46
        refine hs_iconst ci_1650_58 ?_
        refine hs_aload_n ci_1650_59 l0 ?_
        refine hs_gfi 16 ci_1650_60 (by decide +kernel) hp ?_
        refine hs_isub ci_1650_63 ?_
        obtain ⟨k9, a9, y1, y3⟩ : ∃ k a, sp_line tk ta ps (j + 1) = .inl (k, a) ∧ flm hB k a := by
          rcases hrB with ⟨p, j', -, y2, -⟩ | ⟨k, a, y1, -, y3⟩
          · omega
          · exact ⟨k, a, y1, y3⟩
        clear hrB
        have F9 : ab_fr MHN hB h := (fr_sub (by decide +kernel) fB).tr F1
        have b9 := ab_ile (hv hB 182 16)
        have y4 := y3.2
        refine hs_k ⟨3, some (.int (Int32.ofInt (-1) - hv hB 182 16)), by decide +kernel, by rw [rt_1650]; rfl, qB, fr_sub (by decide +kernel) F9, ?_, _, rfl, ?_⟩
        · rw [hv_same (fB 182 2 rfl)]; exact e2
        · have e9 : sp_all tk ta (0 + 1) ps k j = .inl (k9, a9) := by
            show (if (tk j).1 = 0 then _ else sbn (sp_line tk ta ps (j + 1)) _) = _
            rw [if_neg (fun g => b39 (k0.mpr g)), sbn_l y1]
          exact Or.inr ⟨k9, a9, e9, i32_sub kI_m1 y4 (by omega) (by omega), y3.1, fun q _ => hv_same (F9 184 q rfl), fun q hq => hl_same (F9 187 q (mhn_lo q hq))⟩
      · simp only [hs_cd, ab_not] at b46
        have zB : (hv hB 182 15).toInt = 0 := hz (by
          rcases hrB with ⟨p, j', -, y2, -⟩ | ⟨k, a, -, y2, -⟩
          · exact y2
          · omega)
        obtain ⟨p, j', hp1, rB2, PB⟩ : ∃ p j', sp_line tk ta ps (j + 1) = .inr (p, j') ∧ rt B n lim tk ta P hB j' ∧ MP hB p := by
          rcases hrB with ⟨p, j', y1, -, y3, y4⟩ | ⟨k, a, -, y2, -⟩
          · exact ⟨p, j', y1, y3, y4⟩
          · omega
        clear hrB
        have wB : rwok hB := w1.fr fB (fun _ => rfl)
        obtain ⟨jp, jn⟩ := pg_line hp1
        exact absurd (show tk (j + 1) = tk j by rw [hm (j + 1) (by omega), hm j (by omega)]) jn
  | succ f ih =>
    intro k j ps ls h1 hk hf l0 q1 F1 e2 e15 w1 r1 P1 n1
    have hp := q1.1
    obtain ⟨k0, -⟩ := rs_k r1.2.2.2.2
    refine hs_aload_n ci_1650_35 l0 ?_
    refine hs_gfi 11 ci_1650_36 (by decide +kernel) hp ?_
    refine hs_if (t := 78) ci_1650_39 rfl (fun b39 => ?_) (fun b39 => ?_)
    · simp only [hs_cd, ab_not] at b39
      refine hm_end hsc q1 F1 e2 e15 (p := ps) (k := k) ?_ n1 P1 l0
      show (if (tk j).1 = 0 then _ else _) = _
      rw [if_pos (k0.mp (by omega))]
    · simp only [hs_cd, ab_not] at b39
      refine hs_aload_n ci_1650_42 l0 ?_
      refine hs_cv 1672 11 0 ci_1650_43 (by decide +kernel) (by decide +kernel) hp rfl (by rw [ml_1672]; rfl) (mc.and (by decide) (m_line ts q1 w1 r1 P1) (c_ln15 (d := d) hsc q1 e15)) ?_
      rintro v9 hB ⟨⟨qB, fB, rB, e8, hrB⟩, rBx, e82, hz⟩
      obtain rfl : rB = rBx := by
        have := Option.some.inj (e8.symm.trans e82)
        exact Value.int.inj this
      rw [e8]
      clear e8 e82 v9
      replace hp := qB.1
      simp only [Option.toList, List.cons_append, List.nil_append]
      refine hs_if (t := 58) ci_1650_46 rfl (fun b46 => ?_) (fun b46 => ?_)
      · simp only [hs_cd, ab_not] at b46
        refine hs_iconst ci_1650_58 ?_
        refine hs_aload_n ci_1650_59 l0 ?_
        refine hs_gfi 16 ci_1650_60 (by decide +kernel) hp ?_
        refine hs_isub ci_1650_63 ?_
        obtain ⟨k9, a9, y1, y3⟩ : ∃ k a, sp_line tk ta ps (j + 1) = .inl (k, a) ∧ flm hB k a := by
          rcases hrB with ⟨p, j', -, y2, -⟩ | ⟨k, a, y1, -, y3⟩
          · omega
          · exact ⟨k, a, y1, y3⟩
        clear hrB
        have F9 : ab_fr MHN hB h := (fr_sub (by decide +kernel) fB).tr F1
        have b9 := ab_ile (hv hB 182 16)
        have y4 := y3.2
        refine hs_k ⟨3, some (.int (Int32.ofInt (-1) - hv hB 182 16)), by decide +kernel, by rw [rt_1650]; rfl, qB, fr_sub (by decide +kernel) F9, ?_, _, rfl, ?_⟩
        · rw [hv_same (fB 182 2 rfl)]; exact e2
        · have e9 : sp_all tk ta (f + 1 + 1) ps k j = .inl (k9, a9) := by
            show (if (tk j).1 = 0 then _ else sbn (sp_line tk ta ps (j + 1)) _) = _
            rw [if_neg (fun g => b39 (k0.mpr g)), sbn_l y1]
          exact Or.inr ⟨k9, a9, e9, i32_sub kI_m1 y4 (by omega) (by omega), y3.1, fun q _ => hv_same (F9 184 q rfl), fun q hq => hl_same (F9 187 q (mhn_lo q hq))⟩
      · simp only [hs_cd, ab_not] at b46
        have zB : (hv hB 182 15).toInt = 0 := hz (by
          rcases hrB with ⟨p, j', -, y2, -⟩ | ⟨k, a, -, y2, -⟩
          · exact y2
          · omega)
        obtain ⟨p, j', hp1, rB2, PB⟩ : ∃ p j', sp_line tk ta ps (j + 1) = .inr (p, j') ∧ rt B n lim tk ta P hB j' ∧ MP hB p := by
          rcases hrB with ⟨p, j', y1, -, y3, y4⟩ | ⟨k, a, -, y2, -⟩
          · exact ⟨p, j', y1, y3, y4⟩
          · omega
        clear hrB
        have wB : rwok hB := w1.fr fB (fun _ => rfl)
        obtain ⟨jp, jn⟩ := pg_line hp1
        refine hs_aload_n ci_1650_49 l0 ?_
        refine hs_bipush ci_1650_50 ?_
        refine hs_cv 1734 11 1 ci_1650_52 (by decide +kernel) (by decide +kernel) hp rfl (by rw [ml_1734]; rfl) (mc.and (by decide) (m_sign kB_59 ts qB rB2) (c_sg15 (d := d + 1 + 1 + 1 + 1) hsc kB_59 qB zB)) ?_
        rintro v9 hC ⟨⟨qC, fC, rC, e8, hrC⟩, rCx, e82, hzC⟩
        obtain rfl : rC = rCx := by
          have := Option.some.inj (e8.symm.trans e82)
          exact Value.int.inj this
        rw [e8]
        clear e8 e82 v9
        replace hp := qC.1
        simp only [Option.toList, List.cons_append, List.nil_append]
        refine hs_if (t := 65) ci_1650_55 rfl (fun b55 => ?_) (fun b55 => ?_)
        · simp only [hs_cd, ab_not] at b55
          refine hs_aload_n ci_1650_65 l0 ?_
          refine hs_dup ci_1650_66 rfl ?_
          refine hs_gfi 19 ci_1650_67 (by decide +kernel) hp ?_
          refine hs_iconst ci_1650_70 ?_
          refine hs_iadd ci_1650_71 ?_
          refine hs_pfi 19 (-2147483648) (2147483647) ci_1650_72 (by decide +kernel) hp (ab_ige _) (ab_ile _) ?_
          intro h72 w72
          replace hp := w72.1
          refine hs_goto (t := 35) ci_1650_75 rfl ?_
          have zC : (hv hC 182 15).toInt = 0 := hzC (by
            rcases hrC with ⟨y, -⟩ | ⟨y, -⟩
            · exact y
            · omega)
          obtain ⟨y1, rC2⟩ : ((tk j').1 = 2 ∧ (tk j').2.1 = 59) ∧ rt B n lim tk ta P hC (j' + 1) := by
            rcases hrC with ⟨-, y1, y3⟩ | ⟨y, -⟩
            · exact ⟨y1, y3⟩
            · omega
          clear hrC
          have f72 : ab_fr [(182, 19, 19)] h72 hC := w72.fr rfl
          have F9 : ab_fr MHN h72 h := (fr_sub (by decide +kernel) f72).tr ((fr_sub (by decide +kernel) fC).tr ((fr_sub (by decide +kernel) fB).tr F1))
          have nC : (hv hC 182 19).toInt = (k : Int) := by rw [hv_same (fC 182 19 rfl), hv_same (fB 182 19 rfl)]; exact n1
          have e9 : sp_all tk ta (f + 1 + 1) ps k j = sp_all tk ta (f + 1) p (k + 1) (j' + 1) := by
            show (if (tk j).1 = 0 then _ else sbn (sp_line tk ta ps (j + 1)) _) = _
            rw [if_neg (fun g => b39 (k0.mpr g)), sbn_r hp1]
            show (if (tk j').1 = 2 ∧ (tk j').2.1 = 59 then _ else _) = _
            rw [if_pos y1]
          rw [e9]
          refine ih (k + 1) (j' + 1) p _ h72 (by omega) (by omega) l0 ⟨hp, qC.2.fr (M := [(182, 19, 19)]) (by decide +kernel) f72⟩ F9 ?_ (by rw [hv_same (f72 182 15 rfl)]; exact zC) ((wB.fr fC (fun _ => rfl)).fr f72 (fun _ => rfl)) (rC2.fr f72 (fun _ => rfl) ⟨rfl, rfl, rfl, rfl, rfl, rfl, rfl⟩) ((PB.fr fC (fun _ => rfl) (fun _ => rfl) rfl).fr f72 (fun _ => rfl) (fun _ => rfl) rfl) ?_
          · rw [hv_same (f72 182 2 rfl), hv_same (fC 182 2 rfl), hv_same (fB 182 2 rfl)]; exact e2
          · rw [w72.v, if_pos ⟨rfl, rfl⟩, i32_inc nC (by omega) (by omega)]
            omega
        · simp only [hs_cd, ab_not] at b55
          refine hs_iconst ci_1650_58 ?_
          refine hs_aload_n ci_1650_59 l0 ?_
          refine hs_gfi 16 ci_1650_60 (by decide +kernel) hp ?_
          refine hs_isub ci_1650_63 ?_
          obtain ⟨y1, y3⟩ : ¬ ((tk j').1 = 2 ∧ (tk j').2.1 = 59) ∧ flm hC 1 (ta j') := by
            rcases hrC with ⟨y, -⟩ | ⟨-, y1, y3⟩
            · omega
            · exact ⟨y1, y3⟩
          clear hrC
          have F9 : ab_fr MHN hC h := (fr_sub (by decide +kernel) fC).tr ((fr_sub (by decide +kernel) fB).tr F1)
          have b9 := ab_ile (hv hC 182 16)
          have y4 := y3.2
          refine hs_k ⟨3, some (.int (Int32.ofInt (-1) - hv hC 182 16)), by decide +kernel, by rw [rt_1650]; rfl, qC, fr_sub (by decide +kernel) F9, ?_, _, rfl, ?_⟩
          · rw [hv_same (fC 182 2 rfl), hv_same (fB 182 2 rfl)]; exact e2
          · have e9 : sp_all tk ta (f + 1 + 1) ps k j = .inl (1, ta j') := by
              show (if (tk j).1 = 0 then _ else sbn (sp_line tk ta ps (j + 1)) _) = _
              rw [if_neg (fun g => b39 (k0.mpr g)), sbn_r hp1]
              show (if (tk j').1 = 2 ∧ (tk j').2.1 = 59 then _ else _) = _
              rw [if_neg y1]
            exact Or.inr ⟨1, ta j', e9, i32_sub kI_m1 y4 (by omega) (by omega), y3.1, fun q _ => hv_same (F9 184 q rfl), fun q hq => hl_same (F9 187 q (mhn_lo q hq))⟩
theorem m_head {m : Nat} (hsc : ab_osc sc) (ts : TS B n 900 tk ta P) (hm : ∀ t, m ≤ t → tk t = tk (m - 1)) (m1 : 1 ≤ m) (m2 : m ≤ 941) (p0 : P 0 = 0) (hB : bM h = B) (hn : (hv h 182 2).toInt = (n : Int)) (hq : ab_hp h) (hw : rwok h) : mc sc sp 1650 11 (d + 1 + 1 + 1 + 1 + 1 + 1 + 1 + 1) [.ref 182] h (hm_P h (sp_all tk ta 901 ps0 0 0)) := by
  have l0 : eg_find 0 (eg_args 0 [.ref 182]) = some (.ref 182) := rfl
  have hp := hq.1
  unfold mc
  refine hs_aload_n ci_1650_0 l0 ?_
  refine hs_iconst ci_1650_1 ?_
  refine hs_pfi 0 (0) (1) ci_1650_2 (by decide +kernel) hp (by decide) (by decide) ?_
  intro h2 w2
  replace hp := w2.1
  have f2 : ab_fr [(182, 0, 0)] h2 h := w2.fr rfl
  have q2 : ab_hp h2 := ⟨hp, hq.2.fr (M := [(182, 0, 0)]) (by decide +kernel) f2⟩
  refine hs_aload_n ci_1650_5 l0 ?_
  refine hs_sipush ci_1650_6 ?_
  refine hs_cv 1654 11 1 ci_1650_9 (by decide +kernel) (by decide +kernel) hp rfl (by rw [ml_1654]; rfl) (m_taken kS_900 q2) ?_
  rintro v9 hA ⟨e8, qA, fA, a3, a2, a4, a5⟩
  rw [e8]
  clear e8 v9
  simp only [Option.toList, List.nil_append]
  replace hp := qA.1
  refine hs_aload_n ci_1650_12 l0 ?_
  refine hs_iconst ci_1650_13 ?_
  refine hs_pfi 15 (-2147483648) (2147483647) ci_1650_14 (by decide +kernel) hp (by decide) (by decide) ?_
  intro h14 w14
  replace hp := w14.1
  refine hs_aload_n ci_1650_17 l0 ?_
  refine hs_iconst ci_1650_18 ?_
  refine hs_pfi 19 (-2147483648) (2147483647) ci_1650_19 (by decide +kernel) hp (by decide) (by decide) ?_
  intro h19 w19
  replace hp := w19.1
  refine hs_aload_n ci_1650_22 l0 ?_
  refine hs_iconst ci_1650_23 ?_
  refine hs_pfi 20 (-2147483648) (2147483647) ci_1650_24 (by decide +kernel) hp (by decide) (by decide) ?_
  intro h24 w24
  replace hp := w24.1
  have f14 : ab_fr [(182, 11, 20)] h14 hA := w14.fr rfl
  have f19 : ab_fr [(182, 11, 20)] h19 hA := (w19.fr rfl).tr f14
  have f24 : ab_fr [(182, 11, 20)] h24 hA := (w24.fr rfl).tr f19
  have q24 : ab_hp h24 := ⟨hp, qA.2.fr (M := [(182, 11, 20)]) (by decide +kernel) f24⟩
  refine hs_aload_n ci_1650_27 l0 ?_
  refine hs_cv 1483 11 0 ci_1650_28 (by decide +kernel) (by decide +kernel) hp rfl (by rw [ml_1483]; rfl) (m_clears q24) ?_
  rintro v9 hC ⟨e8, qC, fC, cv, cz⟩
  rw [e8]
  clear e8 v9
  simp only [Option.toList, List.nil_append]
  replace hp := qC.1
  have s182 : ∀ q, hv hC 182 q = hv h24 182 q := fun q => hv_same (fC 182 q rfl)
  have bC : bM hC = B := by
    rw [← hB]
    exact funext (fun q => by unfold bM; rw [hv_same (fC 183 q rfl), hv_same (f24 183 q rfl), hv_same (fA 183 q rfl), hv_same (f2 183 q rfl)])
  have n3 : (hv hC 182 3).toInt = (n : Int) := by rw [s182, hv_same (f24 182 3 rfl), a3, hv_same (f2 182 2 rfl)]; exact hn
  have n5 : (hv hC 182 5).toInt = ((900 : Nat) : Int) := by rw [s182, hv_same (f24 182 5 rfl)]; exact a5
  have n4 : (hv hC 182 4).toInt = (P 0 : Int) := by rw [s182, hv_same (f24 182 4 rfl), p0]; exact a4
  have e2 : (hv hC 182 2).toInt = 0 := by rw [s182, hv_same (f24 182 2 rfl)]; exact a2
  have e20 : hv hC 182 20 = Int32.ofInt 0 := by rw [s182, w24.v, if_pos ⟨rfl, rfl⟩]
  have e19 : (hv hC 182 19).toInt = 0 := by rw [s182, w24.v, if_neg (by omega), w19.v, if_pos ⟨rfl, rfl⟩]; exact kI_0
  have e15 : (hv hC 182 15).toInt = 0 := by rw [s182, w24.v, if_neg (by omega), w19.v, if_neg (by omega), w14.v, if_pos ⟨rfl, rfl⟩]; exact kI_0
  have wC : rwok hC := (((hw.fr f2 (fun _ => rfl)).fr fA (fun _ => rfl)).fr f24 (fun _ => rfl)).fr fC (fun _ => rfl)
  have FC : ab_fr MHN hC h := (fr_sub (by decide +kernel) fC).tr ((fr_sub (by decide +kernel) f24).tr ((fr_sub (by decide +kernel) fA).tr (fr_sub (by decide +kernel) f2)))
  have PC : MP hC ps0 := by
    refine ⟨⟨cv 0 (by decide), cv 1 (by decide), cv 2 (by decide), cv 3 (by decide), cv 4 (by decide), cv 5 (by decide), cv 6 (by decide)⟩, ?_, fun q hq => ?_, fun q hq => ?_, fun q hq r => ?_, by decide⟩
    · rw [e20, fb_0, fb_0, fb_0]
      refine ⟨⟨fun g => (nomatch g), fun g => ?_⟩, ⟨fun g => (nomatch g), fun g => absurd rfl g⟩, ⟨fun g => (nomatch g), fun g => absurd rfl g⟩⟩
      rcases g with g | g | g
      · exact absurd rfl g
      · exact absurd rfl g
      · exact absurd rfl g
    · have hq : (q : Int) < 0 := hq
      omega
    · have hq : (q : Int) < 0 := hq
      omega
    · rw [cz (79 + q) (by omega) (by omega), fb_0]
      exact ⟨fun g => (nomatch g), fun g => absurd rfl g⟩
  refine hs_aload_n ci_1650_31 l0 ?_
  refine hs_cv 1658 11 0 ci_1650_32 (by decide +kernel) (by decide +kernel) hp rfl (by rw [ml_1658]; rfl) (m_next0 (j := 0) ts qC bC n3 n5 n4 (by rw [p0]; exact Nat.zero_le _)) ?_
  rintro v9 hD ⟨e8, qD, fD, rD⟩
  rw [e8]
  clear e8 v9
  simp only [Option.toList, List.nil_append]
  replace hp := qD.1
  exact mh_loop hsc ts hm m1 hq 900 0 0 ps0 _ hD rfl (by omega) l0 qD ((fr_sub (by decide +kernel) fD).tr FC) (by rw [hv_same (fD 182 2 rfl)]; exact e2) (by rw [hv_same (fD 182 15 rfl)]; exact e15) (wC.fr fD (fun _ => rfl)) rD (PC.fr fD (fun _ => rfl) (fun _ => rfl) rfl) (by rw [hv_same (fD 182 19 rfl)]; exact e19)
end RK
