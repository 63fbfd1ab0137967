/-! BY HAND: the copied rows as summaries -/
theorem ab_fr.mono {M M2 : ab_M} {h h' : eg_H} (f : ab_fr M h' h) (hM : ∀ a k, ab_inr M2 a k k = false → ab_inr M a k k = false) : ab_fr M2 h' h := fun a k hk => f a k (hM a k hk)
theorem wf_h_same {f g : Nat → Int} {n : Nat} (h : ∀ i, i < n → f i = g i) : ∀ i, i ≤ n → wf_h f i = wf_h g i := by
  intro i
  induction i with
  | zero => intro _; rfl
  | succ i ih =>
    intro hi
    unfold wf_h
    rw [ih (by omega), h i (by omega)]
theorem wf_ok_same {f g : Nat → Int} {n : Nat} (h : ∀ i, i < n → f i = g i) (w : wf_ok g n) : wf_ok f n := fun i hi => by
  rw [h i hi, wf_h_same h i (by omega)]
  exact w i hi
/-- codes copied -/
theorem ab_Jc.copy {h h' : eg_H} {a b d e : Nat} (hJ : ab_Jc h a (b + 126)) (hn : (hv h a (b + 126)).toInt ≤ 45) (hc : ∀ j, j < 307 → hv h' d (e + j) = hv h a (b + j)) : ab_Jc h' d (e + 126) := by
  unfold ab_Jc at hJ ⊢
  rw [hc 126 (by decide)]
  refine wf_ok_same (fun i hi => ?_) hJ
  unfold ab_cd
  rw [show e + 126 + 1 + 3 * i = e + (127 + 3 * i) by omega, show b + 126 + 1 + 3 * i = b + (127 + 3 * i) by omega, hc _ (by omega)]
theorem ab_Jc.none {h : eg_H} {a b : Nat} (hn : (hv h a b).toInt = 0) : ab_Jc h a b := by
  unfold ab_Jc
  rw [hn]
  intro i hi
  cases hi
theorem ab_r.ov {L : Nat} {ν : Nat → Int} {σ : ab_S} {ls : eg_L} {st : List Value} {h : eg_H} (hr : ab_r L ν σ ls st h) (a k : Nat) {j : Nat} {d : Int} (hk : eg_find (a * 1024 + k) σ.2.2.2.2 = some (j, d)) (hk2 : k < 1024) : (hv h a k).toInt = ν j + d := by
  obtain ⟨x, h1, -, h2⟩ := hr.2.2.2.2.1 _ j d hk
  rw [show (a * 1024 + k) / 1024 = a by omega, show (a * 1024 + k) % 1024 = k by omega] at h1
  rw [hv_of h1]; exact h2
/-- an end with nothing new: locals alone -/
theorem en_loc {L : Nat} {ν : Nat → Int} {n : Nat} {la : List (Nat × ab_A)} {ls : eg_L} {h : eg_H} (hb : 2 ≤ n ∧ ν 0 = 0 ∧ ν 1 = L) (hl : ab_vl ν n la ls) (hp : ab_hp h) : ab_r L ν (n, [], la, [], []) ls [] h := ⟨hb, (fun j B hf => by cases hf), hl, rfl, (fun _ _ _ hf => by cases hf), hp⟩
theorem vl_nil {ν : Nat → Int} {n : Nat} {ls : eg_L} : ab_vl ν n [] ls := fun k A hm => nomatch hm
theorem vl_ref {ν : Nat → Int} {n k a : Nat} {la : List (Nat × ab_A)} {ls : eg_L} (l : eg_find k ls = some (.ref a)) (r : ab_vl ν n la ls) : ab_vl ν n ((k, .inr (a + 2)) :: la) ls := fun j A hm => by
  rcases List.mem_cons.mp hm with e | e
  · cases e; exact ⟨_, l, rfl⟩
  · exact r j A e
theorem vl_int {ν : Nat → Int} {n k j : Nat} {d : Int} {x : Int32} {la : List (Nat × ab_A)} {ls : eg_L} (l : eg_find k ls = some (.int x)) (hj : j < n) (hx : x.toInt = ν j + d) (r : ab_vl ν n la ls) : ab_vl ν n ((k, .inl (j, d)) :: la) ls := fun i A hm => by
  rcases List.mem_cons.mp hm with e | e
  · cases e; exact ⟨_, l, x, rfl, hj, hx⟩
  · exact r i A e

def sm_ka11 : ab_Q := (1845, 11, 11, 1, (2, [], [(0, .inr 184), (1, .inl (0, .ofNat 0))], [], []), [(190, 0, 295)], [(39, (2, [], [(0, .inr 184)], [], []))], none)
theorem tr_ka11 : ab_Tr sm_ka11 := tr_hand (by decide +kernel) (fun sc sp hsc dq hdq ν ls st h hr => by
  have l0 := hr.ref 0 182 (by rfl)
  obtain ⟨x, l1, hx⟩ := hr.int 1 (by rfl)
  have h00 : ν 0 = 0 := hr.1.2.1
  obtain rfl : st = [] := hr.2.2.2.1
  obtain ⟨hp, hJ⟩ := hr.2.2.2.2.2
  refine hs.mono (cp_ka11 _ 0 x ls h rfl hp ab_fr.rf l0 l1 (by rw [hx, h00]; rfl)) ?_
  rintro pc' ls' st' h' ⟨rfl, rfl, hp', hf, k0⟩
  exact ⟨_, List.mem_cons_self, rfl, ν, en_loc hr.1 (vl_ref k0 (vl_nil)) ⟨hp', hJ.fr (by decide +kernel) hf⟩, ab_ext.rf, hf⟩)
def sm_ka47 : ab_Q := (1845, 11, 47, 1, (3, [(2, .ofNat 0, .ofNat 7, false, none)], [(0, .inr 184), (1, .inl (0, .ofNat 0))], [], [(186393, 2, .ofNat 0)]), [(190, 0, 295)], [(82, (3, [], [(0, .inr 184)], [], []))], none)
theorem tr_ka47 : ab_Tr sm_ka47 := tr_hand (by decide +kernel) (fun sc sp hsc dq hdq ν ls st h hr => by
  have l0 := hr.ref 0 182 (by rfl)
  obtain ⟨x, l1, hx⟩ := hr.int 1 (by rfl)
  have h00 : ν 0 = 0 := hr.1.2.1
  obtain rfl : st = [] := hr.2.2.2.1
  obtain ⟨hp, hJ⟩ := hr.2.2.2.2.2
  have hu : (hv h 182 25).toInt = ν 2 + 0 := hr.ov 182 25 (by rfl) (by decide)
  have hub : 0 ≤ ν 2 ∧ ν 2 ≤ 7 := hr.bnd 2 (by rfl)
  obtain ⟨m, hm⟩ : ∃ m : Nat, (hv h 182 25).toInt = (m : Int) := ⟨(hv h 182 25).toInt.toNat, by omega⟩
  refine hs.mono (cp_ka47 (m := m) (by omega) _ 0 x ls h rfl hp ab_fr.rf hm l0 l1 (by rw [hx, h00]; rfl)) ?_
  rintro pc' ls' st' h' ⟨rfl, rfl, hp', hf, k0⟩
  exact ⟨_, List.mem_cons_self, rfl, ν, en_loc hr.1 (vl_ref k0 (vl_nil)) ⟨hp', hJ.fr (by decide +kernel) hf⟩, ab_ext.rf, hf⟩)
def sm_un26 : ab_Q := (1918, 11, 26, 1, (3, [(2, .ofNat 0, .ofNat 7, false, none)], [(0, .inr 184), (1, .inl (0, .ofNat 0))], [], [(186393, 2, .ofNat 0)]), [(184, 89, 125)], [(61, (3, [], [(0, .inr 184)], [], []))], none)
theorem tr_un26 : ab_Tr sm_un26 := tr_hand (by decide +kernel) (fun sc sp hsc dq hdq ν ls st h hr => by
  have l0 := hr.ref 0 182 (by rfl)
  obtain ⟨x, l1, hx⟩ := hr.int 1 (by rfl)
  have h00 : ν 0 = 0 := hr.1.2.1
  obtain rfl : st = [] := hr.2.2.2.1
  obtain ⟨hp, hJ⟩ := hr.2.2.2.2.2
  have hu : (hv h 182 25).toInt = ν 2 + 0 := hr.ov 182 25 (by rfl) (by decide)
  have hub : 0 ≤ ν 2 ∧ ν 2 ≤ 7 := hr.bnd 2 (by rfl)
  obtain ⟨m, hm⟩ : ∃ m : Nat, (hv h 182 25).toInt = (m : Int) := ⟨(hv h 182 25).toInt.toNat, by omega⟩
  refine hs.mono (cp_un26 (m := m) (by omega) _ 0 x ls h rfl hp ab_fr.rf hm l0 l1 (by rw [hx, h00]; rfl)) ?_
  rintro pc' ls' st' h' ⟨rfl, rfl, hp', hf, k0⟩
  exact ⟨_, List.mem_cons_self, rfl, ν, en_loc hr.1 (vl_ref k0 (vl_nil)) ⟨hp', hJ.fr (by decide +kernel) hf⟩, ab_ext.rf, hf⟩)
def sm_tr2 : ab_Q := (1938, 11, 2, 1, (2, [], [(0, .inr 184), (1, .inl (0, .ofNat 0))], [], []), [(191, 0, 36)], [(29, (2, [], [(0, .inr 184)], [], []))], none)
theorem tr_tr2 : ab_Tr sm_tr2 := tr_hand (by decide +kernel) (fun sc sp hsc dq hdq ν ls st h hr => by
  have l0 := hr.ref 0 182 (by rfl)
  obtain ⟨x, l1, hx⟩ := hr.int 1 (by rfl)
  have h00 : ν 0 = 0 := hr.1.2.1
  obtain rfl : st = [] := hr.2.2.2.1
  obtain ⟨hp, hJ⟩ := hr.2.2.2.2.2
  refine hs.mono (cp_tr2 _ 0 x ls h rfl hp ab_fr.rf l0 l1 (by rw [hx, h00]; rfl)) ?_
  rintro pc' ls' st' h' ⟨rfl, rfl, hp', hf, k0⟩
  exact ⟨_, List.mem_cons_self, rfl, ν, en_loc hr.1 (vl_ref k0 (vl_nil)) ⟨hp', hJ.fr (by decide +kernel) hf⟩, ab_ext.rf, hf⟩)
def sm_ba2 : ab_Q := (1942, 11, 2, 1, (2, [], [(0, .inr 184), (1, .inl (0, .ofNat 0))], [], []), [(184, 89, 125)], [(29, (2, [], [(0, .inr 184)], [], []))], none)
theorem tr_ba2 : ab_Tr sm_ba2 := tr_hand (by decide +kernel) (fun sc sp hsc dq hdq ν ls st h hr => by
  have l0 := hr.ref 0 182 (by rfl)
  obtain ⟨x, l1, hx⟩ := hr.int 1 (by rfl)
  have h00 : ν 0 = 0 := hr.1.2.1
  obtain rfl : st = [] := hr.2.2.2.1
  obtain ⟨hp, hJ⟩ := hr.2.2.2.2.2
  refine hs.mono (cp_ba2 _ 0 x ls h rfl hp ab_fr.rf l0 l1 (by rw [hx, h00]; rfl)) ?_
  rintro pc' ls' st' h' ⟨rfl, rfl, hp', hf, k0⟩
  exact ⟨_, List.mem_cons_self, rfl, ν, en_loc hr.1 (vl_ref k0 (vl_nil)) ⟨hp', hJ.fr (by decide +kernel) hf⟩, ab_ext.rf, hf⟩)
def sm_bk230 : ab_Q := (2057, 11, 230, 1, (5, [(2, .negSucc 2147483647, .ofNat 2147483647, false, none), (3, .negSucc 2147483647, .ofNat 2147483647, false, none), (4, .ofNat 1, .ofNat 8, false, none)], [(0, .inr 184), (1, .inl (2, .ofNat 0)), (2, .inl (3, .ofNat 0)), (3, .inl (0, .ofNat 0))], [], [(186393, 4, .ofNat 0)]), [(190, 0, 295)], [(264, (5, [], [(0, .inr 184), (1, .inl (2, .ofNat 0)), (2, .inl (3, .ofNat 0))], [], []))], none)
theorem tr_bk230 : ab_Tr sm_bk230 := tr_hand (by decide +kernel) (fun sc sp hsc dq hdq ν ls st h hr => by
  have l0 := hr.ref 0 182 (by rfl)
  obtain ⟨x, l3, hx⟩ := hr.int 3 (by rfl)
  obtain ⟨y1, l1, hy1⟩ := hr.int 1 (by rfl)
  obtain ⟨y2, l2, hy2⟩ := hr.int 2 (by rfl)
  have h00 : ν 0 = 0 := hr.1.2.1
  obtain rfl : st = [] := hr.2.2.2.1
  obtain ⟨hp, hJ⟩ := hr.2.2.2.2.2
  have hu : (hv h 182 25).toInt = ν 4 + 0 := hr.ov 182 25 (by rfl) (by decide)
  have hub : 1 ≤ ν 4 ∧ ν 4 ≤ 8 := hr.bnd 4 (by rfl)
  obtain ⟨m, hm⟩ : ∃ m : Nat, (hv h 182 25).toInt = (m : Int) := ⟨(hv h 182 25).toInt.toNat, by omega⟩
  refine hs.mono (cp_bk230 (m := m) (by omega) y1 y2 _ 0 x ls h rfl hp ab_fr.rf hm l0 l3 (by rw [hx, h00]; rfl) l1 l2) ?_
  rintro pc' ls' st' h' ⟨rfl, rfl, hp', hf, k0, k1, k2⟩
  exact ⟨_, List.mem_cons_self, rfl, ν, en_loc hr.1 (vl_ref k0 (vl_int k1 (by decide) hy1 (vl_int k2 (by decide) hy2 (vl_nil)))) ⟨hp', hJ.fr (by decide +kernel) hf⟩, ab_ext.rf, hf⟩)
def sm_im18 : ab_Q := (2113, 11, 18, 1, (3, [(2, .ofNat 0, .ofNat 1, false, none)], [(0, .inr 184), (1, .inl (2, .ofNat 0)), (2, .inl (0, .ofNat 0))], [], []), [(201, 0, 613)], [(49, (3, [], [(0, .inr 184), (1, .inl (2, .ofNat 0))], [], []))], none)
theorem tr_im18 : ab_Tr sm_im18 := tr_hand (by decide +kernel) (fun sc sp hsc dq hdq ν ls st h hr => by
  have l0 := hr.ref 0 182 (by rfl)
  obtain ⟨x, l2, hx⟩ := hr.int 2 (by rfl)
  obtain ⟨y1, l1, hy1⟩ := hr.int 1 (by rfl)
  have h00 : ν 0 = 0 := hr.1.2.1
  obtain rfl : st = [] := hr.2.2.2.1
  obtain ⟨hp, hJ⟩ := hr.2.2.2.2.2
  have hub : 0 ≤ ν 2 ∧ ν 2 ≤ 1 := hr.bnd 2 (by rfl)
  obtain ⟨m, hm⟩ : ∃ m : Nat, y1.toInt = (m : Int) := ⟨y1.toInt.toNat, by have : y1.toInt = ν 2 + 0 := hy1; omega⟩
  have hm2 : m < 2 := by have : y1.toInt = ν 2 + 0 := hy1; omega
  refine hs.mono (cp_im18 (m := m) hm2 y1 _ 0 x ls h rfl hp ab_fr.rf hm (fun j hj => nomatch hj) l0 l2 (by rw [hx, h00]; rfl) l1) ?_
  rintro pc' ls' st' h' ⟨rfl, rfl, hp', hf, k0, k1, hc⟩
  have hs45 : (hv h 184 (0 + 126)).toInt ≤ 45 := (gsl_b (q := (0, 45)) hp (by decide +kernel)).2
  have hn := hJ.1.copy (h' := h') (b := 0) (d := 201) (e := 307 * m) hs45 (fun j hj => by rw [hc j hj, Nat.zero_add])
  have hs1 : ∀ a k, ¬ a = 201 → ab_slot h' a k = ab_slot h a k := fun a k ha => hf a k (by
    unfold ab_inr
    have : Nat.beq a 201 = false := by
      cases hb : Nat.beq a 201 with
      | false => rfl
      | true => exact absurd (Nat.eq_of_beq_eq_true hb) ha
    rw [this]; rfl)
  have hs2 : ∀ k, k < 307 * m ∨ 307 * m + 306 < k → ab_slot h' 201 k = ab_slot h 201 k := fun k hk => hf 201 k (by
    unfold ab_inr
    cases hb : (Nat.beq 201 201 && Nat.ble (307 * m) k && Nat.ble k (307 * m + 306)) with
    | false => rfl
    | true =>
      have d1 := Bool.and_eq_true_iff.mp hb
      have d2 := Bool.and_eq_true_iff.mp d1.1
      have := Nat.le_of_ble_eq_true d2.2
      have := Nat.le_of_ble_eq_true d1.2
      omega)
  have hn' : ab_Jc h' 201 (307 * m + 126) := hn
  have h45 : ∀ b, b = 126 ∨ b = 433 → (hv h 201 b).toInt ≤ 45 := fun b hb => by
    rcases hb with rfl | rfl
    · exact (gsl_b (q := (0, 45)) hp (by decide +kernel)).2
    · exact (gsl_b (q := (0, 45)) hp (by decide +kernel)).2
  have hJ' : ab_J h' := by
    refine ⟨hJ.1.same (fun k _ => hs1 _ _ (by decide)), ?_, ?_, fun k hd => ?_⟩
    · rcases (show m = 0 ∨ m = 1 by omega) with rfl | rfl
      · exact hn'
      · unfold ab_Jc
        rw [hv_same (hs2 126 (by omega))]
        refine wf_ok_same (fun i hi => ?_) hJ.2.1
        have := h45 126 (Or.inl rfl)
        unfold ab_cd
        rw [hv_same (hs2 _ (by omega))]
    · rcases (show m = 0 ∨ m = 1 by omega) with rfl | rfl
      · unfold ab_Jc
        rw [hv_same (hs2 433 (by omega))]
        refine wf_ok_same (fun i hi => ?_) hJ.2.2.1
        unfold ab_cd
        rw [hv_same (hs2 _ (by omega))]
      · exact hn'
    · rw [hv_same (hs1 113 k (by decide))] at hd
      rw [hv_same (hs1 114 k (by decide))]
      exact hJ.2.2.2 k hd
  have hf2 : ab_fr [(201, 0, 613)] h' h := hf.mono (fun a k hk => by
    unfold ab_inr at hk ⊢
    cases hb : (Nat.beq a 201 && Nat.ble (307 * m) k && Nat.ble k (307 * m + 306)) with
    | false => rfl
    | true =>
      have d1 := Bool.and_eq_true_iff.mp hb
      have d2 := Bool.and_eq_true_iff.mp d1.1
      have e1 := Nat.le_of_ble_eq_true d1.2
      rw [d2.1, Nat.ble_eq.mpr (Nat.zero_le k), Nat.ble_eq.mpr (show k ≤ 613 by omega)] at hk
      cases hk)
  exact ⟨_, List.mem_cons_self, rfl, ν, en_loc hr.1 (vl_ref k0 (vl_int k1 (by decide) hy1 vl_nil)) ⟨hp', hJ'⟩, ab_ext.rf, hf2⟩)
def sm_re27 : ab_Q := (2117, 11, 27, 1, (3, [(2, .ofNat 0, .ofNat 1, false, none)], [(0, .inr 184), (1, .inl (2, .ofNat 0)), (2, .inl (0, .ofNat 0))], [], []), [(184, 0, 306)], [(58, (3, [], [(0, .inr 184), (1, .inl (2, .ofNat 0))], [], []))], none)
theorem tr_re27 : ab_Tr sm_re27 := tr_hand (by decide +kernel) (fun sc sp hsc dq hdq ν ls st h hr => by
  have l0 := hr.ref 0 182 (by rfl)
  obtain ⟨x, l2, hx⟩ := hr.int 2 (by rfl)
  obtain ⟨y1, l1, hy1⟩ := hr.int 1 (by rfl)
  have h00 : ν 0 = 0 := hr.1.2.1
  obtain rfl : st = [] := hr.2.2.2.1
  obtain ⟨hp, hJ⟩ := hr.2.2.2.2.2
  have hub : 0 ≤ ν 2 ∧ ν 2 ≤ 1 := hr.bnd 2 (by rfl)
  obtain ⟨m, hm⟩ : ∃ m : Nat, y1.toInt = (m : Int) := ⟨y1.toInt.toNat, by have : y1.toInt = ν 2 + 0 := hy1; omega⟩
  have hm2 : m < 2 := by have : y1.toInt = ν 2 + 0 := hy1; omega
  refine hs.mono (cp_re27 (m := m) hm2 y1 _ 0 x ls h rfl hp ab_fr.rf hm (fun j hj => nomatch hj) l0 l2 (by rw [hx, h00]; rfl) l1) ?_
  rintro pc' ls' st' h' ⟨rfl, rfl, hp', hf, k0, k1, hc⟩
  have hs1 : ∀ a k, ¬ a = 184 → ab_slot h' a k = ab_slot h a k := fun a k ha => hf a k (by
    unfold ab_inr
    have : Nat.beq a 184 = false := by
      cases hb : Nat.beq a 184 with
      | false => rfl
      | true => exact absurd (Nat.eq_of_beq_eq_true hb) ha
    rw [this]; rfl)
  have hJ' : ab_J h' := by
    refine ⟨?_, hJ.2.1.same (fun k _ => hs1 _ _ (by decide)), hJ.2.2.1.same (fun k _ => hs1 _ _ (by decide)), fun k hd => ?_⟩
    · have hk45 : (hv h 201 (307 * m + 126)).toInt ≤ 45 := by
        rcases (show m = 0 ∨ m = 1 by omega) with rfl | rfl
        · exact (gsl_b (q := (0, 45)) hp (by decide +kernel)).2
        · exact (gsl_b (q := (0, 45)) hp (by decide +kernel)).2
      have hk : ab_Jc h 201 (307 * m + 126) := by
        rcases (show m = 0 ∨ m = 1 by omega) with rfl | rfl
        · exact hJ.2.1
        · exact hJ.2.2.1
      exact hk.copy (h' := h') (d := 184) (e := 0) hk45 (fun j hj => by rw [Nat.zero_add]; exact hc j hj)
    · rw [hv_same (hs1 113 k (by decide))] at hd
      rw [hv_same (hs1 114 k (by decide))]
      exact hJ.2.2.2 k hd
  exact ⟨_, List.mem_cons_self, rfl, ν, en_loc hr.1 (vl_ref k0 (vl_int k1 (by decide) hy1 vl_nil)) ⟨hp', hJ'⟩, ab_ext.rf, hf⟩)
theorem ci_1650_80 : ab_at 1650 80 (.iload_n 1) 1 = true := by decide +kernel
theorem ci_1650_81 : ab_at 1650 81 (.sipush 307) 3 = true := by decide +kernel
theorem ci_1650_84 : ab_at 1650 84 (.if_icmp .ge 31) 3 = true := by decide +kernel
theorem ci_1650_87 : ab_at 1650 87 (.aload_n 0) 1 = true := by decide +kernel
theorem ci_1650_88 : ab_at 1650 88 (.getfield 33) 3 = true := by decide +kernel
theorem ci_1650_91 : ab_at 1650 91 (.iload_n 1) 1 = true := by decide +kernel
theorem ci_1650_92 : ab_at 1650 92 (.iload_n 1) 1 = true := by decide +kernel
theorem ci_1650_93 : ab_at 1650 93 (.bipush 89) 2 = true := by decide +kernel
theorem ci_1650_95 : ab_at 1650 95 (.if_icmp .ge 12) 3 = true := by decide +kernel
theorem ci_1650_98 : ab_at 1650 98 (.aload_n 0) 1 = true := by decide +kernel
theorem ci_1650_99 : ab_at 1650 99 (.getfield 37) 3 = true := by decide +kernel
theorem ci_1650_102 : ab_at 1650 102 (.iload_n 1) 1 = true := by decide +kernel
theorem ci_1650_103 : ab_at 1650 103 (.iaload) 1 = true := by decide +kernel
theorem ci_1650_104 : ab_at 1650 104 (.goto 4) 3 = true := by decide +kernel
theorem ci_1650_107 : ab_at 1650 107 (.iconst 0) 1 = true := by decide +kernel
theorem ci_1650_108 : ab_at 1650 108 (.iastore) 1 = true := by decide +kernel
theorem ci_1650_109 : ab_at 1650 109 (.iinc 1 1) 3 = true := by decide +kernel
theorem ci_1650_112 : ab_at 1650 112 (.goto (-32)) 3 = true := by decide +kernel
theorem ck_hl1 : ckn 89 (fun i => ck2 185 i 184 i) = true := by decide +kernel
def ck_z (a k : Nat) : Bool := match gsl a k with
  | some (lo, hi) => decide (lo ≤ 0) && decide (0 ≤ hi)
  | none => false
theorem ck_z_v {a k : Nat} (h : ck_z a k = true) : ∃ q : Int × Int, gsl a k = some q ∧ q.1 ≤ (Int32.ofInt 0).toInt ∧ (Int32.ofInt 0).toInt ≤ q.2 := by
  unfold ck_z at h
  split at h
  next lo hi g =>
    have c := Bool.and_eq_true_iff.mp h
    exact ⟨_, g, of_decide_eq_true c.1, of_decide_eq_true c.2⟩
  next => cases h
theorem ck_hl2 : ckn 307 (fun i => ck_z 184 i) = true := by decide +kernel
theorem cp_hl80 {sc : List Value} {sp dq : Nat} {h0 : eg_H} (r : Nat) : ∀ (i : Nat) (x : Int32) (ls : eg_L) (h : eg_H), r + i = 307 → ab_hp0 h → ab_fr [(184, 0, 306)] h h0 → (126 < i → (hv h 184 126).toInt = 0) → eg_find 0 ls = some (.ref 182) → eg_find 1 ls = some (.int x) → x.toInt = (i : Int) → hs sc sp 1650 11 dq (fun pc' ls' st' h' => pc' = 115 ∧ st' = [] ∧ ab_hp0 h' ∧ ab_fr [(184, 0, 306)] h' h0 ∧ (hv h' 184 126).toInt = 0 ∧ eg_find 0 ls' = some (.ref 182)) 80 ls [] h := by
  induction r with
  | zero =>
    intro i x ls h hi hp hf hz l0 l1 hx
    refine hs_iload_n ci_1650_80 l1 ?_
    refine hs_sipush ci_1650_81 ?_
    refine hs_ic (t := 115) ci_1650_84 rfl (fun b84 => ?_) (fun b84 => ?_)
    · simp only [hs_cd, ab_not] at b84
      exact hs_k ⟨rfl, rfl, hp, hf, hz (by omega), l0⟩
    · simp only [hs_cd, ab_not] at b84
      have e9 : (Int16.ofInt 307).toInt32.toInt = 307 := rfl
      omega
  | succ r ih =>
    intro i x ls h hi hp hf hz l0 l1 hx
    refine hs_iload_n ci_1650_80 l1 ?_
    refine hs_sipush ci_1650_81 ?_
    refine hs_ic (t := 115) ci_1650_84 rfl (fun b84 => ?_) (fun b84 => ?_)
    · simp only [hs_cd, ab_not] at b84
      have e9 : (Int16.ofInt 307).toInt32.toInt = 307 := rfl
      omega
    · simp only [hs_cd, ab_not] at b84
      refine hs_aload_n ci_1650_87 l0 ?_
      refine hs_gfr 6 184 ci_1650_88 (by decide +kernel) hp ?_
      refine hs_iload_n ci_1650_91 l1 ?_
      refine hs_iload_n ci_1650_92 l1 ?_
      refine hs_bipush ci_1650_93 ?_
      refine hs_ic (t := 107) ci_1650_95 rfl (fun b95 => ?_) (fun b95 => ?_)
      · simp only [hs_cd, ab_not] at b95
        have e8 : (Int8.ofInt 89).toInt32.toInt = 89 := rfl
        refine hs_iconst ci_1650_107 ?_
        obtain ⟨q, g2, g3, g4⟩ := ck_z_v (ckn_v ck_hl2 (i := i) (by omega))
        refine hs_ias1 i ci_1650_108 hx g2 hp g3 g4 ?_
        intro h9 w9
        refine hs_iinc ci_1650_109 (by decide +kernel) l1 ?_
        intro ls9 q9
        replace l0 := q9.2 0 _ (by decide) rfl l0
        have l1 := q9.1
        clear q9
        refine hs_goto (t := 80) ci_1650_112 rfl ?_
        replace hp := w9.1
        have hf9 := (w9.fr (M := [(184, 0, 306)]) (in1 (by omega) (by omega))).tr hf
        have hz9 : 126 < i + 1 → (hv h9 184 126).toInt = 0 := fun h126 => by
          rw [w9.v]
          by_cases e : 126 = i
          · rw [if_pos ⟨rfl, e⟩]
            rfl
          · rw [if_neg (fun q => e q.2)]
            exact hz (by omega)
        exact ih (i + 1) _ _ _ (by omega) hp hf9 hz9 l0 l1 (by have := i32_add hx (y := Int32.ofInt 1) (b := 1) rfl (by omega) (by omega); rw [this]; omega)
      · simp only [hs_cd, ab_not] at b95
        have e8 : (Int8.ofInt 89).toInt32.toInt = 89 := rfl
        obtain ⟨q, q2, g1, g2, g3, g4⟩ := ck2_v (ckn_v ck_hl1 (i := i) (by omega))
        have gb := gsl_b hp g1
        refine hs_aload_n ci_1650_98 l0 ?_
        refine hs_gfr 7 185 ci_1650_99 (by decide +kernel) hp ?_
        refine hs_iload_n ci_1650_102 l1 ?_
        refine hs_ial1 i ci_1650_103 hx g1 hp ?_
        refine hs_goto (t := 108) ci_1650_104 rfl ?_
        refine hs_ias1 i ci_1650_108 hx g2 hp (by omega) (by omega) ?_
        intro h9 w9
        refine hs_iinc ci_1650_109 (by decide +kernel) l1 ?_
        intro ls9 q9
        replace l0 := q9.2 0 _ (by decide) rfl l0
        have l1 := q9.1
        clear q9
        refine hs_goto (t := 80) ci_1650_112 rfl ?_
        replace hp := w9.1
        have hf9 := (w9.fr (M := [(184, 0, 306)]) (in1 (by omega) (by omega))).tr hf
        have hz9 : 126 < i + 1 → (hv h9 184 126).toInt = 0 := fun h126 => by
          rw [w9.v]
          by_cases e : 126 = i
          · rw [if_pos ⟨rfl, e⟩]
            omega
          · rw [if_neg (fun q => e q.2)]
            exact hz (by omega)
        exact ih (i + 1) _ _ _ (by omega) hp hf9 hz9 l0 l1 (by have := i32_add hx (y := Int32.ofInt 1) (b := 1) rfl (by omega) (by omega); rw [this]; omega)
def sm_hl80 : ab_Q := (1650, 11, 80, 1, (2, [], [(0, .inr 184), (1, .inl (0, .ofNat 0))], [], []), [(184, 0, 306)], [(115, (2, [], [(0, .inr 184)], [], []))], none)
theorem tr_hl80 : ab_Tr sm_hl80 := tr_hand (by decide +kernel) (fun sc sp hsc dq hdq ν ls st h hr => by
  have l0 := hr.ref 0 182 (by rfl)
  obtain ⟨x, l1, hx⟩ := hr.int 1 (by rfl)
  have h00 : ν 0 = 0 := hr.1.2.1
  obtain rfl : st = [] := hr.2.2.2.1
  obtain ⟨hp, hJ⟩ := hr.2.2.2.2.2
  refine hs.mono (cp_hl80 _ 0 x ls h rfl hp ab_fr.rf (fun h => by omega) l0 l1 (by rw [hx, h00]; rfl)) ?_
  rintro pc' ls' st' h' ⟨rfl, rfl, hp', hf, hz, k0⟩
  have hs1 : ∀ a k, ¬ a = 184 → ab_slot h' a k = ab_slot h a k := fun a k ha => hf a k (by
    unfold ab_inr
    have : Nat.beq a 184 = false := by
      cases hb : Nat.beq a 184 with
      | false => rfl
      | true => exact absurd (Nat.eq_of_beq_eq_true hb) ha
    rw [this]; rfl)
  have hJ' : ab_J h' := by
    refine ⟨ab_Jc.none hz, hJ.2.1.same (fun k _ => hs1 _ _ (by decide)), hJ.2.2.1.same (fun k _ => hs1 _ _ (by decide)), fun k hd => ?_⟩
    rw [hv_same (hs1 113 k (by decide))] at hd
    rw [hv_same (hs1 114 k (by decide))]
    exact hJ.2.2.2 k hd
  exact ⟨_, List.mem_cons_self, rfl, ν, en_loc hr.1 (vl_ref k0 vl_nil) ⟨hp', hJ'⟩, ab_ext.rf, hf⟩)
