/-! a summary's end, here -/
/-- symbols: those that were there, then the summary's own -/
def ab_nu (ν νe : Nat → Int) (n n0 : Nat) : Nat → Int := fun k => if k < n then ν k else νe (k - n + n0)
theorem ab_nu_ext {ν νe : Nat → Int} {n n0 : Nat} : ab_ext ν (ab_nu ν νe n n0) n := fun j hj => by
  unfold ab_nu
  rw [if_pos hj]
theorem ab_mp_ok {ν νe : Nat → Int} {n n0 ne : Nat} {b : ab_D} (hb : ab_bi n b) (he : ab_ext (ab_bv ν b) νe n0) {j : Nat} {d : Int} {q : Nat × Int} (hj : j < ne) (h : ab_mp b n0 n j d = some q) : q.1 < n + (ne - n0) ∧ ab_nu ν νe n n0 q.1 + q.2 = νe j + d := by
  unfold ab_mp at h
  rcases ab_blt (a := j) (b := n0) with ⟨h1, h2⟩ | ⟨h1, h2⟩
  · rw [h1] at h
    simp only at h
    cases hf : eg_find j b with
    | none => rw [hf] at h; cases h
    | some x =>
      obtain ⟨j', d'⟩ := x
      rw [hf] at h
      simp only [ab_fi_eq] at h
      cases h
      have h3 : j' < n := hb j _ hf
      refine ⟨by simp only; omega, ?_⟩
      have h4 := he j h2
      rw [ab_bv_v hf] at h4
      simp only at h4 ⊢
      unfold ab_nu
      rw [if_pos h3]
      omega
  · rw [h1] at h
    simp only [ab_fn_eq] at h
    cases h
    refine ⟨by simp only; omega, ?_⟩
    unfold ab_nu
    simp only
    rw [if_neg (by omega), show n + (j - n0) - n + n0 = j by omega]
theorem ab_mpA_ok {ν νe : Nat → Int} {n n0 ne : Nat} {b : ab_D} (hb : ab_bi n b) (he : ab_ext (ab_bv ν b) νe n0) {A A' : ab_A} {v : Value} (hv : ab_v νe ne A v) (h : ab_mpA b n0 n A = some A') : ab_v (ab_nu ν νe n n0) (n + (ne - n0)) A' v := by
  match A, hv, h with
  | .inl (j, d), ⟨x, e, hj, hx⟩, h =>
    obtain ⟨q, h1, rfl⟩ := eg_map_v h
    obtain ⟨h2, h3⟩ := ab_mp_ok hb he hj h1
    exact ⟨x, e, h2, by rw [h3]; exact hx⟩
  | .inr q, hv, h =>
    cases h
    match q, hv with
    | 0, hv => exact hv
    | 1, hv => exact hv
    | q + 2, hv => exact hv
theorem ab_mpS_ok {ν νe : Nat → Int} {n n0 ne : Nat} {b : ab_D} (hb : ab_bi n b) (he : ab_ext (ab_bv ν b) νe n0) (l : List ab_A) : ∀ (l' : List ab_A) (st : List Value), ab_vs νe ne l st → ab_mpS b n0 n l = some l' → ab_vs (ab_nu ν νe n n0) (n + (ne - n0)) l' st := by
  induction l with
  | nil =>
    intro l' st hs h
    cases h
    exact hs
  | cons A l ih =>
    intro l' st hs h
    obtain ⟨v, t, e, hv, ht⟩ := hs
    simp only [ab_mpS] at h
    split at h
    next => cases h
    next A' hA =>
      obtain ⟨l2, h1, rfl⟩ := eg_map_v h
      exact ⟨v, t, e, ab_mpA_ok hb he hv hA, ih l2 t ht h1⟩
theorem ab_mpL_ok {ν νe : Nat → Int} {n n0 ne : Nat} {b : ab_D} (hb : ab_bi n b) (he : ab_ext (ab_bv ν b) νe n0) {lc : eg_L} (l : List (Nat × ab_A)) : ∀ l' : List (Nat × ab_A), ab_vl νe ne l lc → ab_mpL b n0 n l = some l' → ab_vl (ab_nu ν νe n n0) (n + (ne - n0)) l' lc := by
  induction l with
  | nil =>
    intro l' hs h
    cases h
    exact fun k A hm => by cases hm
  | cons q l ih =>
    obtain ⟨k, A⟩ := q
    intro l' hs h
    simp only [ab_mpL] at h
    split at h
    next => cases h
    next A' hA =>
      obtain ⟨l2, h1, rfl⟩ := eg_map_v h
      intro k' B hm
      rcases List.mem_cons.mp hm with e | e
      · cases e
        obtain ⟨v, g1, g2⟩ := hs k A List.mem_cons_self
        exact ⟨v, g1, ab_mpA_ok hb he g2 hA⟩
      · exact ih l2 (fun k A hm => hs k A (List.mem_cons_of_mem _ hm)) h1 k' B e
theorem ab_mpO_find {b : ab_D} {n0 n : Nat} (l : ab_O) : ∀ l3 : ab_O, ab_mpO b n0 n l = some l3 → ∀ k' j' d', eg_find k' l3 = some (j', d') → ∃ j0 d0, eg_find k' l = some (j0, d0) ∧ ab_mp b n0 n j0 d0 = some (j', d') := by
  induction l with
  | nil =>
    intro l3 h3 k' j' d' hf
    cases h3
    cases hf
  | cons y l ih =>
    obtain ⟨ky, jy, dy⟩ := y
    intro l3 h3 k' j' d' hf
    simp only [ab_mpO] at h3
    split at h3
    next => cases h3
    next qy hqy =>
      obtain ⟨l4, h4, rfl⟩ := eg_map_v h3
      rw [ab_find_cons] at hf ⊢
      by_cases e : ky = k'
      · rw [if_pos e] at hf ⊢
        cases hf
        exact ⟨jy, dy, rfl, hqy⟩
      · rw [if_neg e] at hf ⊢
        exact ih l4 h4 k' j' d' hf
theorem ab_mpO_ok {ν νe : Nat → Int} {n n0 ne : Nat} {b : ab_D} (hb : ab_bi n b) (he : ab_ext (ab_bv ν b) νe n0) {h : eg_H} (l : ab_O) : ∀ l' : ab_O, ab_vo νe ne l h → ab_mpO b n0 n l = some l' → ab_vo (ab_nu ν νe n n0) (n + (ne - n0)) l' h := by
  induction l with
  | nil =>
    intro l' hs hm
    cases hm
    exact fun k j d hf => by cases hf
  | cons q l ih =>
    obtain ⟨k, j, d⟩ := q
    intro l' hs hm
    simp only [ab_mpO] at hm
    split at hm
    next => cases hm
    next q hq =>
      obtain ⟨l2, h1, rfl⟩ := eg_map_v hm
      intro k' j' d' hf
      rw [ab_find_cons] at hf
      by_cases e : k = k'
      · rw [if_pos e] at hf
        cases hf
        obtain ⟨x, g1, g2, g3⟩ := hs k j d (by rw [ab_find_cons, if_pos rfl])
        obtain ⟨m1, m2⟩ := ab_mp_ok hb he g2 hq
        rw [← e]
        exact ⟨x, g1, m1, by simp only at m2; rw [m2]; exact g3⟩
      · rw [if_neg e] at hf
        have := ab_mpO_find (b := b) (n0 := n0) (n := n) l
        obtain ⟨j0, d0, g1, g2⟩ := this l2 h1 k' j' d' hf
        obtain ⟨x, g3, g4, g5⟩ := hs k' j0 d0 (by rw [ab_find_cons, if_neg e]; exact g1)
        obtain ⟨m1, m2⟩ := ab_mp_ok hb he g4 g2
        exact ⟨x, g3, m1, by simp only at m2; rw [m2]; exact g5⟩
theorem ab_mpE_ok {ν νe : Nat → Int} {n n0 ne : Nat} {b : ab_D} (hb : ab_bi n b) (he : ab_ext (ab_bv ν b) νe n0) (h0 : ab_nu ν νe n n0 0 = 0) {en : ab_E} (hen : ab_e (ab_nu ν νe n n0) (n + (ne - n0)) en) (l : ab_E) : ∀ R, (∀ j B, (j, B) ∈ l → ab_be νe ne j B) → ab_mpE b n0 n l en = some R → ∃ en', R = [en'] ∧ ab_e (ab_nu ν νe n n0) (n + (ne - n0)) en' := by
  induction l with
  | nil =>
    intro R hs h
    cases h
    exact ⟨en, rfl, hen⟩
  | cons q l ih =>
    obtain ⟨j, lo, hi, z, r⟩ := q
    intro R hs h
    simp only [ab_mpE] at h
    have hB := hs j _ List.mem_cons_self
    split at h
    next => cases h
    next hq =>
      obtain ⟨en', e, -⟩ := ih _ (fun j B hm => hs j B (List.mem_cons_of_mem _ hm)) hq
      cases e
    next en1 q1 hq =>
      obtain ⟨en', e, h1⟩ := ih _ (fun j B hm => hs j B (List.mem_cons_of_mem _ hm)) hq
      cases e
      obtain ⟨b1, b2, b3, b4, b5⟩ := hB
      simp only at b2 b3 b4 b5
      rcases ab_blt (a := j) (b := n0) with ⟨h2, h3⟩ | ⟨h2, h3⟩
      · rw [h2] at h
        simp only at h
        split at h
        next j' d' hf =>
          have h4 := he j h3
          rw [ab_bv_v hf] at h4
          have h5 : j' < n := hb j _ hf
          have h6 : ab_nu ν νe n n0 j' = ν j' := ab_nu_ext j' h5
          simp only at h4
          obtain ⟨e1, g1, g2⟩ := ab_lb_v h1 h0 (j := j') (v := lo - d') (by omega)
          rw [g1] at h
          simp only at h
          obtain ⟨e2, g3, g4⟩ := ab_ub_v g2 h0 (j := j') (v := hi - d') (by omega)
          rw [g3] at h
          cases h
          exact ⟨e2, rfl, g4⟩
        next => cases h
      · rw [h2] at h
        simp only at h
        have hnu : ab_nu ν νe n n0 (n + (j - n0)) = νe j := by
          unfold ab_nu
          rw [if_neg (by omega), show n + (j - n0) - n + n0 = j by omega]
        split at h
        next =>
          simp only [ab_fn_eq] at h
          cases h
          exact ⟨_, rfl, h1.cons ⟨by omega, by rw [hnu]; exact b2, by rw [hnu]; exact b3, by rw [hnu]; exact b4, fun b r e => by cases e⟩⟩
        next p s =>
          split at h
          next => cases h
          next q2 hq2 =>
            simp only [ab_fn_eq] at h
            cases h
            obtain ⟨g1, g2⟩ := b5 p s rfl
            obtain ⟨m1, m2⟩ := ab_mp_ok hb he g1 hq2
            refine ⟨_, rfl, h1.cons ⟨by omega, by rw [hnu]; exact b2, by rw [hnu]; exact b3, by rw [hnu]; exact b4, fun b' r' e => ?_⟩⟩
            simp only at e
            cases e
            exact ⟨m1, by rw [hnu]; simp only at m2; omega⟩
theorem ab_find_app {α : Type} {k : Nat} {l l2 : List (Nat × α)} : eg_find k (ab_app l l2) = match eg_find k l with
  | some v => some v
  | none => eg_find k l2 := by
  induction l with
  | nil => rfl
  | cons q l ih =>
    obtain ⟨a, w⟩ := q
    unfold ab_app
    rw [ab_find_cons, ab_find_cons]
    by_cases e : a = k
    · rw [if_pos e, if_pos e]
    · rw [if_neg e, if_neg e]
      exact ih
theorem ab_kill_ok {M : ab_M} {key : Nat} {ov : ab_O} {q : Nat × Int} (h : eg_find key (ab_kill M ov) = some q) : eg_find key ov = some q ∧ ab_inr M (key / 1024) (key % 1024) (key % 1024) = false := by
  induction M generalizing ov with
  | nil => exact ⟨h, rfl⟩
  | cons m M ih =>
    obtain ⟨a, f, t⟩ := m
    simp only [ab_kill] at h
    obtain ⟨h1, h2⟩ := ih h
    obtain ⟨h3, h4⟩ := ab_find_filk (fun _ _ _ => rfl) h1
    refine ⟨h4, ?_⟩
    simp only [ab_inr]
    cases hc : (Nat.beq (key / 1024) a && Nat.ble f (key % 1024) && Nat.ble (key % 1024) t) with
    | false => exact h2
    | true =>
      exfalso
      have c1 := Bool.and_eq_true_iff.mp hc
      have c2 := Bool.and_eq_true_iff.mp c1.1
      have c3 := Nat.eq_of_beq_eq_true c2.1
      have c4 := Nat.le_of_ble_eq_true c2.2
      have c5 := Nat.le_of_ble_eq_true c1.2
      unfold ab_out ab_key at h3
      rcases Bool.or_eq_true_iff.mp h3 with e | e
      · have := Nat.blt_eq.mp e; simp only at this; omega
      · have := Nat.blt_eq.mp e; simp only at this; omega
theorem ab_subM_ok {M Mq : ab_M} (h : ab_subM M Mq = true) {a k : Nat} (hk : ab_inr M a k k = false) : ab_inr Mq a k k = false := by
  induction Mq with
  | nil => rfl
  | cons m l ih =>
    obtain ⟨b, f, t⟩ := m
    have h1 := Bool.and_eq_true_iff.mp h
    simp only [ab_inr]
    cases hc : (Nat.beq a b && Nat.ble f k && Nat.ble k t) with
    | false => exact ih h1.2
    | true =>
      exfalso
      have c1 := Bool.and_eq_true_iff.mp hc
      have c2 := Bool.and_eq_true_iff.mp c1.1
      obtain rfl := Nat.eq_of_beq_eq_true c2.1
      have := ab_inr_v h1.1 (Nat.le_of_ble_eq_true c2.2) (Nat.le_of_ble_eq_true c1.2)
      rw [hk] at this
      cases this
theorem ab_ins_ok {L : Nat} {ν νe : Nat → Int} {σ : ab_S} {ls ls' : eg_L} {st st' : List Value} {h h' : eg_H} {b : ab_D} {n0 : Nat} {Mq : ab_M} {e : Nat × ab_S} {R : List (Nat × ab_S)} (hr : ab_r L ν σ ls st h) (hb : ab_bi σ.1 b) (hx : ab_ext (ab_bv ν b) νe n0) (hre : ab_r L νe e.2 ls' st' h') (hn0 : n0 ≤ e.2.1) (hnd : ab_nd e.2.2.1 = true) (hfr : ab_fr Mq h' h) (hi : ab_ins b n0 Mq σ e = some R) : ∃ e', R = [e'] ∧ e'.1 = e.1 ∧ σ.1 ≤ e'.2.1 ∧ ab_r L (ab_nu ν νe σ.1 n0) e'.2 ls' st' h' := by
  obtain ⟨n, en, la, sa, ov⟩ := σ
  obtain ⟨pc, ne, ene, lse, ste, ove⟩ := e
  obtain ⟨hbs, he, hl, hs, ho, hh⟩ := hr
  obtain ⟨kbs, ke, kl, ks, ko, kh⟩ := hre
  simp only at hb hn0 hnd hbs he ho kbs ke kl ks ko
  have hext := ab_nu_ext (ν := ν) (νe := νe) (n := n) (n0 := n0)
  have hbase := ab_base (n' := n + (ne - n0)) hbs hext (by omega)
  simp only [ab_ins] at hi
  split at hi
  next => cases hi
  next l1 h1 =>
    split at hi
    next => cases hi
    next s1 h2 =>
      split at hi
      next => cases hi
      next o1 h3 =>
        have hE : ∀ R, ab_mpE b n0 n ene en = some R → _ := fun R hR => ab_mpE_ok hb hx hbase.2.1 (he.up hext (Nat.le_add_right n (ne - n0))) ene R (fun j B hm => ke j B (ab_find_nd hnd hm)) hR
        split at hi
        next => cases hi
        next hq =>
          obtain ⟨en', e1, -⟩ := hE _ hq
          cases e1
        next en1 q1 hq =>
          obtain ⟨en', e1, g1⟩ := hE _ hq
          cases e1
          simp only [ab_fn_eq] at hi
          cases hi
          refine ⟨_, rfl, rfl, Nat.le_add_right _ _, hbase, g1, ab_mpL_ok hb hx lse l1 kl h1, ab_mpS_ok hb hx ste s1 st' ks h2, ?_, kh⟩
          intro key j d hf
          have hf : eg_find key (ab_app o1 (ab_kill Mq ov)) = some (j, d) := hf
          rw [ab_find_app] at hf
          cases hf1 : eg_find key o1 with
          | some q =>
            rw [hf1] at hf
            cases hf
            exact ab_mpO_ok hb hx ove o1 ko h3 key j d hf1
          | none =>
            rw [hf1] at hf
            simp only at hf
            obtain ⟨g2, g3⟩ := ab_kill_ok hf
            rw [hfr _ _ g3]
            obtain ⟨x, k1, k2, k3⟩ := ho key j d g2
            exact ⟨x, k1, by simp only; omega, by rw [hext j k2]; exact k3⟩
theorem ab_app_eq {α : Type} (l k : List α) : ab_app l k = l ++ k := by
  induction l with
  | nil => rfl
  | cons a l ih => simp [ab_app, ih]
theorem ab_cc_ok {α β : Type} {g : α → Option (List β)} {l : List α} {L : List β} (h : ab_cc g l = some L) {a : α} (ha : a ∈ l) : ∃ x, g a = some x ∧ ∀ b ∈ x, b ∈ L := by
  induction l generalizing L with
  | nil => cases ha
  | cons c l ih =>
    simp only [ab_cc] at h
    split at h
    next => cases h
    next x hx =>
      split at h
      next => cases h
      next y hy =>
        cases h
        rw [ab_app_eq]
        rcases List.mem_cons.mp ha with e | e
        · rw [e]
          exact ⟨x, hx, fun b hb => List.mem_append_left _ hb⟩
        · obtain ⟨z, g1, g2⟩ := ih hy e
          exact ⟨z, g1, fun b hb => List.mem_append_right _ (g2 b hb)⟩
theorem ab_b0_bi {n : Nat} (h : 2 ≤ n) : ab_bi n ab_b0 := fun p x hx => by
  unfold ab_b0 at hx
  rw [ab_find_cons] at hx
  by_cases e : 0 = p
  · rw [if_pos e] at hx; cases hx; simp only; omega
  · rw [if_neg e, ab_find_cons] at hx
    by_cases e1 : 1 = p
    · rw [if_pos e1] at hx; cases hx; simp only; omega
    · rw [if_neg e1] at hx; cases hx
/-- what has grown, or shrunk -/
def ab_rk (q : ab_Q) (ν νc : Nat → Int) : Prop := match q.2.2.2.2.2.2.2 with
  | none => False
  | some (p, .ofNat _) => ν p + 1 ≤ νc p
  | some (p, .negSucc _) => νc p + 1 ≤ ν p
theorem ab_use_ok {sc : List Value} {sp : Nat} {M : ab_M} {rk : Bool} {q : ab_Q} {dp dq : Nat} {ν : Nat → Int} {σ : ab_S} {ls : eg_L} {st : List Value} {h : eg_H} {R : List (Nat × ab_S)} (hu : ab_use M rk q dp σ = some R) (hr : ab_r sc.length ν σ ls st h) (hd : dp ≤ dq) (hP : 2 ≤ q.2.2.2.2.1.1) (hends : ∀ e ∈ q.2.2.2.2.2.2.1, ab_nd e.2.2.1 = true ∧ q.2.2.2.2.1.1 ≤ e.2.1) (hrp : rk = true → ∀ p w, q.2.2.2.2.2.2.2 = some (p, w) → p < σ.1)
    (htr : ∀ νc, q.2.2.2.1 ≤ dq → ab_r sc.length νc q.2.2.2.2.1 ls st h → (rk = true → ab_rk q ν νc) → ab_co sc sp q.2.2.2.2.2.1 q.1 q.2.1 dq q.2.2.1 νc q.2.2.2.2.1.1 ls st h q.2.2.2.2.2.2.1) : ab_co sc sp M q.1 q.2.1 dq q.2.2.1 ν σ.1 ls st h R := by
  obtain ⟨u, o, pc, need, P, Mq, ends, rank⟩ := q
  simp only at hP hends htr hrp ⊢
  simp only [ab_use] at hu
  split at hu
  next => cases hu
  next σ1 he1 =>
    obtain ⟨ν1, hr1, hx1, hn1⟩ := ab_ens_ok _ σ σ1 he1 ν hr
    split at hu
    next => cases hu
    next b hm =>
      split at hu
      next => cases hu
      next hc =>
        have c1 := Bool.and_eq_true_iff.mp hc
        have c2 := Bool.and_eq_true_iff.mp c1.1
        have hneed := Nat.le_of_ble_eq_true c2.1
        obtain ⟨m1, m2, m3⟩ := ab_mat_ok hr1 (ab_b0_bi hr1.1.1) rfl rfl hP hm
        have hrk : rk = true → ab_rk (u, o, pc, need, P, Mq, ends, rank) ν (ab_bv ν1 b) := fun e => by
          have c3 := c1.2
          rw [e] at c3
          simp only [cond_true] at c3
          unfold ab_rk
          simp only
          split at c3
          next => cases c3
          next p w =>
            have hpn := hrp e p w rfl
            split at c3
            next => cases c3
            next j d hf =>
              have hv := ab_bv_v (ν := ν1) hf
              simp only at hv
              have hp1 := hx1 p hpn
              split at c3
              next =>
                have := ab_geq_v hr1.2.1 hr1.1.2.1 16 c3
                simp only
                omega
              next =>
                have := ab_geq_v hr1.2.1 hr1.1.2.1 16 c3
                simp only
                omega
        obtain ⟨e, hem, νe, ls', st', h', g1, g2, g3, g4, g5⟩ := htr (ab_bv ν1 b) (Nat.le_trans hneed hd) m3 hrk
        obtain ⟨x, k1, k2⟩ := ab_cc_ok hu hem
        obtain ⟨e', rfl, k4, k5, k6⟩ := ab_ins_ok hr1 m1 g2 g1 g3 (hends e hem).1 g4 k1
        refine ⟨e', k2 e' List.mem_cons_self, _, ls', st', h', k6, hx1.tr ab_nu_ext hn1, Nat.le_trans hn1 k5, fun a k hk => g4 a k (ab_subM_ok c2.2 hk), ?_⟩
        rw [k4]
        exact g5
