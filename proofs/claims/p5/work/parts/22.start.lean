/-! what holds at the law's entry -/
def st_fl : List Cond := flatC (Cond.and given_1 narrow_1)
def st_tm : Term := .string RX8 52
theorem st_w4 : st_fl[4]? = some (.eq (.static "java/lang/String" "COMPACT_STRINGS" "Z") (.int 1)) := by decide +kernel
theorem st_w5 : st_fl[5]? = some (.isRef (.static "jdk/internal/util/Preconditions" "SIOOBE_FORMATTER" "Ljava/util/function/BiFunction;")) := by decide +kernel
theorem st_w23 : st_fl[23]? = some (.exactly st_tm "java/lang/String") := by decide +kernel
theorem st_w24 : st_fl[24]? = some (.eq (.field st_tm "java/lang/String" "coder" "B") (.int 0)) := by decide +kernel
theorem st_w25 : st_fl[25]? = some (.arrayOf (.field st_tm "java/lang/String" "value" "[B") .byte) := by decide +kernel
theorem st_w26 : st_fl[26]? = some (.eq (.length (.field st_tm "java/lang/String" "value" "[B")) (.int (Int32.ofNat eg_str.length))) := by decide +kernel
theorem st_el : ∀ j, j < 124 → st_fl[27 + j]? = some (.eq (.elem (.field st_tm "java/lang/String" "value" "[B") (.int (Int32.ofNat j))) (.int (eg_str.getD j 0))) := by decide +kernel
theorem st_len : eg_str.length = 124 := by decide +kernel
theorem st_ins {ci : Nat} {q : vw_C} (h : vwCl[ci]? = some q) : Cond.instantiable q.1 q.2.2 ∈ lw_tbl := by
  match ci, h with
  | 0, h => cases h; exact List.mem_of_getElem? (i := 540) (by decide +kernel)
  | 1, h => cases h; exact List.mem_of_getElem? (i := 272) (by decide +kernel)
  | 2, h => cases h; exact List.mem_of_getElem? (i := 394) (by decide +kernel)
  | 3, h => cases h; exact List.mem_of_getElem? (i := 484) (by decide +kernel)
  | 4, h => cases h; exact List.mem_of_getElem? (i := 503) (by decide +kernel)
  | 5, h => cases h; exact List.mem_of_getElem? (i := 577) (by decide +kernel)
  | 6, h => cases h; exact List.mem_of_getElem? (i := 599) (by decide +kernel)
  | 7, h => cases h; exact List.mem_of_getElem? (i := 152) (by decide +kernel)
  | 8, h => cases h; exact List.mem_of_getElem? (i := 169) (by decide +kernel)
  | 9, h => cases h; exact List.mem_of_getElem? (i := 435) (by decide +kernel)
  | 10, h => cases h; exact List.mem_of_getElem? (i := 144) (by decide +kernel)
  | 11, h => cases h; exact List.mem_of_getElem? (i := 1446) (by decide +kernel)
  | n + 12, h => simp [vwCl] at h
theorem st_ao1 : Cond.arrayOver (.object RX1) ∈ lw_tbl := List.mem_of_getElem? (i := 621) (by decide +kernel)
theorem st_ao9 : Cond.arrayOver (.object RX9) ∈ lw_tbl := List.mem_of_getElem? (i := 490) (by decide +kernel)
theorem st_ao5 : Cond.arrayOver (.object RX5) ∈ lw_tbl := List.mem_of_getElem? (i := 622) (by decide +kernel)
/-- arrays of numbers -/
theorem st_aN {args : Array Value} {s : State} {ty : FieldType} (h : (Cond.arrayClass ty).before args s = true) (hn : ∀ cA : ClassId, s.vm.findClass ("[" ++ ty.toString) = some cA → va_RA s cA ty) : ∃ cA : ClassId, ArrOfT s cA ty ∧ va_RA s cA ty := by
  obtain ⟨c, k, comp, h1, h2, h3⟩ := Cond.arrayClass_spec h
  exact ⟨c, fun N z => ⟨(fun k h => by cases h), k, h2, comp, h3⟩, hn c h1⟩
theorem st_aO {args : Array Value} {s : State} {C : String} (h : (Cond.arrayOver (.object C)).before args s = true) : ∃ cA : ClassId, ArrOfT s cA (.object C) ∧ va_RA s cA (.object C) := by
  obtain ⟨comp, c, k, h1, h2, h3, h4, h5⟩ := Cond.arrayOver_spec h
  exact ⟨c, fun N z => ⟨(fun k h => by cases h), k, h3, comp, h4⟩, k, comp, h3, h4, h1, h5⟩
theorem st_T {s : State} {b L : Nat} {xs : Nat → Int32} (hgv : (Jvm.Cond.and given_1 narrow_1).before #[Value.ref b] s = true) (hts : ∀ w ∈ lw_tbl, w.before #[Value.ref b] s = true) (hX : va_X b L xs s s.heap) (hbl : b < s.heap.size) : ∃ (ka kv : Nat) (D : va_G) (dT : Nat → ClassId), ∀ sc : List Value, sc.length = L → (∀ k v, eg_nth sc k = some v → eg_v (s.heap.size, b, ka, kv, xs) v (.int (xs k))) → eg_T (s.heap.size, b, ka, kv, xs) D dT sc s s.heap := by
  have hs : ∀ (i : Nat) (w : Cond), st_fl[i]? = some w → w.before #[Value.ref b] s = true := fun i w h => flat_of_before _ hgv w (List.mem_of_getElem? h)
  have hA : ∀ a : Nat, a < s.heap.size → ¬ (fun q : Nat => s.heap.size ≤ q) a := fun a h => Nat.not_le.mpr h
  obtain ⟨adK, adV, hS, hev⟩ := vk_Sof (args := #[Value.ref b]) (s := s) (N := 1) (tm := fun _ => st_tm) (len := [eg_str.length]) (byt := [eg_str]) (A := fun q : Nat => s.heap.size ≤ q)
    (fun i hi => by
      obtain rfl : i = 0 := by omega
      show eg_str.length < 2 ^ 31
      rw [st_len]; decide)
    (fun i hi => hs 23 _ st_w23) (fun i hi => hs 24 _ st_w24) (fun i hi => hs 25 _ st_w25)
    (fun i hi => by
      obtain rfl : i = 0 := by omega
      exact hs 26 _ st_w26)
    (fun i hi j hj => by
      obtain rfl : i = 0 := by omega
      have hj : j < 124 := by rw [← st_len]; exact hj
      exact hs (27 + j) _ (st_el j hj))
    (fun i j hi hj hne => absurd (by omega : i = j) hne) hA
  have hZ := va_Zof (A := fun q : Nat => s.heap.size ≤ q) (hts (.laysStatic "java/lang/String" "COMPACT_STRINGS" "Z") (List.mem_of_getElem? (i := 184) (by decide +kernel))) (hts (.initialized "java/lang/String") (List.mem_of_getElem? (i := 123) (by decide +kernel))) (va_eqt (hs 4 _ st_w4)) hA
  have hZq := va_Zqof (A := fun q : Nat => s.heap.size ≤ q) (hts (.laysStatic "jdk/internal/util/Preconditions" "SIOOBE_FORMATTER" "Ljava/util/function/BiFunction;") (List.mem_of_getElem? (i := 200) (by decide +kernel))) (hts (.initialized "jdk/internal/util/Preconditions") (List.mem_of_getElem? (i := 125) (by decide +kernel))) (hs 5 _ st_w5) hA
  have hR : vk_R RX8 52 eg_text (adK 0) s := vk_R.of (hts (.stringRef RX8 52 eg_text) (List.mem_of_getElem? (i := 174) (by decide +kernel))) (hev 0 (by decide))
  have hcl : ∀ ci : Nat, ∃ q : ClassId × (Nat → Nat), ∀ r : vw_C, vwCl[ci]? = some r → u_Kn s r.1 r.2.1 r.2.2 q.1 q.2 := by
    intro ci
    cases h : vwCl[ci]? with
    | none => exact ⟨(0, fun _ => 0), fun r hr => by cases hr⟩
    | some r =>
      obtain ⟨c, iS, hk⟩ := u_known (n := r.2.2) (fun w hw => hts w (List.mem_filter.mp hw).1) (eg_cl h).1 (hts _ (st_ins h))
      exact ⟨(c, iS), fun r' hr => by cases hr; exact hk⟩
  obtain ⟨dq, hdq⟩ := Classical.axiomOfChoice hcl
  obtain ⟨cI, hI⟩ := st_aN (hts _ (List.mem_filter.mp ww_aI).1) (fun _ h => h)
  obtain ⟨cJ, hJ⟩ := st_aN (hts _ (List.mem_filter.mp ww_aJ).1) (fun _ h => h)
  obtain ⟨cB, hB⟩ := st_aN (hts _ (List.mem_filter.mp ww_aB).1) (fun _ h => h)
  obtain ⟨cZ, hZz⟩ := st_aN (hts _ (List.mem_filter.mp ww_aZ).1) (fun _ h => h)
  obtain ⟨c4, h4⟩ := st_aO (hts _ st_ao1)
  obtain ⟨c5, h5⟩ := st_aO (hts _ st_ao9)
  obtain ⟨c6, h6⟩ := st_aO (hts _ st_ao5)
  refine ⟨adK 0, adV 0, (fun k => (dq k).1, fun k => (dq k).2), fun t => if t = 0 then cI else if t = 1 then cJ else if t = 2 then cB else if t = 3 then cZ else if t = 4 then c4 else if t = 5 then c5 else c6, fun sc hsc hv => ⟨⟨fun c q h => hdq c q h, fun k q hk => ?_⟩, fun a i y h hw => va_Nw.of rfl (hts _ hw), fun k hk q hq => ?_, hR, ?_, hZ, hZq, by rw [hsc]; exact hX, hbl, Nat.le_refl _, hv⟩⟩
  · match k, hk with
    | 0, hk => cases hk; exact hI
    | 1, hk => cases hk; exact hJ
    | 2, hk => cases hk; exact hB
    | 3, hk => cases hk; exact hZz
    | 4, hk => cases hk; exact h4
    | 5, hk => cases hk; exact h5
    | 6, hk => cases hk; exact h6
    | n + 7, hk => simp [eg_tyl] at hk
  · simp only [eg_AO, List.mem_cons, List.not_mem_nil, or_false] at hk
    rcases hk with rfl | rfl | rfl
    · cases hq; exact va_AO.of (hts _ st_ao1)
    · cases hq; exact va_AO.of (hts _ st_ao9)
    · cases hq; exact va_AO.of (hts _ st_ao5)
  · refine ⟨fun i hi => ?_, fun i j hi hj _ => by omega⟩
    obtain rfl : i = 0 := by omega
    exact hS.1 0 (by decide)
