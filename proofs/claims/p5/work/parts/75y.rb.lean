/-! BY HAND: the reference's steps over its tokens -/
theorem ci_1676_0 : ab_at 1676 0 (.aload_n 0) 1 = true := by decide +kernel
theorem ci_1676_1 : ab_at 1676 1 (.getfield 158) 3 = true := by decide +kernel
theorem ci_1676_4 : ab_at 1676 4 (.iconst 1) 1 = true := by decide +kernel
theorem ci_1676_5 : ab_at 1676 5 (.if_icmp .ne 16) 3 = true := by decide +kernel
theorem ci_1676_8 : ab_at 1676 8 (.aload_n 0) 1 = true := by decide +kernel
theorem ci_1676_9 : ab_at 1676 9 (.getfield 171) 3 = true := by decide +kernel
theorem ci_1676_12 : ab_at 1676 12 (.lload_n 1) 1 = true := by decide +kernel
theorem ci_1676_13 : ab_at 1676 13 (.lcmp) 1 = true := by decide +kernel
theorem ci_1676_14 : ab_at 1676 14 (.ifCond .ne 7) 3 = true := by decide +kernel
theorem ci_1676_17 : ab_at 1676 17 (.iconst 1) 1 = true := by decide +kernel
theorem ci_1676_18 : ab_at 1676 18 (.goto 4) 3 = true := by decide +kernel
theorem ci_1676_21 : ab_at 1676 21 (.iconst 0) 1 = true := by decide +kernel
theorem ci_1687_0 : ab_at 1687 0 (.aload_n 0) 1 = true := by decide +kernel
theorem ci_1687_1 : ab_at 1687 1 (.iload_n 1) 1 = true := by decide +kernel
theorem ci_1687_2 : ab_at 1687 2 (.putfield 175) 3 = true := by decide +kernel
theorem ci_1687_5 : ab_at 1687 5 (.aload_n 0) 1 = true := by decide +kernel
theorem ci_1687_6 : ab_at 1687 6 (.aload_n 0) 1 = true := by decide +kernel
theorem ci_1687_7 : ab_at 1687 7 (.getfield 152) 3 = true := by decide +kernel
theorem ci_1687_10 : ab_at 1687 10 (.putfield 178) 3 = true := by decide +kernel
theorem ci_1687_13 : ab_at 1687 13 (.iconst 0) 1 = true := by decide +kernel
theorem ci_1691_0 : ab_at 1691 0 (.aload_n 0) 1 = true := by decide +kernel
theorem ci_1691_1 : ab_at 1691 1 (.iload_n 2) 1 = true := by decide +kernel
theorem ci_1691_2 : ab_at 1691 2 (.iload_n 3) 1 = true := by decide +kernel
theorem ci_1691_3 : ab_at 1691 3 (.invokevirtual 197) 3 = true := by decide +kernel
theorem ci_1691_6 : ab_at 1691 6 (.ifCond .ne 5) 3 = true := by decide +kernel
theorem ci_1691_9 : ab_at 1691 9 (.iconst 0) 1 = true := by decide +kernel
theorem ci_1691_11 : ab_at 1691 11 (.aload_n 0) 1 = true := by decide +kernel
theorem ci_1691_12 : ab_at 1691 12 (.getfield 37) 3 = true := by decide +kernel
theorem ci_1691_15 : ab_at 1691 15 (.iload_n 1) 1 = true := by decide +kernel
theorem ci_1691_16 : ab_at 1691 16 (.aload_n 0) 1 = true := by decide +kernel
theorem ci_1691_17 : ab_at 1691 17 (.getfield 194) 3 = true := by decide +kernel
theorem ci_1691_20 : ab_at 1691 20 (.iastore) 1 = true := by decide +kernel
theorem ci_1691_21 : ab_at 1691 21 (.iconst 1) 1 = true := by decide +kernel
theorem ci_1695_0 : ab_at 1695 0 (.aload_n 0) 1 = true := by decide +kernel
theorem ci_1695_1 : ab_at 1695 1 (.getfield 158) 3 = true := by decide +kernel
theorem ci_1695_4 : ab_at 1695 4 (.iconst 2) 1 = true := by decide +kernel
theorem ci_1695_5 : ab_at 1695 5 (.if_icmp .eq 9) 3 = true := by decide +kernel
theorem ci_1695_8 : ab_at 1695 8 (.aload_n 0) 1 = true := by decide +kernel
theorem ci_1695_9 : ab_at 1695 9 (.iconst 1) 1 = true := by decide +kernel
theorem ci_1695_10 : ab_at 1695 10 (.invokevirtual 184) 3 = true := by decide +kernel
theorem ci_1695_14 : ab_at 1695 14 (.aload_n 0) 1 = true := by decide +kernel
theorem ci_1695_15 : ab_at 1695 15 (.getfield 168) 3 = true := by decide +kernel
theorem ci_1695_18 : ab_at 1695 18 (.iload_n 1) 1 = true := by decide +kernel
theorem ci_1695_19 : ab_at 1695 19 (.iload_n 2) 1 = true := by decide +kernel
theorem ci_1695_20 : ab_at 1695 20 (.invokestatic 190) 3 = true := by decide +kernel
theorem ci_1695_23 : ab_at 1695 23 (.ifCond .ne 9) 3 = true := by decide +kernel
theorem ci_1695_26 : ab_at 1695 26 (.aload_n 0) 1 = true := by decide +kernel
theorem ci_1695_27 : ab_at 1695 27 (.iconst 2) 1 = true := by decide +kernel
theorem ci_1695_28 : ab_at 1695 28 (.invokevirtual 184) 3 = true := by decide +kernel
theorem ci_1695_32 : ab_at 1695 32 (.aload_n 0) 1 = true := by decide +kernel
theorem ci_1695_33 : ab_at 1695 33 (.aload_n 0) 1 = true := by decide +kernel
theorem ci_1695_34 : ab_at 1695 34 (.getfield 168) 3 = true := by decide +kernel
theorem ci_1695_37 : ab_at 1695 37 (.putfield 194) 3 = true := by decide +kernel
theorem ci_1695_40 : ab_at 1695 40 (.aload_n 0) 1 = true := by decide +kernel
theorem ci_1695_41 : ab_at 1695 41 (.invokevirtual 187) 3 = true := by decide +kernel
theorem ci_1695_44 : ab_at 1695 44 (.iconst 1) 1 = true := by decide +kernel
theorem ci_1706_0 : ab_at 1706 0 (.aload_n 0) 1 = true := by decide +kernel
theorem ci_1706_1 : ab_at 1706 1 (.getfield 158) 3 = true := by decide +kernel
theorem ci_1706_4 : ab_at 1706 4 (.iconst 1) 1 = true := by decide +kernel
theorem ci_1706_5 : ab_at 1706 5 (.if_icmp .ne 7) 3 = true := by decide +kernel
theorem ci_1706_8 : ab_at 1706 8 (.iconst 1) 1 = true := by decide +kernel
theorem ci_1706_9 : ab_at 1706 9 (.goto 4) 3 = true := by decide +kernel
theorem ci_1706_12 : ab_at 1706 12 (.iconst 0) 1 = true := by decide +kernel
theorem ci_1706_13 : ab_at 1706 13 (.istore_n 1) 1 = true := by decide +kernel
theorem ci_1706_14 : ab_at 1706 14 (.iconst 0) 1 = true := by decide +kernel
theorem ci_1706_15 : ab_at 1706 15 (.istore_n 2) 1 = true := by decide +kernel
theorem ci_1706_16 : ab_at 1706 16 (.iload_n 2) 1 = true := by decide +kernel
theorem ci_1706_17 : ab_at 1706 17 (.bipush 23) 2 = true := by decide +kernel
theorem ci_1706_19 : ab_at 1706 19 (.if_icmp .ge 33) 3 = true := by decide +kernel
theorem ci_1706_22 : ab_at 1706 22 (.iload_n 1) 1 = true := by decide +kernel
theorem ci_1706_23 : ab_at 1706 23 (.ifCond .eq 21) 3 = true := by decide +kernel
theorem ci_1706_26 : ab_at 1706 26 (.aload_n 0) 1 = true := by decide +kernel
theorem ci_1706_27 : ab_at 1706 27 (.getfield 171) 3 = true := by decide +kernel
theorem ci_1706_30 : ab_at 1706 30 (.aload_n 0) 1 = true := by decide +kernel
theorem ci_1706_31 : ab_at 1706 31 (.getfield 47) 3 = true := by decide +kernel
theorem ci_1706_34 : ab_at 1706 34 (.iload_n 2) 1 = true := by decide +kernel
theorem ci_1706_35 : ab_at 1706 35 (.laload) 1 = true := by decide +kernel
theorem ci_1706_36 : ab_at 1706 36 (.lcmp) 1 = true := by decide +kernel
theorem ci_1706_37 : ab_at 1706 37 (.ifCond .eq 7) 3 = true := by decide +kernel
theorem ci_1706_40 : ab_at 1706 40 (.iconst 1) 1 = true := by decide +kernel
theorem ci_1706_41 : ab_at 1706 41 (.goto 4) 3 = true := by decide +kernel
theorem ci_1706_44 : ab_at 1706 44 (.iconst 0) 1 = true := by decide +kernel
theorem ci_1706_45 : ab_at 1706 45 (.istore_n 1) 1 = true := by decide +kernel
theorem ci_1706_46 : ab_at 1706 46 (.iinc 2 1) 3 = true := by decide +kernel
theorem ci_1706_49 : ab_at 1706 49 (.goto (-33)) 3 = true := by decide +kernel
theorem ci_1706_52 : ab_at 1706 52 (.iload_n 1) 1 = true := by decide +kernel
theorem ci_1710_0 : ab_at 1710 0 (.iconst 0) 1 = true := by decide +kernel
theorem ci_1710_1 : ab_at 1710 1 (.istore_n 3) 1 = true := by decide +kernel
theorem ci_1710_2 : ab_at 1710 2 (.iload_n 3) 1 = true := by decide +kernel
theorem ci_1710_3 : ab_at 1710 3 (.iload_n 2) 1 = true := by decide +kernel
theorem ci_1710_4 : ab_at 1710 4 (.if_icmp .ge 27) 3 = true := by decide +kernel
theorem ci_1710_7 : ab_at 1710 7 (.aload_n 0) 1 = true := by decide +kernel
theorem ci_1710_8 : ab_at 1710 8 (.getfield 43) 3 = true := by decide +kernel
theorem ci_1710_11 : ab_at 1710 11 (.iload_n 1) 1 = true := by decide +kernel
theorem ci_1710_12 : ab_at 1710 12 (.iload_n 3) 1 = true := by decide +kernel
theorem ci_1710_13 : ab_at 1710 13 (.iadd) 1 = true := by decide +kernel
theorem ci_1710_14 : ab_at 1710 14 (.laload) 1 = true := by decide +kernel
theorem ci_1710_15 : ab_at 1710 15 (.aload_n 0) 1 = true := by decide +kernel
theorem ci_1710_16 : ab_at 1710 16 (.getfield 171) 3 = true := by decide +kernel
theorem ci_1710_19 : ab_at 1710 19 (.lcmp) 1 = true := by decide +kernel
theorem ci_1710_20 : ab_at 1710 20 (.ifCond .ne 5) 3 = true := by decide +kernel
theorem ci_1710_23 : ab_at 1710 23 (.iload_n 3) 1 = true := by decide +kernel
theorem ci_1710_25 : ab_at 1710 25 (.iinc 3 1) 3 = true := by decide +kernel
theorem ci_1710_28 : ab_at 1710 28 (.goto (-26)) 3 = true := by decide +kernel
theorem ci_1710_31 : ab_at 1710 31 (.iconst (-1)) 1 = true := by decide +kernel
theorem ci_1734_0 : ab_at 1734 0 (.aload_n 0) 1 = true := by decide +kernel
theorem ci_1734_1 : ab_at 1734 1 (.iload_n 1) 1 = true := by decide +kernel
theorem ci_1734_2 : ab_at 1734 2 (.invokevirtual 181) 3 = true := by decide +kernel
theorem ci_1734_5 : ab_at 1734 5 (.ifCond .ne 9) 3 = true := by decide +kernel
theorem ci_1734_8 : ab_at 1734 8 (.aload_n 0) 1 = true := by decide +kernel
theorem ci_1734_9 : ab_at 1734 9 (.iconst 1) 1 = true := by decide +kernel
theorem ci_1734_10 : ab_at 1734 10 (.invokevirtual 184) 3 = true := by decide +kernel
theorem ci_1734_14 : ab_at 1734 14 (.aload_n 0) 1 = true := by decide +kernel
theorem ci_1734_15 : ab_at 1734 15 (.invokevirtual 187) 3 = true := by decide +kernel
theorem ci_1734_18 : ab_at 1734 18 (.iconst 1) 1 = true := by decide +kernel
theorem ci_1738_0 : ab_at 1738 0 (.aload_n 0) 1 = true := by decide +kernel
theorem ci_1738_1 : ab_at 1738 1 (.getfield 158) 3 = true := by decide +kernel
theorem ci_1738_4 : ab_at 1738 4 (.iconst 3) 1 = true := by decide +kernel
theorem ci_1738_5 : ab_at 1738 5 (.if_icmp .ne 15) 3 = true := by decide +kernel
theorem ci_1738_8 : ab_at 1738 8 (.aload_n 0) 1 = true := by decide +kernel
theorem ci_1738_9 : ab_at 1738 9 (.getfield 168) 3 = true := by decide +kernel
theorem ci_1738_12 : ab_at 1738 12 (.iload_n 1) 1 = true := by decide +kernel
theorem ci_1738_13 : ab_at 1738 13 (.if_icmp .ne 7) 3 = true := by decide +kernel
theorem ci_1738_16 : ab_at 1738 16 (.iconst 1) 1 = true := by decide +kernel
theorem ci_1738_17 : ab_at 1738 17 (.goto 4) 3 = true := by decide +kernel
theorem ci_1738_20 : ab_at 1738 20 (.iconst 0) 1 = true := by decide +kernel
/-- where the reference is in a text: the token ahead is the j-th -/
def rt (B : Nat → Int) (n lim : Nat) (tk : Nat → tx_K) (ta P : Nat → Nat) (h : eg_H) (j : Nat) : Prop := bM h = B ∧ (hv h 182 3).toInt = (n : Int) ∧ (hv h 182 5).toInt = (lim : Int) ∧ P (j + 1) ≤ n ∧ rs_M h (tk j) (ta j) (P (j + 1))
def TS (B : Nat → Int) (n lim : Nat) (tk : Nat → tx_K) (ta P : Nat → Nat) : Prop := ∀ t, tx_X B n lim (P t) (tk t) (ta t) (P (t + 1))
theorem rs_M.same {h h' : eg_H} {t : tx_K} {a p : Nat} (c : rs_M h t a p) (e12 : hv h' 182 12 = hv h 182 12) (e4 : hv h' 182 4 = hv h 182 4) (e11 : hv h' 182 11 = hv h 182 11) (e14 : hv h' 182 14 = hv h 182 14) (e17 : hl h' 182 17 = hl h 182 17) : rs_M h' t a p := by
  unfold rs_M at c ⊢
  rw [e12, e4, e11, e14, e17]
  exact c
theorem rs_k {h : eg_H} {t : tx_K} {a p : Nat} (c : rs_M h t a p) : ((hv h 182 11).toInt = 0 ↔ t.1 = 0) ∧ ((hv h 182 11).toInt = 2 ↔ t.1 = 3) ∧ ((hv h 182 11).toInt = 3 ↔ t.1 = 2) ∧ ((hv h 182 11).toInt = 1 ↔ 4 ≤ t.1) ∧ (t.1 = 3 → (hv h 182 14).toInt = t.2.1) ∧ (t.1 = 2 → (hv h 182 14).toInt = t.2.1) ∧ (4 ≤ t.1 → (hl h 182 17).toInt = t.2.2 ∧ tx_co t.2.1 t.2.2) := by
  obtain ⟨-, -, c2⟩ := c
  obtain ⟨n, x, y⟩ := t
  match n, c2 with
  | 0, c2 =>
    have c2 : (hv h 182 11).toInt = 0 := c2
    simp only
    refine ⟨⟨fun _ => trivial, fun _ => c2⟩, by omega, by omega, by omega, by omega, by omega, by omega⟩
  | 1, c2 =>
    have c2 : (hv h 182 11).toInt = 4 := c2
    simp only
    refine ⟨by omega, by omega, by omega, by omega, by omega, by omega, by omega⟩
  | 2, c2 =>
    have c3 : (hv h 182 11).toInt = 3 := c2.1
    have c4 : (hv h 182 14).toInt = x := c2.2
    simp only
    refine ⟨by omega, by omega, ⟨fun _ => trivial, fun _ => c3⟩, by omega, by omega, fun _ => c4, by omega⟩
  | 3, c2 =>
    have c3 : (hv h 182 11).toInt = 2 := c2.1
    have c4 : (hv h 182 14).toInt = x := c2.2
    simp only
    refine ⟨by omega, ⟨fun _ => trivial, fun _ => c3⟩, by omega, by omega, fun _ => c4, by omega, by omega⟩
  | n + 4, c2 =>
    have c3 : (hv h 182 11).toInt = 1 := c2.1
    simp only
    refine ⟨by omega, by omega, by omega, by omega, by omega, by omega, fun _ => c2.2⟩
theorem rt.fr {B : Nat → Int} {n lim : Nat} {tk : Nat → tx_K} {ta P : Nat → Nat} {h h' : eg_H} {j : Nat} (r : rt B n lim tk ta P h j) {M : ab_M} (f : ab_fr M h' h) (k : ∀ q, ab_inr M 183 q q = false) (k2 : ab_inr M 182 3 3 = false ∧ ab_inr M 182 4 4 = false ∧ ab_inr M 182 5 5 = false ∧ ab_inr M 182 11 11 = false ∧ ab_inr M 182 12 12 = false ∧ ab_inr M 182 14 14 = false ∧ ab_inr M 182 17 17 = false) : rt B n lim tk ta P h' j := by
  obtain ⟨r1, r2, r3, r4, r5⟩ := r
  obtain ⟨k3, k4, k5, k11, k12, k14, k17⟩ := k2
  refine ⟨?_, by rw [hv_same (f 182 3 k3)]; exact r2, by rw [hv_same (f 182 5 k5)]; exact r3, r4, r5.same (hv_same (f 182 12 k12)) (hv_same (f 182 4 k4)) (hv_same (f 182 11 k11)) (hv_same (f 182 14 k14)) (hl_same (f 182 17 k17))⟩
  rw [← r1]
  exact funext (fun q => by unfold bM; rw [hv_same (f 183 q (k q))])
/-- the words kept back, as the reference has them -/
def rw27 : List Int := [237307, 9518, 6465242723, 1831769, 4085956, 10502473, 220610, 38567165, 3546724, 8935760650, 2968, 423, 1111, 10631, 283288069, 122079, 10506715, 276903499, 79, 555, 394725, 400557, 212302449]
def rw256 : List Int := [1818324580, 7168366, 31651020294157157, 427020088168, 444301539187, 495874699885, 1801810036, 108243635103086, 440005911908, 33602674774664548, 6578553, 28530, 6385252, 7237492, 126943688025203, 1717922924, 495875091824, 126892147762532, 25209, 29807, 1952541804, 1953066092, 121450625394034]
def rwok (h : eg_H) : Prop := ∀ j : Nat, j < 23 → (hl h 188 j).toInt = rw256.getD j 0
theorem rwok.fr {M : ab_M} {h h' : eg_H} (k : rwok h) (f : ab_fr M h' h) (c : ∀ j, ab_inr M 188 j j = false) : rwok h' := fun j hj => by rw [hl_same (f 188 j (c j))]; exact k j hj
theorem wco_mk {a b : Int} (B : Nat → Int) (k : Nat) (h1 : 1 ≤ k) (h2 : k ≤ 7) (h3 : ∀ j, j < k → 97 ≤ B (0 + j) ∧ B (0 + j) ≤ 122) (h4 : a = tx_27 B 0 k) (h5 : b = tx_256 B 0 k) : tx_co a b := ⟨B, 0, k, h1, h2, h3, h4, h5⟩
theorem wco_0 : tx_co (237307) (1818324580) := wco_mk (fun i => [(108 : Int), (97 : Int), (110 : Int), (100 : Int)].getD i 0) 4 (by decide) (by decide) (by decide) (by decide +kernel) (by decide +kernel)
theorem wco_1 : tx_co (9518) (7168366) := wco_mk (fun i => [(109 : Int), (97 : Int), (110 : Int)].getD i 0) 3 (by decide) (by decide) (by decide) (by decide +kernel) (by decide +kernel)
theorem wco_2 : tx_co (6465242723) (31651020294157157) := wco_mk (fun i => [(112 : Int), (114 : Int), (111 : Int), (109 : Int), (105 : Int), (115 : Int), (101 : Int)].getD i 0) 7 (by decide) (by decide) (by decide) (by decide +kernel) (by decide +kernel)
theorem wco_3 : tx_co (1831769) (427020088168) := wco_mk (fun i => [(99 : Int), (108 : Int), (97 : Int), (115 : Int), (104 : Int)].getD i 0) 5 (by decide) (by decide) (by decide) (by decide +kernel) (by decide +kernel)
theorem wco_4 : tx_co (4085956) (444301539187) := wco_mk (fun i => [(103 : Int), (114 : Int), (111 : Int), (119 : Int), (115 : Int)].getD i 0) 5 (by decide) (by decide) (by decide) (by decide +kernel) (by decide +kernel)
theorem wco_5 : tx_co (10502473) (495874699885) := wco_mk (fun i => [(115 : Int), (116 : Int), (111 : Int), (114 : Int), (109 : Int)].getD i 0) 5 (by decide) (by decide) (by decide) (by decide +kernel) (by decide +kernel)
theorem wco_6 : tx_co (220610) (1801810036) := wco_mk (fun i => [(107 : Int), (101 : Int), (112 : Int), (116 : Int)].getD i 0) 4 (by decide) (by decide) (by decide) (by decide +kernel) (by decide +kernel)
theorem wco_7 : tx_co (38567165) (108243635103086) := wco_mk (fun i => [(98 : Int), (114 : Int), (111 : Int), (107 : Int), (101 : Int), (110 : Int)].getD i 0) 6 (by decide) (by decide) (by decide) (by decide +kernel) (by decide +kernel)
theorem wco_8 : tx_co (3546724) (440005911908) := wco_mk (fun i => [(102 : Int), (114 : Int), (101 : Int), (101 : Int), (100 : Int)].getD i 0) 5 (by decide) (by decide) (by decide) (by decide +kernel) (by decide +kernel)
theorem wco_9 : tx_co (8935760650) (33602674774664548) := wco_mk (fun i => [(119 : Int), (97 : Int), (116 : Int), (101 : Int), (114 : Int), (101 : Int), (100 : Int)].getD i 0) 7 (by decide) (by decide) (by decide) (by decide +kernel) (by decide +kernel)
theorem wco_10 : tx_co (2968) (6578553) := wco_mk (fun i => [(100 : Int), (97 : Int), (121 : Int)].getD i 0) 3 (by decide) (by decide) (by decide) (by decide +kernel) (by decide +kernel)
theorem wco_11 : tx_co (423) (28530) := wco_mk (fun i => [(111 : Int), (114 : Int)].getD i 0) 2 (by decide) (by decide) (by decide) (by decide +kernel) (by decide +kernel)
theorem wco_12 : tx_co (1111) (6385252) := wco_mk (fun i => [(97 : Int), (110 : Int), (100 : Int)].getD i 0) 3 (by decide) (by decide) (by decide) (by decide +kernel) (by decide +kernel)
theorem wco_13 : tx_co (10631) (7237492) := wco_mk (fun i => [(110 : Int), (111 : Int), (116 : Int)].getD i 0) 3 (by decide) (by decide) (by decide) (by decide +kernel) (by decide +kernel)
theorem wco_14 : tx_co (283288069) (126943688025203) := wco_mk (fun i => [(115 : Int), (116 : Int), (97 : Int), (110 : Int), (100 : Int), (115 : Int)].getD i 0) 6 (by decide) (by decide) (by decide) (by decide +kernel) (by decide +kernel)
theorem wco_15 : tx_co (122079) (1717922924) := wco_mk (fun i => [(102 : Int), (101 : Int), (108 : Int), (108 : Int)].getD i 0) 4 (by decide) (by decide) (by decide) (by decide +kernel) (by decide +kernel)
theorem wco_16 : tx_co (10506715) (495875091824) := wco_mk (fun i => [(115 : Int), (116 : Int), (117 : Int), (109 : Int), (112 : Int)].getD i 0) 5 (by decide) (by decide) (by decide) (by decide +kernel) (by decide +kernel)
theorem wco_17 : tx_co (276903499) (126892147762532) := wco_mk (fun i => [(115 : Int), (104 : Int), (97 : Int), (100 : Int), (101 : Int), (100 : Int)].getD i 0) 6 (by decide) (by decide) (by decide) (by decide +kernel) (by decide +kernel)
theorem wco_18 : tx_co (79) (25209) := wco_mk (fun i => [(98 : Int), (121 : Int)].getD i 0) 2 (by decide) (by decide) (by decide) (by decide +kernel) (by decide +kernel)
theorem wco_19 : tx_co (555) (29807) := wco_mk (fun i => [(116 : Int), (111 : Int)].getD i 0) 2 (by decide) (by decide) (by decide) (by decide +kernel) (by decide +kernel)
theorem wco_20 : tx_co (394725) (1952541804) := wco_mk (fun i => [(116 : Int), (97 : Int), (108 : Int), (108 : Int)].getD i 0) 4 (by decide) (by decide) (by decide) (by decide +kernel) (by decide +kernel)
theorem wco_21 : tx_co (400557) (1953066092) := wco_mk (fun i => [(116 : Int), (105 : Int), (108 : Int), (108 : Int)].getD i 0) 4 (by decide) (by decide) (by decide) (by decide +kernel) (by decide +kernel)
theorem wco_22 : tx_co (212302449) (121450625394034) := wco_mk (fun i => [(110 : Int), (117 : Int), (109 : Int), (98 : Int), (101 : Int), (114 : Int)].getD i 0) 6 (by decide) (by decide) (by decide) (by decide +kernel) (by decide +kernel)
theorem wco_all : ∀ j : Nat, j < 23 → tx_co (rw27.getD j 0) (rw256.getD j 0)
  | 0, _ => wco_0
  | 1, _ => wco_1
  | 2, _ => wco_2
  | 3, _ => wco_3
  | 4, _ => wco_4
  | 5, _ => wco_5
  | 6, _ => wco_6
  | 7, _ => wco_7
  | 8, _ => wco_8
  | 9, _ => wco_9
  | 10, _ => wco_10
  | 11, _ => wco_11
  | 12, _ => wco_12
  | 13, _ => wco_13
  | 14, _ => wco_14
  | 15, _ => wco_15
  | 16, _ => wco_16
  | 17, _ => wco_17
  | 18, _ => wco_18
  | 19, _ => wco_19
  | 20, _ => wco_20
  | 21, _ => wco_21
  | 22, _ => wco_22
  | n + 23, h => absurd h (by omega)
theorem kw_rw1 : ∀ j, j < 23 → ∃ k, k < 23 ∧ kwv.getD j 0 = rw27.getD k 0 := by decide +kernel
theorem kw_rw2 : ∀ j, j < 23 → ∃ k, k < 23 ∧ rw27.getD j 0 = kwv.getD k 0 := by decide +kernel
theorem isnm_rw {a b : Int} (h : tx_co a b) : isnm a ↔ ∀ j : Nat, j < 23 → rw256.getD j 0 ≠ b := by
  constructor
  · intro g j hj e
    obtain ⟨k, k1, k2⟩ := kw_rw2 j hj
    exact g k k1 (by rw [← k2]; exact (tx_co_one (wco_all j hj) h).mpr e)
  · intro g j hj e
    obtain ⟨k, k1, k2⟩ := kw_rw1 j hj
    exact g k k1 ((tx_co_one (wco_all k k1) h).mp (by rw [← k2]; exact e))
def flm (h : eg_H) (k : Int) (a : Nat) : Prop := (hv h 182 15).toInt = k ∧ (hv h 182 16).toInt = (a : Int)
section RF
variable {B : Nat → Int} {n lim : Nat} {tk : Nat → tx_K} {ta P : Nat → Nat} {sc : List Value} {sp d : Nat} {h : eg_H} {j : Nat}
theorem m_next (ts : TS B n lim tk ta P) (hq : ab_hp h) (hr : rt B n lim tk ta P h j) : mc sc sp 1658 11 (d + 1) [.ref 182] h (fun vo h' => vo = none ∧ ab_hp h' ∧ ab_fr MNX h' h ∧ rt B n lim tk ta P h' (j + 1)) := by
  obtain ⟨r1, r2, r3, r4, r5⟩ := hr
  have e4 := r5.2.1
  refine mc.mono (k_next hq (by omega)) ?_
  rintro vo h' ⟨e, q', f', t, a, p', hx, hp', hs⟩
  have e1 : (hv h 182 4).toInt.toNat = P (j + 1) := by omega
  have e2 : nN h = n := by
    show (hv h 182 3).toInt.toNat = n
    omega
  have e3 : nL h = lim := by
    show (hv h 182 5).toInt.toNat = lim
    omega
  rw [r1, e1, e2, e3] at hx
  rw [e2] at hp'
  obtain ⟨g1, g2, g3⟩ := tx_X_one hx (ts (j + 1))
  subst g1
  subst g2
  subst g3
  exact ⟨e, q', f', by rw [bM_fr f']; exact r1, by rw [nN_fr f']; exact r2, by rw [nL_fr f']; exact r3, hp', hs⟩
abbrev MBD : ab_M := [(182, 15, 16)]
/-- told as a fault -/
def bd_P (h : eg_H) (k : Int) (a : Nat) (vo : Option Value) (h' : eg_H) : Prop := ∃ r : Int32, vo = some (.int r) ∧ r.toInt = 0 ∧ ab_hp h' ∧ ab_fr MBD h' h ∧ flm h' k a
theorem m_bad (x : Int32) (_hx : 0 ≤ x.toInt ∧ x.toInt ≤ 4) (hq : ab_hp h) (hr : rt B n lim tk ta P h j) : mc sc sp 1687 11 d [.ref 182, .int x] h (bd_P h x.toInt (ta j)) := by
  have l0 : eg_find 0 (eg_args 0 [.ref 182, .int x]) = some (.ref 182) := rfl
  have l1 : eg_find 1 (eg_args 0 [.ref 182, .int x]) = some (.int x) := rfl
  have hp := hq.1
  unfold mc
  refine hs_aload_n ci_1687_0 l0 ?_
  refine hs_iload_n ci_1687_1 l1 ?_
  refine hs_pfi 15 (-2147483648) (2147483647) ci_1687_2 (by decide +kernel) hp (ab_ige _) (ab_ile _) ?_
  intro h2 w2
  replace hp := w2.1
  refine hs_aload_n ci_1687_5 l0 ?_
  refine hs_aload_n ci_1687_6 l0 ?_
  refine hs_gfi 12 ci_1687_7 (by decide +kernel) hp ?_
  refine hs_pfi 16 (-2147483648) (2147483647) ci_1687_10 (by decide +kernel) hp (ab_ige _) (ab_ile _) ?_
  intro h10 w10
  replace hp := w10.1
  refine hs_iconst ci_1687_13 ?_
  have f10 : ab_fr MBD h10 h := (w10.fr (M := MBD) rfl).tr (w2.fr (M := MBD) rfl)
  refine hs_k ⟨3, some (.int (Int32.ofInt 0)), by decide +kernel, by decide +kernel, Int32.ofInt 0, rfl, by decide, ⟨hp, hq.2.fr (M := MBD) (by decide +kernel) f10⟩, f10, ?_, ?_⟩
  · rw [w10.v, if_neg (by omega), w2.v, if_pos ⟨rfl, rfl⟩]
  · rw [w10.v, if_pos ⟨rfl, rfl⟩, w2.v, if_neg (by omega)]
    exact hr.2.2.2.2.1
def iw_P (h : eg_H) (q : Prop) (vo : Option Value) (h' : eg_H) : Prop := h' = h ∧ ∃ r : Int32, vo = some (.int r) ∧ ((r.toInt = 1 ∧ q) ∨ (r.toInt = 0 ∧ ¬ q))
theorem m_isW (w : Int64) (hq : ab_hp h) (hr : rt B n lim tk ta P h j) : mc sc sp 1676 11 d [.ref 182, .long w] h (iw_P h (4 ≤ (tk j).1 ∧ (tk j).2.2 = w.toInt)) := by
  have l0 : eg_find 0 (eg_args 0 [.ref 182, .long w]) = some (.ref 182) := rfl
  have l1 : eg_find 1 (eg_args 0 [.ref 182, .long w]) = some (.long w) := rfl
  have hp := hq.1
  obtain ⟨k0, k3, k2, k4, -, -, kw⟩ := rs_k hr.2.2.2.2
  unfold mc
  refine hs_aload_n ci_1676_0 l0 ?_
  refine hs_gfi 11 ci_1676_1 (by decide +kernel) hp ?_
  refine hs_iconst ci_1676_4 ?_
  refine hs_ic (t := 21) ci_1676_5 rfl (fun b5 => ?_) (fun b5 => ?_)
  · simp only [hs_cd, ab_not, kI_1] at b5
    refine hs_iconst ci_1676_21 ?_
    refine hs_k ⟨3, some (.int (Int32.ofInt 0)), by decide +kernel, by decide +kernel, rfl, _, rfl, Or.inr ⟨by decide, ?_⟩⟩
    intro g
    have := k4.mpr g.1
    omega
  · simp only [hs_cd, ab_not, kI_1] at b5
    refine hs_aload_n ci_1676_8 l0 ?_
    refine hs_gfl 17 ci_1676_9 (by decide +kernel) hp ?_
    refine hs_lload_n ci_1676_12 l1 ?_
    refine hs_lcmp ci_1676_13 (fun z13 q13 => ?_)
    refine hs_if (t := 21) ci_1676_14 rfl (fun b14 => ?_) (fun b14 => ?_)
    · simp only [hs_cd, ab_not] at b14
      refine hs_iconst ci_1676_21 ?_
      refine hs_k ⟨3, some (.int (Int32.ofInt 0)), by decide +kernel, by decide +kernel, rfl, _, rfl, Or.inr ⟨by decide, ?_⟩⟩
      intro g
      have g2 := (kw g.1).1
      rcases q13 with ⟨q1, q2⟩ | ⟨q1, q2⟩ | ⟨q1, q2⟩
      · omega
      · omega
      · omega
    · simp only [hs_cd, ab_not] at b14
      refine hs_iconst ci_1676_17 ?_
      refine hs_goto (t := 22) ci_1676_18 rfl ?_
      refine hs_k ⟨3, some (.int (Int32.ofInt 1)), by decide +kernel, by decide +kernel, rfl, _, rfl, Or.inl ⟨by decide, k4.mp b5, ?_⟩⟩
      rcases q13 with ⟨q1, q2⟩ | ⟨q1, q2⟩ | ⟨q1, q2⟩
      · omega
      · rw [← (kw (k4.mp b5)).1, q2]
      · omega
theorem m_isG (x : Int32) (hq : ab_hp h) (hr : rt B n lim tk ta P h j) : mc sc sp 1738 11 d [.ref 182, .int x] h (iw_P h ((tk j).1 = 2 ∧ (tk j).2.1 = x.toInt)) := by
  have l0 : eg_find 0 (eg_args 0 [.ref 182, .int x]) = some (.ref 182) := rfl
  have l1 : eg_find 1 (eg_args 0 [.ref 182, .int x]) = some (.int x) := rfl
  have hp := hq.1
  obtain ⟨k0, k3, k2, k4, -, kv, -⟩ := rs_k hr.2.2.2.2
  unfold mc
  refine hs_aload_n ci_1738_0 l0 ?_
  refine hs_gfi 11 ci_1738_1 (by decide +kernel) hp ?_
  refine hs_iconst ci_1738_4 ?_
  refine hs_ic (t := 20) ci_1738_5 rfl (fun b5 => ?_) (fun b5 => ?_)
  · simp only [hs_cd, ab_not, kI_3] at b5
    refine hs_iconst ci_1738_20 ?_
    refine hs_k ⟨3, some (.int (Int32.ofInt 0)), by decide +kernel, by decide +kernel, rfl, _, rfl, Or.inr ⟨by decide, ?_⟩⟩
    intro g
    have := k2.mpr g.1
    omega
  · simp only [hs_cd, ab_not, kI_3] at b5
    refine hs_aload_n ci_1738_8 l0 ?_
    refine hs_gfi 14 ci_1738_9 (by decide +kernel) hp ?_
    refine hs_iload_n ci_1738_12 l1 ?_
    refine hs_ic (t := 20) ci_1738_13 rfl (fun b13 => ?_) (fun b13 => ?_)
    · simp only [hs_cd, ab_not] at b13
      refine hs_iconst ci_1738_20 ?_
      refine hs_k ⟨3, some (.int (Int32.ofInt 0)), by decide +kernel, by decide +kernel, rfl, _, rfl, Or.inr ⟨by decide, ?_⟩⟩
      intro g
      have := kv g.1
      omega
    · simp only [hs_cd, ab_not] at b13
      refine hs_iconst ci_1738_16 ?_
      refine hs_goto (t := 21) ci_1738_17 rfl ?_
      exact hs_k ⟨3, some (.int (Int32.ofInt 1)), by decide +kernel, by decide +kernel, rfl, _, rfl, Or.inl ⟨by decide, k2.mp b5, by rw [← kv (k2.mp b5)]; exact b13⟩⟩
abbrev MSG : ab_M := [(182, 4, 4), (182, 11, 17)]
def sg_P (B : Nat → Int) (n lim : Nat) (tk : Nat → tx_K) (ta P : Nat → Nat) (h : eg_H) (j : Nat) (vo : Option Value) (h' : eg_H) : Prop := ab_hp h' ∧ ab_fr MSG h' h ∧ ∃ r : Int32, vo = some (.int r) ∧ ((r.toInt = 1 ∧ ((tk j).1 = 2 ∧ (tk j).2.1 = 59) ∧ rt B n lim tk ta P h' (j + 1)) ∨ (r.toInt = 0 ∧ ¬ ((tk j).1 = 2 ∧ (tk j).2.1 = 59) ∧ flm h' 1 (ta j)))
theorem m_sign {x : Int32} (hx : x.toInt = 59) (ts : TS B n lim tk ta P) (hq : ab_hp h) (hr : rt B n lim tk ta P h j) : mc sc sp 1734 11 (d + 1 + 1) [.ref 182, .int x] h (sg_P B n lim tk ta P h j) := by
  have l0 : eg_find 0 (eg_args 0 [.ref 182, .int x]) = some (.ref 182) := rfl
  have l1 : eg_find 1 (eg_args 0 [.ref 182, .int x]) = some (.int x) := rfl
  have hp := hq.1
  unfold mc
  refine hs_aload_n ci_1734_0 l0 ?_
  refine hs_iload_n ci_1734_1 l1 ?_
  refine hs_cv 1738 11 1 ci_1734_2 (by decide +kernel) (by decide +kernel) hp rfl (by rw [ml_1738]; rfl) (m_isG x hq hr) ?_
  rintro v9 h9 ⟨e9, rA, e8, hrA⟩
  rw [e8, e9]
  clear e8 e9 v9 h9
  rw [hx] at hrA
  simp only [Option.toList, List.cons_append, List.nil_append]
  refine hs_if (t := 14) ci_1734_5 rfl (fun b5 => ?_) (fun b5 => ?_)
  · simp only [hs_cd, ab_not] at b5
    refine hs_aload_n ci_1734_14 l0 ?_
    refine hs_cv 1658 11 0 ci_1734_15 (by decide +kernel) (by decide +kernel) hp rfl (by rw [ml_1658]; rfl) (m_next ts hq hr) ?_
    rintro v9 hB ⟨e8, qB, fB, rB⟩
    rw [e8]
    clear e8 v9
    replace hp := qB.1
    simp only [Option.toList, List.nil_append]
    refine hs_iconst ci_1734_18 ?_
    rcases hrA with ⟨y1, y2⟩ | ⟨y1, -⟩
    · exact hs_k ⟨3, some (.int (Int32.ofInt 1)), by decide +kernel, by decide +kernel, qB, fr_sub (by decide +kernel) fB, _, rfl, Or.inl ⟨by decide, y2, rB⟩⟩
    · omega
  · simp only [hs_cd, ab_not] at b5
    refine hs_aload_n ci_1734_8 l0 ?_
    refine hs_iconst ci_1734_9 ?_
    refine hs_cv 1687 11 1 ci_1734_10 (by decide +kernel) (by decide +kernel) hp rfl (by rw [ml_1687]; rfl) (m_bad (Int32.ofInt 1) (by decide) hq hr) ?_
    rintro v9 h2 ⟨r2, e8, hr2, q2, f2, g2⟩
    rw [e8]
    clear e8 v9
    replace hp := q2.1
    simp only [Option.toList, List.cons_append, List.nil_append]
    rcases hrA with ⟨y1, -⟩ | ⟨y1, y2⟩
    · omega
    · exact hs_k ⟨3, some (.int r2), by decide +kernel, rv_b rt_1734 (Or.inl hr2), q2, fr_sub (by decide +kernel) f2, _, rfl, Or.inr ⟨hr2, y2, by rw [kI_1] at g2; exact g2⟩⟩
theorem rt_1706 : (eg_md 1706).2.2.2 = some .boolean := by decide +kernel
theorem nm_loop (hq : ab_hp h) (hw : rwok h) (hr : rt B n lim tk ta P h j) : ∀ (m k : Nat) (x y : Int32) (ls : eg_L), k + m = 23 → x.toInt = (k : Int) → eg_find 0 ls = some (.ref 182) → eg_find 1 ls = some (.int y) → eg_find 2 ls = some (.int x) → ((y.toInt = 1 ∧ 4 ≤ (tk j).1 ∧ ∀ q : Nat, q < k → rw256.getD q 0 ≠ (tk j).2.2) ∨ (y.toInt = 0 ∧ ¬ (4 ≤ (tk j).1 ∧ ∀ q : Nat, q < k → rw256.getD q 0 ≠ (tk j).2.2))) → hs sc sp 1706 11 d (fun pc' _ st' h' => ∃ ik vo, ab_ret 1706 pc' = some ik ∧ eg_rv (eg_md 1706).2.2.2 ik st' = some vo ∧ iw_P h (4 ≤ (tk j).1 ∧ isnm (tk j).2.1) vo h') 16 ls [] h := by
  have hp := hq.1
  obtain ⟨k0, k3, k2, k4, -, -, kw⟩ := rs_k hr.2.2.2.2
  intro m
  induction m with
  | zero =>
    intro k x y ls hk hx l0 l1 l2 hy
    have hk : k = 23 := by omega
    subst hk
    refine hs_iload_n ci_1706_16 l2 ?_
    refine hs_bipush ci_1706_17 ?_
    refine hs_ic (t := 52) ci_1706_19 rfl (fun b19 => ?_) (fun b19 => ?_)
    · simp only [hs_cd, ab_not, kB_23] at b19
      refine hs_iload_n ci_1706_52 l1 ?_
      refine hs_k ⟨3, some (.int y), by decide +kernel, rv_b rt_1706 (by omega), rfl, y, rfl, ?_⟩
      rcases hy with ⟨y1, y2, y3⟩ | ⟨y1, y2⟩
      · exact Or.inl ⟨y1, y2, (isnm_rw (kw y2).2).mpr y3⟩
      · exact Or.inr ⟨y1, fun g => y2 ⟨g.1, (isnm_rw (kw g.1).2).mp g.2⟩⟩
    · simp only [hs_cd, ab_not, kB_23] at b19
      omega
  | succ m ih =>
    intro k x y ls hk hx l0 l1 l2 hy
    refine hs_iload_n ci_1706_16 l2 ?_
    refine hs_bipush ci_1706_17 ?_
    refine hs_ic (t := 52) ci_1706_19 rfl (fun b19 => ?_) (fun b19 => ?_)
    · simp only [hs_cd, ab_not, kB_23] at b19
      omega
    · simp only [hs_cd, ab_not, kB_23] at b19
      refine hs_iload_n ci_1706_22 l1 ?_
      refine hs_if (t := 44) ci_1706_23 rfl (fun b23 => ?_) (fun b23 => ?_)
      · simp only [hs_cd, ab_not] at b23
        refine hs_iconst ci_1706_44 ?_
        refine hs_istore2_n ci_1706_45 (by decide +kernel) ?_
        intro ls9 q9
        replace l0 := q9.2 0 _ (by decide) (Or.inl rfl) l0
        replace l2 := q9.2 2 _ (by decide) (Or.inl rfl) l2
        have l1 := q9.1
        clear q9
        refine hs_iinc2 ci_1706_46 (by decide +kernel) l2 ?_
        intro ls9 q9
        replace l0 := q9.2 0 _ (by decide) (Or.inl rfl) l0
        replace l1 := q9.2 1 _ (by decide) (Or.inl rfl) l1
        have l2 := q9.1
        clear q9
        refine hs_goto (t := 16) ci_1706_49 rfl ?_
        refine ih (k + 1) _ _ _ (by omega) (i32_inc hx (by omega) (by omega)) l0 l1 l2 ?_
        rcases hy with ⟨y1, -⟩ | ⟨y1, y2⟩
        · omega
        · exact Or.inr ⟨kI_0, fun g => y2 ⟨g.1, fun q hq => g.2 q (by omega)⟩⟩
      · simp only [hs_cd, ab_not] at b23
        refine hs_aload_n ci_1706_26 l0 ?_
        refine hs_gfl 17 ci_1706_27 (by decide +kernel) hp ?_
        refine hs_aload_n ci_1706_30 l0 ?_
        refine hs_gfr 10 188 ci_1706_31 (by decide +kernel) hp ?_
        refine hs_iload_n ci_1706_34 l2 ?_
        refine hs_laload 23 ci_1706_35 (by decide +kernel) hp (by omega) (by omega) ?_
        refine hs_lcmp ci_1706_36 (fun z36 q36 => ?_)
        refine hs_if (t := 44) ci_1706_37 rfl (fun b37 => ?_) (fun b37 => ?_)
        · simp only [hs_cd, ab_not] at b37
          refine hs_iconst ci_1706_44 ?_
          refine hs_istore2_n ci_1706_45 (by decide +kernel) ?_
          intro ls9 q9
          replace l0 := q9.2 0 _ (by decide) (Or.inl rfl) l0
          replace l2 := q9.2 2 _ (by decide) (Or.inl rfl) l2
          have l1 := q9.1
          clear q9
          refine hs_iinc2 ci_1706_46 (by decide +kernel) l2 ?_
          intro ls9 q9
          replace l0 := q9.2 0 _ (by decide) (Or.inl rfl) l0
          replace l1 := q9.2 1 _ (by decide) (Or.inl rfl) l1
          have l2 := q9.1
          clear q9
          refine hs_goto (t := 16) ci_1706_49 rfl ?_
          have e9 : x.toInt.toNat = k := by omega
          rw [e9] at q36
          refine ih (k + 1) _ _ _ (by omega) (i32_inc hx (by omega) (by omega)) l0 l1 l2 ?_
          refine Or.inr ⟨kI_0, fun g => g.2 k (by omega) ?_⟩
          rw [← hw k (by omega), ← (kw g.1).1]
          rcases q36 with ⟨q1, -⟩ | ⟨-, q2⟩ | ⟨q1, -⟩
          · omega
          · rw [q2]
          · omega
        · simp only [hs_cd, ab_not] at b37
          refine hs_iconst ci_1706_40 ?_
          refine hs_goto (t := 45) ci_1706_41 rfl ?_
          refine hs_istore2_n ci_1706_45 (by decide +kernel) ?_
          intro ls9 q9
          replace l0 := q9.2 0 _ (by decide) (Or.inl rfl) l0
          replace l2 := q9.2 2 _ (by decide) (Or.inl rfl) l2
          have l1 := q9.1
          clear q9
          refine hs_iinc2 ci_1706_46 (by decide +kernel) l2 ?_
          intro ls9 q9
          replace l0 := q9.2 0 _ (by decide) (Or.inl rfl) l0
          replace l1 := q9.2 1 _ (by decide) (Or.inl rfl) l1
          have l2 := q9.1
          clear q9
          refine hs_goto (t := 16) ci_1706_49 rfl ?_
          have e9 : x.toInt.toNat = k := by omega
          rw [e9] at q36
          refine ih (k + 1) _ _ _ (by omega) (i32_inc hx (by omega) (by omega)) l0 l1 l2 ?_
          rcases hy with ⟨y1, y2, y3⟩ | ⟨y1, -⟩
          · refine Or.inl ⟨kI_1, y2, fun q hq => ?_⟩
            by_cases e : q = k
            · subst e
              rw [← hw q (by omega), ← (kw y2).1]
              rcases q36 with ⟨-, q1⟩ | ⟨q1, -⟩ | ⟨-, q1⟩
              · omega
              · omega
              · omega
            · exact y3 q (by omega)
          · omega
theorem m_isN (hq : ab_hp h) (hw : rwok h) (hr : rt B n lim tk ta P h j) : mc sc sp 1706 11 d [.ref 182] h (iw_P h (4 ≤ (tk j).1 ∧ isnm (tk j).2.1)) := by
  have l0 : eg_find 0 (eg_args 0 [.ref 182]) = some (.ref 182) := rfl
  have hp := hq.1
  obtain ⟨k0, k3, k2, k4, -, -, kw⟩ := rs_k hr.2.2.2.2
  unfold mc
  refine hs_aload_n ci_1706_0 l0 ?_
  refine hs_gfi 11 ci_1706_1 (by decide +kernel) hp ?_
  refine hs_iconst ci_1706_4 ?_
  refine hs_ic (t := 12) ci_1706_5 rfl (fun b5 => ?_) (fun b5 => ?_)
  · simp only [hs_cd, ab_not, kI_1] at b5
    refine hs_iconst ci_1706_12 ?_
    refine hs_istore2_n ci_1706_13 (by decide +kernel) ?_
    intro ls9 q9
    replace l0 := q9.2 0 _ (by decide) (Or.inl rfl) l0
    have l1 := q9.1
    clear q9
    refine hs_iconst ci_1706_14 ?_
    refine hs_istore2_n ci_1706_15 (by decide +kernel) ?_
    intro ls9 q9
    replace l0 := q9.2 0 _ (by decide) (Or.inl rfl) l0
    replace l1 := q9.2 1 _ (by decide) (Or.inl rfl) l1
    have l2 := q9.1
    clear q9
    refine nm_loop hq hw hr 23 0 _ _ _ rfl kI_0 l0 l1 l2 (Or.inr ⟨kI_0, fun g => b5 (k4.mpr g.1)⟩)
  · simp only [hs_cd, ab_not, kI_1] at b5
    refine hs_iconst ci_1706_8 ?_
    refine hs_goto (t := 13) ci_1706_9 rfl ?_
    refine hs_istore2_n ci_1706_13 (by decide +kernel) ?_
    intro ls9 q9
    replace l0 := q9.2 0 _ (by decide) (Or.inl rfl) l0
    have l1 := q9.1
    clear q9
    refine hs_iconst ci_1706_14 ?_
    refine hs_istore2_n ci_1706_15 (by decide +kernel) ?_
    intro ls9 q9
    replace l0 := q9.2 0 _ (by decide) (Or.inl rfl) l0
    replace l1 := q9.2 1 _ (by decide) (Or.inl rfl) l1
    have l2 := q9.1
    clear q9
    refine nm_loop hq hw hr 23 0 _ _ _ rfl kI_0 l0 l1 l2 (Or.inl ⟨kI_1, k4.mp b5, fun q hq => by omega⟩)
theorem m_isI (v a b : Int32) : mc sc sp 1698 11 d [.int v, .int a, .int b] h (iw_P h (a.toInt ≤ v.toInt ∧ v.toInt ≤ b.toInt)) := by
  have l0 : eg_find 0 (eg_args 0 [.int v, .int a, .int b]) = some (.int v) := rfl
  have l1 : eg_find 1 (eg_args 0 [.int v, .int a, .int b]) = some (.int a) := rfl
  have l2 : eg_find 2 (eg_args 0 [.int v, .int a, .int b]) = some (.int b) := rfl
  unfold mc
  refine hs_iload_n ci_1698_0 l0 ?_
  refine hs_iload_n ci_1698_1 l1 ?_
  refine hs_ic (t := 14) ci_1698_2 rfl (fun b2 => ?_) (fun b2 => ?_)
  · simp only [hs_cd, ab_not] at b2
    refine hs_iconst ci_1698_14 ?_
    exact hs_k ⟨3, some (.int (Int32.ofInt 0)), by decide +kernel, by decide +kernel, rfl, _, rfl, Or.inr ⟨by decide, by omega⟩⟩
  · simp only [hs_cd, ab_not] at b2
    refine hs_iload_n ci_1698_5 l0 ?_
    refine hs_iload_n ci_1698_6 l2 ?_
    refine hs_ic (t := 14) ci_1698_7 rfl (fun b7 => ?_) (fun b7 => ?_)
    · simp only [hs_cd, ab_not] at b7
      refine hs_iconst ci_1698_14 ?_
      exact hs_k ⟨3, some (.int (Int32.ofInt 0)), by decide +kernel, by decide +kernel, rfl, _, rfl, Or.inr ⟨by decide, by omega⟩⟩
    · simp only [hs_cd, ab_not] at b7
      refine hs_iconst ci_1698_10 ?_
      refine hs_goto (t := 15) ci_1698_11 rfl ?_
      exact hs_k ⟨3, some (.int (Int32.ofInt 1)), by decide +kernel, by decide +kernel, rfl, _, rfl, Or.inl ⟨by decide, by omega⟩⟩
theorem m_bit (v : Int32) {x : Int32} {k : Nat} (hx : x.toInt = (k : Int)) (hk : k < 32) : mc sc sp 1683 11 d [.int v, .int x] h (iw_P h (fb v k = true)) := by
  have l0 : eg_find 0 (eg_args 0 [.int v, .int x]) = some (.int v) := rfl
  have l1 : eg_find 1 (eg_args 0 [.int v, .int x]) = some (.int x) := rfl
  have e9 := fb_bit (a := v) hx hk
  unfold ft_bit at e9
  unfold mc
  refine hs_iload_n ci_1683_0 l0 ?_
  refine hs_iload_n ci_1683_1 l1 ?_
  refine hs_ishr ci_1683_2 ?_
  refine hs_iconst ci_1683_3 ?_
  refine hs_iand ci_1683_4 ?_
  refine hs_iconst ci_1683_5 ?_
  refine hs_ic (t := 13) ci_1683_6 rfl (fun b6 => ?_) (fun b6 => ?_)
  · simp only [hs_cd] at b6
    refine hs_iconst ci_1683_13 ?_
    exact hs_k ⟨3, some (.int (Int32.ofInt 0)), by decide +kernel, by decide +kernel, rfl, _, rfl, Or.inr ⟨by decide, fun g => b6 (e9.mpr g)⟩⟩
  · simp only [hs_cd, ab_not] at b6
    refine hs_iconst ci_1683_9 ?_
    refine hs_goto (t := 14) ci_1683_10 rfl ?_
    exact hs_k ⟨3, some (.int (Int32.ofInt 1)), by decide +kernel, by decide +kernel, rfl, _, rfl, Or.inl ⟨by decide, e9.mp b6⟩⟩
abbrev MTN : ab_M := [(182, 4, 4), (182, 11, 18)]
def tk_P (B : Nat → Int) (n lim : Nat) (tk : Nat → tx_K) (ta P : Nat → Nat) (h : eg_H) (j : Nat) (lo hi : Int) (vo : Option Value) (h' : eg_H) : Prop := ab_hp h' ∧ ab_fr MTN h' h ∧ ∃ r : Int32, vo = some (.int r) ∧ ((∃ v, sp_num (tk j) (ta j) lo hi = .inr v ∧ r.toInt = 1 ∧ (hv h' 182 18).toInt = v ∧ rt B n lim tk ta P h' (j + 1)) ∨ (∃ k a, sp_num (tk j) (ta j) lo hi = .inl (k, a) ∧ r.toInt = 0 ∧ flm h' k a))
theorem m_takes (x y : Int32) (ts : TS B n lim tk ta P) (hq : ab_hp h) (hr : rt B n lim tk ta P h j) : mc sc sp 1695 11 (d + 1 + 1) [.ref 182, .int x, .int y] h (tk_P B n lim tk ta P h j x.toInt y.toInt) := by
  have l0 : eg_find 0 (eg_args 0 [.ref 182, .int x, .int y]) = some (.ref 182) := rfl
  have l1 : eg_find 1 (eg_args 0 [.ref 182, .int x, .int y]) = some (.int x) := rfl
  have l2 : eg_find 2 (eg_args 0 [.ref 182, .int x, .int y]) = some (.int y) := rfl
  have hp := hq.1
  obtain ⟨k0, k3, k2, k4, kv, -, -⟩ := rs_k hr.2.2.2.2
  unfold mc
  refine hs_aload_n ci_1695_0 l0 ?_
  refine hs_gfi 11 ci_1695_1 (by decide +kernel) hp ?_
  refine hs_iconst ci_1695_4 ?_
  refine hs_ic (t := 14) ci_1695_5 rfl (fun b5 => ?_) (fun b5 => ?_)
  · simp only [hs_cd, ab_not, kI_2] at b5
    refine hs_aload_n ci_1695_14 l0 ?_
    refine hs_gfi 14 ci_1695_15 (by decide +kernel) hp ?_
    refine hs_iload_n ci_1695_18 l1 ?_
    refine hs_iload_n ci_1695_19 l2 ?_
    refine hs_cs 1698 11 3 ci_1695_20 (by decide +kernel) rfl (by rw [ml_1698]; rfl) (m_isI (hv h 182 14) x y) ?_
    rintro v9 h9 ⟨e9, rA, e8, hrA⟩
    rw [e8, e9]
    clear e8 e9 v9 h9
    rw [kv (k3.mp b5)] at hrA
    simp only [Option.toList, List.cons_append, List.nil_append]
    refine hs_if (t := 32) ci_1695_23 rfl (fun b23 => ?_) (fun b23 => ?_)
    · simp only [hs_cd, ab_not] at b23
      refine hs_aload_n ci_1695_32 l0 ?_
      refine hs_aload_n ci_1695_33 l0 ?_
      refine hs_gfi 14 ci_1695_34 (by decide +kernel) hp ?_
      refine hs_pfi 18 (-2147483648) (2147483647) ci_1695_37 (by decide +kernel) hp (ab_ige _) (ab_ile _) ?_
      intro h37 w37
      replace hp := w37.1
      have f37 : ab_fr [(182, 18, 18)] h37 h := w37.fr rfl
      have q37 : ab_hp h37 := ⟨hp, hq.2.fr (M := [(182, 18, 18)]) (by decide +kernel) f37⟩
      have r37 : rt B n lim tk ta P h37 j := hr.fr f37 (fun _ => rfl) ⟨rfl, rfl, rfl, rfl, rfl, rfl, rfl⟩
      refine hs_aload_n ci_1695_40 l0 ?_
      refine hs_cv 1658 11 0 ci_1695_41 (by decide +kernel) (by decide +kernel) hp rfl (by rw [ml_1658]; rfl) (m_next ts q37 r37) ?_
      rintro v9 hB ⟨e8, qB, fB, rB⟩
      rw [e8]
      clear e8 v9
      replace hp := qB.1
      simp only [Option.toList, List.nil_append]
      refine hs_iconst ci_1695_44 ?_
      rcases hrA with ⟨y1, y2⟩ | ⟨y1, -⟩
      · refine hs_k ⟨3, some (.int (Int32.ofInt 1)), by decide +kernel, by decide +kernel, qB, (fr_sub (M := MTN) (by decide +kernel) fB).tr (fr_sub (by decide +kernel) f37), _, rfl, Or.inl ⟨(tk j).2.1, ?_, by decide, ?_, rB⟩⟩
        · unfold sp_num
          rw [if_pos (k3.mp b5), if_pos y2]
        · rw [hv_same (fB 182 18 rfl), w37.v, if_pos ⟨rfl, rfl⟩]
          exact kv (k3.mp b5)
      · omega
    · simp only [hs_cd, ab_not] at b23
      refine hs_aload_n ci_1695_26 l0 ?_
      refine hs_iconst ci_1695_27 ?_
      refine hs_cv 1687 11 1 ci_1695_28 (by decide +kernel) (by decide +kernel) hp rfl (by rw [ml_1687]; rfl) (m_bad (Int32.ofInt 2) (by decide) hq hr) ?_
      rintro v9 h2 ⟨r2, e8, hr2, q2, f2, g2⟩
      rw [e8]
      clear e8 v9
      replace hp := q2.1
      simp only [Option.toList, List.cons_append, List.nil_append]
      rcases hrA with ⟨y1, -⟩ | ⟨y1, y2⟩
      · omega
      · refine hs_k ⟨3, some (.int r2), by decide +kernel, rv_b rt_1695 (Or.inl hr2), q2, fr_sub (by decide +kernel) f2, _, rfl, Or.inr ⟨2, ta j, ?_, hr2, ?_⟩⟩
        · unfold sp_num
          rw [if_pos (k3.mp b5), if_neg y2]
        · rw [kI_2] at g2
          exact g2
  · simp only [hs_cd, ab_not, kI_2] at b5
    refine hs_aload_n ci_1695_8 l0 ?_
    refine hs_iconst ci_1695_9 ?_
    refine hs_cv 1687 11 1 ci_1695_10 (by decide +kernel) (by decide +kernel) hp rfl (by rw [ml_1687]; rfl) (m_bad (Int32.ofInt 1) (by decide) hq hr) ?_
    rintro v9 h2 ⟨r2, e8, hr2, q2, f2, g2⟩
    rw [e8]
    clear e8 v9
    replace hp := q2.1
    simp only [Option.toList, List.cons_append, List.nil_append]
    refine hs_k ⟨3, some (.int r2), by decide +kernel, rv_b rt_1695 (Or.inl hr2), q2, fr_sub (by decide +kernel) f2, _, rfl, Or.inr ⟨1, ta j, ?_, hr2, ?_⟩⟩
    · unfold sp_num
      rw [if_neg (fun g => b5 (k3.mpr g))]
    · rw [kI_1] at g2
      exact g2
/-- a number put down in the draft -/
def pt_P (B : Nat → Int) (n lim : Nat) (tk : Nat → tx_K) (ta P : Nat → Nat) (h : eg_H) (j to : Nat) (lo hi : Int) (vo : Option Value) (h' : eg_H) : Prop := ab_hp h' ∧ ab_fr ((185, to, to) :: MTN) h' h ∧ ∃ r : Int32, vo = some (.int r) ∧ ((∃ v x, sp_num (tk j) (ta j) lo hi = .inr v ∧ r.toInt = 1 ∧ (∀ q, hv h' 185 q = if q = to then x else hv h 185 q) ∧ x.toInt = v ∧ rt B n lim tk ta P h' (j + 1)) ∨ (∃ k a, sp_num (tk j) (ta j) lo hi = .inl (k, a) ∧ r.toInt = 0 ∧ flm h' k a))
theorem rt_1691 : (eg_md 1691).2.2.2 = some .boolean := by decide +kernel
theorem inr_me (a k : Nat) (M : ab_M) : ab_inr ((a, k, k) :: M) a k k = true := by
  unfold ab_inr
  rw [Nat.beq_refl, Nat.ble_self_eq_true]
  rfl
theorem m_puts {x y z : Int32} {to : Nat} (k1 k2 : Nat) (lo hi : Int) (ck : ck_aw 0 185 k1 k2 lo hi = true) (hz : z.toInt = (to : Int)) (h1 : k1 ≤ to) (h2 : to ≤ k2) (h88 : k2 ≤ 88) (h3 : lo ≤ x.toInt) (h4 : y.toInt ≤ hi) (ts : TS B n lim tk ta P) (hq : ab_hp h) (hr : rt B n lim tk ta P h j) : mc sc sp 1691 11 (d + 1 + 1 + 1) [.ref 182, .int z, .int x, .int y] h (pt_P B n lim tk ta P h j to x.toInt y.toInt) := by
  have l0 : eg_find 0 (eg_args 0 [.ref 182, .int z, .int x, .int y]) = some (.ref 182) := rfl
  have l1 : eg_find 1 (eg_args 0 [.ref 182, .int z, .int x, .int y]) = some (.int z) := rfl
  have l2 : eg_find 2 (eg_args 0 [.ref 182, .int z, .int x, .int y]) = some (.int x) := rfl
  have l3 : eg_find 3 (eg_args 0 [.ref 182, .int z, .int x, .int y]) = some (.int y) := rfl
  have hp := hq.1
  unfold mc
  refine hs_aload_n ci_1691_0 l0 ?_
  refine hs_iload_n ci_1691_1 l2 ?_
  refine hs_iload_n ci_1691_2 l3 ?_
  refine hs_cv 1695 11 2 ci_1691_3 (by decide +kernel) (by decide +kernel) hp rfl (by rw [ml_1695]; rfl) (m_takes x y ts hq hr) ?_
  rintro v9 hA ⟨qA, fA, rA, e8, hrA⟩
  rw [e8]
  clear e8 v9
  replace hp := qA.1
  simp only [Option.toList, List.cons_append, List.nil_append]
  refine hs_if (t := 11) ci_1691_6 rfl (fun b6 => ?_) (fun b6 => ?_)
  · simp only [hs_cd, ab_not] at b6
    obtain ⟨v, hv1, hv2, rA2⟩ : ∃ v, sp_num (tk j) (ta j) x.toInt y.toInt = .inr v ∧ (hv hA 182 18).toInt = v ∧ rt B n lim tk ta P hA (j + 1) := by
      rcases hrA with ⟨v, y1, -, y3, y4⟩ | ⟨k, a, -, y2, -⟩
      · exact ⟨v, y1, y3, y4⟩
      · omega
    have bv := sp_num_b hv1
    refine hs_aload_n ci_1691_11 l0 ?_
    refine hs_gfr 7 185 ci_1691_12 (by decide +kernel) hp ?_
    refine hs_iload_n ci_1691_15 l1 ?_
    refine hs_aload_n ci_1691_16 l0 ?_
    refine hs_gfi 18 ci_1691_17 (by decide +kernel) hp ?_
    refine hs_iastore k1 k2 lo hi ci_1691_20 ck hp (by omega) (by omega) (by omega) (by omega) ?_
    intro h20 w20
    replace hp := w20.1
    refine hs_iconst ci_1691_21 ?_
    have ez : z.toInt.toNat = to := by omega
    rw [ez] at w20
    have f20 : ab_fr ((185, to, to) :: MTN) h20 hA := w20.fr (inr_me _ _ _)
    have fA2 : ab_fr ((185, to, to) :: MTN) hA h := fA.mono (fun a k hk => by
      unfold ab_inr at hk
      cases e : (Nat.beq a 185 && Nat.ble to k && Nat.ble k to) with
      | true => rw [e] at hk; exact absurd hk (by simp)
      | false => rw [e] at hk; exact hk)
    have qZ : ab_hp h20 := ⟨hp, qA.2.fr (M := [(185, 0, 88)]) (by decide +kernel) (w20.fr (ab_inr_up (k1 := 0) (k2 := 88) rfl (by omega) (by omega)))⟩
    have f88 : ab_fr [(185, 0, 88)] h20 hA := w20.fr (ab_inr_up (k1 := 0) (k2 := 88) rfl (by omega) (by omega))
    refine hs_k ⟨3, some (.int (Int32.ofInt 1)), by decide +kernel, rv_b rt_1691 (Or.inr (by decide)), qZ, f20.tr fA2, _, rfl, Or.inl ⟨v, hv hA 182 18, hv1, by decide, fun q => ?_, hv2, rA2.fr f88 (fun _ => rfl) ⟨rfl, rfl, rfl, rfl, rfl, rfl, rfl⟩⟩⟩
    rw [w20.v]
    by_cases e : q = to
    · rw [if_pos ⟨rfl, e⟩, if_pos e]
    · rw [if_neg (fun g => e g.2), if_neg e, hv_same (fA 185 q rfl)]
  · simp only [hs_cd, ab_not] at b6
    refine hs_iconst ci_1691_9 ?_
    rcases hrA with ⟨v, -, y2, -⟩ | ⟨k, a, y1, y2, y3⟩
    · omega
    · refine hs_k ⟨3, some (.int (Int32.ofInt 0)), by decide +kernel, rv_b rt_1691 (Or.inl (by decide)), qA, ?_, _, rfl, Or.inr ⟨k, a, y1, by decide, y3⟩⟩
      exact fA.mono (fun a k hk => by
        unfold ab_inr at hk
        cases e : (Nat.beq a 185 && Nat.ble to k && Nat.ble k to) with
        | true => rw [e] at hk; exact absurd hk (by simp)
        | false => rw [e] at hk; exact hk)
theorem rt_1710 : (eg_md 1710).2.2.2 = some .int := by decide +kernel
def fd_P (h : eg_H) (fr many : Nat) (vo : Option Value) (h' : eg_H) : Prop := h' = h ∧ ∃ r : Int32, vo = some (.int r) ∧ r.toInt = sf (fun q => (hl h 187 (fr + q)).toInt) (hl h 182 17).toInt many
theorem fd_loop {fr many : Nat} {z y : Int32} (hz : z.toInt = (fr : Int)) (hy : y.toInt = (many : Int)) (hb : fr + many ≤ 32) (hq : ab_hp h) : ∀ (m k : Nat) (x : Int32) (ls : eg_L), k + m = many → x.toInt = (k : Int) → eg_find 0 ls = some (.ref 182) → eg_find 1 ls = some (.int z) → eg_find 2 ls = some (.int y) → eg_find 3 ls = some (.int x) → (∀ q, q < k → (hl h 187 (fr + q)).toInt ≠ (hl h 182 17).toInt) → hs sc sp 1710 11 d (fun pc' _ st' h' => ∃ ik vo, ab_ret 1710 pc' = some ik ∧ eg_rv (eg_md 1710).2.2.2 ik st' = some vo ∧ fd_P h fr many vo h') 2 ls [] h := by
  have hp := hq.1
  intro m
  induction m with
  | zero =>
    intro k x ls hk hx l0 l1 l2 l3 hne
    have hk : k = many := by omega
    subst hk
    refine hs_iload_n ci_1710_2 l3 ?_
    refine hs_iload_n ci_1710_3 l2 ?_
    refine hs_ic (t := 31) ci_1710_4 rfl (fun b4 => ?_) (fun b4 => ?_)
    · simp only [hs_cd, ab_not] at b4
      refine hs_iconst ci_1710_31 ?_
      exact hs_k ⟨3, _, by decide +kernel, by rw [rt_1710]; rfl, rfl, _, rfl, by rw [sf_no _ (fun q hq => hne q hq)]; decide⟩
    · simp only [hs_cd, ab_not] at b4
      omega
  | succ m ih =>
    intro k x ls hk hx l0 l1 l2 l3 hne
    refine hs_iload_n ci_1710_2 l3 ?_
    refine hs_iload_n ci_1710_3 l2 ?_
    refine hs_ic (t := 31) ci_1710_4 rfl (fun b4 => ?_) (fun b4 => ?_)
    · simp only [hs_cd, ab_not] at b4
      omega
    · simp only [hs_cd, ab_not] at b4
      refine hs_aload_n ci_1710_7 l0 ?_
      refine hs_gfr 9 187 ci_1710_8 (by decide +kernel) hp ?_
      refine hs_iload_n ci_1710_11 l1 ?_
      refine hs_iload_n ci_1710_12 l3 ?_
      refine hs_iadd ci_1710_13 ?_
      have e13 : (z + x).toInt = (fr : Int) + (k : Int) := i32_add hz hx (by omega) (by omega)
      have e14 : (z + x).toInt.toNat = fr + k := by omega
      refine hs_laload 32 ci_1710_14 (by decide +kernel) hp (by omega) (by omega) ?_
      refine hs_aload_n ci_1710_15 l0 ?_
      refine hs_gfl 17 ci_1710_16 (by decide +kernel) hp ?_
      refine hs_lcmp ci_1710_19 (fun z19 q19 => ?_)
      refine hs_if (t := 25) ci_1710_20 rfl (fun b20 => ?_) (fun b20 => ?_)
      · simp only [hs_cd, ab_not] at b20
        refine hs_iinc2 ci_1710_25 (by decide +kernel) l3 ?_
        intro ls9 q9
        replace l0 := q9.2 0 _ (by decide) (Or.inl rfl) l0
        replace l1 := q9.2 1 _ (by decide) (Or.inl rfl) l1
        replace l2 := q9.2 2 _ (by decide) (Or.inl rfl) l2
        have l3 := q9.1
        clear q9
        refine hs_goto (t := 2) ci_1710_28 rfl ?_
        rw [e14] at q19
        refine ih (k + 1) _ _ (by omega) (i32_inc hx (by omega) (by omega)) l0 l1 l2 l3 (fun q hq => ?_)
        by_cases e : q = k
        · subst e
          rcases q19 with ⟨-, q1⟩ | ⟨q1, -⟩ | ⟨-, q1⟩
          · omega
          · omega
          · omega
        · exact hne q (by omega)
      · simp only [hs_cd, ab_not] at b20
        refine hs_iload_n ci_1710_23 l3 ?_
        rw [e14] at q19
        refine hs_k ⟨3, _, by decide +kernel, by rw [rt_1710]; rfl, rfl, x, rfl, ?_⟩
        rw [hx]
        refine (sf_up (n := k) hne ?_ _ (by omega)).symm
        rcases q19 with ⟨q1, -⟩ | ⟨-, q2⟩ | ⟨q1, -⟩
        · omega
        · exact congrArg Int64.toInt q2
        · omega
theorem m_find {fr many : Nat} {z y : Int32} (hz : z.toInt = (fr : Int)) (hy : y.toInt = (many : Int)) (hb : fr + many ≤ 32) (hq : ab_hp h) : mc sc sp 1710 11 d [.ref 182, .int z, .int y] h (fd_P h fr many) := by
  have l0 : eg_find 0 (eg_args 0 [.ref 182, .int z, .int y]) = some (.ref 182) := rfl
  have l1 : eg_find 1 (eg_args 0 [.ref 182, .int z, .int y]) = some (.int z) := rfl
  have l2 : eg_find 2 (eg_args 0 [.ref 182, .int z, .int y]) = some (.int y) := rfl
  unfold mc
  refine hs_iconst ci_1710_0 ?_
  refine hs_istore2_n ci_1710_1 (by decide +kernel) ?_
  intro ls9 q9
  replace l0 := q9.2 0 _ (by decide) (Or.inl rfl) l0
  replace l1 := q9.2 1 _ (by decide) (Or.inl rfl) l1
  replace l2 := q9.2 2 _ (by decide) (Or.inl rfl) l2
  have l3 := q9.1
  clear q9
  exact fd_loop hz hy hb hq many 0 _ _ (by omega) kI_0 l0 l1 l2 l3 (fun q hq => by omega)
end RF
