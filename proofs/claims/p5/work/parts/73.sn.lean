/-! BY HAND: a sentence is read -/
def KS (h0 : eg_H) : Nat → eg_L → List Value → eg_H → Prop := fun pc' ls' st' h' => ab_hp h' ∧ ab_fr MZS h' h0 ∧ (((pc' = 95 ∨ pc' = 131) ∧ ∃ t : Int32, st' = [.int t]) ∨ (pc' = 176 ∧ st' = [] ∧ eg_find 0 ls' = some (.ref 182)))

theorem ci_2073_48 : ab_at 2073 48 (.iload_n 1) 1 = true := by decide +kernel
theorem ci_2073_49 : ab_at 2073 49 (.ifCond .eq 83) 3 = true := by decide +kernel
theorem ci_2073_52 : ab_at 2073 52 (.aload_n 0) 1 = true := by decide +kernel
theorem ci_2073_53 : ab_at 2073 53 (.getfield 465) 3 = true := by decide +kernel
theorem ci_2073_56 : ab_at 2073 56 (.ifCond .eq 45) 3 = true := by decide +kernel
theorem ci_2073_59 : ab_at 2073 59 (.aload_n 0) 1 = true := by decide +kernel
theorem ci_2073_60 : ab_at 2073 60 (.getfield 158) 3 = true := by decide +kernel
theorem ci_2073_63 : ab_at 2073 63 (.ifCond .ne 38) 3 = true := by decide +kernel
theorem ci_2073_66 : ab_at 2073 66 (.aload_n 0) 1 = true := by decide +kernel
theorem ci_2073_67 : ab_at 2073 67 (.invokevirtual 468) 3 = true := by decide +kernel
theorem ci_2073_70 : ab_at 2073 70 (.aload_n 0) 1 = true := by decide +kernel
theorem ci_2073_71 : ab_at 2073 71 (.bipush 22) 2 = true := by decide +kernel
theorem ci_2073_73 : ab_at 2073 73 (.invokevirtual 471) 3 = true := by decide +kernel
theorem ci_2073_76 : ab_at 2073 76 (.aload_n 0) 1 = true := by decide +kernel
theorem ci_2073_77 : ab_at 2073 77 (.getfield 449) 3 = true := by decide +kernel
theorem ci_2073_80 : ab_at 2073 80 (.ifCond .le 16) 3 = true := by decide +kernel
theorem ci_2073_83 : ab_at 2073 83 (.aload_n 0) 1 = true := by decide +kernel
theorem ci_2073_84 : ab_at 2073 84 (.iconst 1) 1 = true := by decide +kernel
theorem ci_2073_85 : ab_at 2073 85 (.invokevirtual 184) 3 = true := by decide +kernel
theorem ci_2073_88 : ab_at 2073 88 (.pop) 1 = true := by decide +kernel
theorem ci_2073_89 : ab_at 2073 89 (.iconst (-1)) 1 = true := by decide +kernel
theorem ci_2073_90 : ab_at 2073 90 (.aload_n 0) 1 = true := by decide +kernel
theorem ci_2073_91 : ab_at 2073 91 (.getfield 178) 3 = true := by decide +kernel
theorem ci_2073_94 : ab_at 2073 94 (.isub) 1 = true := by decide +kernel
theorem ci_2073_96 : ab_at 2073 96 (.iconst 0) 1 = true := by decide +kernel
theorem ci_2073_97 : ab_at 2073 97 (.istore_n 1) 1 = true := by decide +kernel
theorem ci_2073_98 : ab_at 2073 98 (.goto (-50)) 3 = true := by decide +kernel
theorem ci_2073_101 : ab_at 2073 101 (.aload_n 0) 1 = true := by decide +kernel
theorem ci_2073_102 : ab_at 2073 102 (.getfield 465) 3 = true := by decide +kernel
theorem ci_2073_105 : ab_at 2073 105 (.ifCond .eq 13) 3 = true := by decide +kernel
theorem ci_2073_108 : ab_at 2073 108 (.aload_n 0) 1 = true := by decide +kernel
theorem ci_2073_109 : ab_at 2073 109 (.invokevirtual 474) 3 = true := by decide +kernel
theorem ci_2073_112 : ab_at 2073 112 (.ifCond .ne (-64)) 3 = true := by decide +kernel
theorem ci_2073_115 : ab_at 2073 115 (.goto 10) 3 = true := by decide +kernel
theorem ci_2073_118 : ab_at 2073 118 (.aload_n 0) 1 = true := by decide +kernel
theorem ci_2073_119 : ab_at 2073 119 (.invokevirtual 477) 3 = true := by decide +kernel
theorem ci_2073_122 : ab_at 2073 122 (.ifCond .ne (-74)) 3 = true := by decide +kernel
theorem ci_2073_125 : ab_at 2073 125 (.iconst (-1)) 1 = true := by decide +kernel
theorem ci_2073_126 : ab_at 2073 126 (.aload_n 0) 1 = true := by decide +kernel
theorem ci_2073_127 : ab_at 2073 127 (.getfield 178) 3 = true := by decide +kernel
theorem ci_2073_130 : ab_at 2073 130 (.isub) 1 = true := by decide +kernel
theorem ci_2073_132 : ab_at 2073 132 (.aload_n 0) 1 = true := by decide +kernel
theorem ci_2073_133 : ab_at 2073 133 (.getfield 33) 3 = true := by decide +kernel
theorem ci_2073_136 : ab_at 2073 136 (.bipush 126) 2 = true := by decide +kernel
theorem ci_2073_138 : ab_at 2073 138 (.aload_n 0) 1 = true := by decide +kernel
theorem ci_2073_139 : ab_at 2073 139 (.getfield 446) 3 = true := by decide +kernel
theorem ci_2073_142 : ab_at 2073 142 (.iastore) 1 = true := by decide +kernel
theorem ci_2073_143 : ab_at 2073 143 (.iconst 0) 1 = true := by decide +kernel
theorem ci_2073_144 : ab_at 2073 144 (.istore_n 2) 1 = true := by decide +kernel
theorem sn_fin {sc : List Value} {sp d : Nat} {h0 h : eg_H} {c n : Nat} (s5 : S5 h c 0 n 1 1) (hp : ab_hp h) (hf : ab_fr MZS h h0) {ls : eg_L} (l0 : eg_find 0 ls = some (.ref 182)) (l1 : eg_find 1 ls = some (.int (Int32.ofInt 0))) : hs sc sp 2073 11 d (KS h0) 98 ls [] h := by
  have e00 : (Int32.ofInt 0).toInt = 0 := rfl
  refine hs_goto (t := 48) ci_2073_98 rfl ?_
  refine hs_iload_n ci_2073_48 l1 ?_
  refine hs_if (t := 132) ci_2073_49 rfl (fun b49 => ?_) (fun b49 => ?_)
  · simp only [hs_cd, ab_not] at b49
    refine hs_aload_n ci_2073_132 l0 ?_
    refine hs_gfr 6 184 ci_2073_133 (by decide +kernel) hp.1 ?_
    refine hs_bipush ci_2073_136 ?_
    refine hs_aload_n ci_2073_138 l0 ?_
    refine hs_gfi 45 ci_2073_139 (by decide +kernel) hp.1 ?_
    have g45 := (gf_182 hp.1).1
    refine hs_ias1 126 ci_2073_142 rfl gq_126 hp.1 (by show 0 ≤ _; omega) (by show _ ≤ 45; omega) ?_
    intro j1 w9
    replace hf := (w9.fr (M := MZS) (gz_184 (by decide) (by decide))).tr hf
    refine hs_iconst ci_2073_143 ?_
    refine hs_istore_n ci_2073_144 (by decide +kernel) ?_
    intro ls9 q9
    replace l0 := q9.2 0 _ (by decide) rfl l0
    replace l1 := q9.2 1 _ (by decide) rfl l1
    have l2 := q9.1
    clear q9
    have hc45 : c ≤ 45 := by have := s5.1; omega
    refine hs.mono (sn_cp (h0 := h) (h1 := h0) hc45 (rd := fun j => hv h 186 j) (3 * c) 0 _ _ _ (by omega) rfl w9.1 hf (by rw [w9.v, if_neg (fun e => absurd e.1 (by decide))]; exact s5.1) (by rw [w9.v, if_pos ⟨rfl, rfl⟩]; exact s5.1) (fun j => by rw [w9.v, if_neg (fun e => absurd e.1 (by decide))]) (fun j hj => nomatch hj) (fun a k q => w9.ne a k q) l0 l2) ?_
    rintro pc' ls' st' h' ⟨rfl, rfl, hp0, hf', h126, hcp, hot, k0⟩
    refine ⟨⟨hp0, ?_, hp.2.2.1.same (fun k _ => hot _ _ (by decide)), hp.2.2.2.1.same (fun k _ => hot _ _ (by decide)), fun k hd => ?_⟩, hf', Or.inr ⟨rfl, rfl, k0⟩⟩
    · unfold ab_Jc
      rw [h126, show ((c : Int)).toNat = c by omega]
      refine wf_ok_same (fun i hi => ?_) s5.2.2.2.2.1
      unfold ab_cd RD
      rw [show 126 + 1 + 3 * i = 127 + 3 * i by omega, hcp _ (by omega)]
    · rw [hv_same (hot 113 k (by decide))] at hd
      rw [hv_same (hot 114 k (by decide))]
      exact hp.2.2.2.2 k hd
  · simp only [hs_cd, ab_not] at b49
    omega
theorem sn_loop {sc : List Value} {sp d : Nat} (hsc : ab_osc sc) {h0 : eg_H} (r : Nat) : ∀ (c t n w : Nat) (ls : eg_L) (h : eg_H), 100 * (20 - n) + w * (t + 50) < r → w ≤ 1 → n ≤ 20 → c + t + w ≤ 2 * n → S5 h c t n w (w : Int) → ab_hp h → ab_fr MZS h h0 → eg_find 0 ls = some (.ref 182) → eg_find 1 ls = some (.int (Int32.ofInt 1)) → hs sc sp 2073 11 (d + 4 + 1) (KS h0) 48 ls [] h := by
  induction r with
  | zero =>
    intro c t n w ls h hr
    omega
  | succ r ih =>
    intro c t n w ls h hr hw hn hct s5 hp hf l0 l1
    have e11 : (Int32.ofInt 1).toInt = 1 := rfl
    refine hs_iload_n ci_2073_48 l1 ?_
    refine hs_if (t := 132) ci_2073_49 rfl (fun b49 => ?_) (fun b49 => ?_)
    · simp only [hs_cd, ab_not] at b49
      omega
    · simp only [hs_cd, ab_not] at b49
      refine hs_aload_n ci_2073_52 l0 ?_
      refine hs_gfi 49 ci_2073_53 (by decide +kernel) hp.1 ?_
      refine hs_if (t := 101) ci_2073_56 rfl (fun b56 => ?_) (fun b56 => ?_)
      · simp only [hs_cd, ab_not] at b56
        refine hs_aload_n ci_2073_101 l0 ?_
        refine hs_gfi 49 ci_2073_102 (by decide +kernel) hp.1 ?_
        refine hs_if (t := 118) ci_2073_105 rfl (fun b105 => ?_) (fun b105 => ?_)
        · simp only [hs_cd, ab_not] at b105
          obtain rfl : w = 0 := by have := s5.2.2.2.1; omega
          have sw : S5 h c t n 0 0 := s5
          refine hs_aload_n ci_2073_118 l0 ?_
          refine hs_cv 2093 11 0 ci_2073_119 (by decide +kernel) (by decide +kernel) hp.1 rfl (by rw [ml_2093]; rfl) (c_operand (d := d) hsc hn (by omega) sw hp) ?_
          rintro v9 k5 ⟨hp2, f2, r119, e8, hr119⟩
          rw [e8]
          clear e8 v9
          simp only [Option.toList, List.cons_append, List.nil_append]
          
          replace hf := (fr_sub (M := MZS) (by decide +kernel) f2).tr hf
          replace hp := hp2
          clear hp2
          refine hs_if (t := 48) ci_2073_122 rfl (fun b122 => ?_) (fun b122 => ?_)
          · simp only [hs_cd, ab_not] at b122
            rcases hr119 with q | ⟨-, q0, c', t', w', s8, q1, q2⟩
            · omega
            · refine ih c' t' (n + 1) w' _ _ ?_ q2 q0 q1 s8 hp hf l0 l1
              rcases (show w' = 0 ∨ w' = 1 by omega) with rfl | rfl
              · omega
              · omega
          · simp only [hs_cd, ab_not] at b122
            refine hs_iconst ci_2073_125 ?_
            refine hs_aload_n ci_2073_126 l0 ?_
            refine hs_gfi 16 ci_2073_127 (by decide +kernel) hp.1 ?_
            refine hs_isub ci_2073_130 ?_
            exact hs_k ⟨hp, hf, Or.inl ⟨Or.inr rfl, _, rfl⟩⟩
        · simp only [hs_cd, ab_not] at b105
          obtain rfl : w = 1 := by have := s5.2.2.2.1; omega
          have sw : S5 h c t n 1 1 := s5
          refine hs_aload_n ci_2073_108 l0 ?_
          refine hs_cv 2089 11 0 ci_2073_109 (by decide +kernel) (by decide +kernel) hp.1 rfl (by rw [ml_2089]; rfl) (c_behind (d := d) hsc hn (by omega) sw hp) ?_
          rintro v9 k4 ⟨hp2, f2, r109, e8, hr109⟩
          rw [e8]
          clear e8 v9
          simp only [Option.toList, List.cons_append, List.nil_append]
          
          replace hf := (fr_sub (M := MZS) (by decide +kernel) f2).tr hf
          replace hp := hp2
          clear hp2
          refine hs_if (t := 48) ci_2073_112 rfl (fun b112 => ?_) (fun b112 => ?_)
          · simp only [hs_cd, ab_not] at b112
            rcases hr109 with q | ⟨-, c', t', w', s8, q1, q2⟩
            · omega
            · refine ih c' t' n w' _ _ ?_ (by omega) hn (by omega) s8 hp hf l0 l1
              rcases q2 with rfl | ⟨rfl, q3⟩
              · omega
              · omega
          · simp only [hs_cd, ab_not] at b112
            refine hs_goto (t := 125) ci_2073_115 rfl ?_
            refine hs_iconst ci_2073_125 ?_
            refine hs_aload_n ci_2073_126 l0 ?_
            refine hs_gfi 16 ci_2073_127 (by decide +kernel) hp.1 ?_
            refine hs_isub ci_2073_130 ?_
            exact hs_k ⟨hp, hf, Or.inl ⟨Or.inr rfl, _, rfl⟩⟩
      · simp only [hs_cd, ab_not] at b56
        refine hs_aload_n ci_2073_59 l0 ?_
        refine hs_gfi 11 ci_2073_60 (by decide +kernel) hp.1 ?_
        refine hs_if (t := 101) ci_2073_63 rfl (fun b63 => ?_) (fun b63 => ?_)
        · simp only [hs_cd, ab_not] at b63
          refine hs_aload_n ci_2073_101 l0 ?_
          refine hs_gfi 49 ci_2073_102 (by decide +kernel) hp.1 ?_
          refine hs_if (t := 118) ci_2073_105 rfl (fun b105 => ?_) (fun b105 => ?_)
          · simp only [hs_cd, ab_not] at b105
            obtain rfl : w = 0 := by have := s5.2.2.2.1; omega
            have sw : S5 h c t n 0 0 := s5
            refine hs_aload_n ci_2073_118 l0 ?_
            refine hs_cv 2093 11 0 ci_2073_119 (by decide +kernel) (by decide +kernel) hp.1 rfl (by rw [ml_2093]; rfl) (c_operand (d := d) hsc hn (by omega) sw hp) ?_
            rintro v9 k5 ⟨hp2, f2, r119, e8, hr119⟩
            rw [e8]
            clear e8 v9
            simp only [Option.toList, List.cons_append, List.nil_append]
            
            replace hf := (fr_sub (M := MZS) (by decide +kernel) f2).tr hf
            replace hp := hp2
            clear hp2
            refine hs_if (t := 48) ci_2073_122 rfl (fun b122 => ?_) (fun b122 => ?_)
            · simp only [hs_cd, ab_not] at b122
              rcases hr119 with q | ⟨-, q0, c', t', w', s8, q1, q2⟩
              · omega
              · refine ih c' t' (n + 1) w' _ _ ?_ q2 q0 q1 s8 hp hf l0 l1
                rcases (show w' = 0 ∨ w' = 1 by omega) with rfl | rfl
                · omega
                · omega
            · simp only [hs_cd, ab_not] at b122
              refine hs_iconst ci_2073_125 ?_
              refine hs_aload_n ci_2073_126 l0 ?_
              refine hs_gfi 16 ci_2073_127 (by decide +kernel) hp.1 ?_
              refine hs_isub ci_2073_130 ?_
              exact hs_k ⟨hp, hf, Or.inl ⟨Or.inr rfl, _, rfl⟩⟩
          · simp only [hs_cd, ab_not] at b105
            obtain rfl : w = 1 := by have := s5.2.2.2.1; omega
            have sw : S5 h c t n 1 1 := s5
            refine hs_aload_n ci_2073_108 l0 ?_
            refine hs_cv 2089 11 0 ci_2073_109 (by decide +kernel) (by decide +kernel) hp.1 rfl (by rw [ml_2089]; rfl) (c_behind (d := d) hsc hn (by omega) sw hp) ?_
            rintro v9 k4 ⟨hp2, f2, r109, e8, hr109⟩
            rw [e8]
            clear e8 v9
            simp only [Option.toList, List.cons_append, List.nil_append]
            
            replace hf := (fr_sub (M := MZS) (by decide +kernel) f2).tr hf
            replace hp := hp2
            clear hp2
            refine hs_if (t := 48) ci_2073_112 rfl (fun b112 => ?_) (fun b112 => ?_)
            · simp only [hs_cd, ab_not] at b112
              rcases hr109 with q | ⟨-, c', t', w', s8, q1, q2⟩
              · omega
              · refine ih c' t' n w' _ _ ?_ (by omega) hn (by omega) s8 hp hf l0 l1
                rcases q2 with rfl | ⟨rfl, q3⟩
                · omega
                · omega
            · simp only [hs_cd, ab_not] at b112
              refine hs_goto (t := 125) ci_2073_115 rfl ?_
              refine hs_iconst ci_2073_125 ?_
              refine hs_aload_n ci_2073_126 l0 ?_
              refine hs_gfi 16 ci_2073_127 (by decide +kernel) hp.1 ?_
              refine hs_isub ci_2073_130 ?_
              exact hs_k ⟨hp, hf, Or.inl ⟨Or.inr rfl, _, rfl⟩⟩
        · simp only [hs_cd, ab_not] at b63
          obtain rfl : w = 1 := by have := s5.2.2.2.1; omega
          have sw : S5 h c t n 1 1 := s5
          refine hs_aload_n ci_2073_66 l0 ?_
          refine hs_cv 2077 11 0 ci_2073_67 (by decide +kernel) (by decide +kernel) hp.1 rfl (by rw [ml_2077]; rfl) (c_nots (d := d + 3) (by omega) sw hp) ?_
          rintro v9 k1 ⟨hp2, f2, ⟨c1, t1, hct1, htt1, s6⟩, e8⟩
          rw [e8]
          clear e8 v9
          simp only [Option.toList, List.cons_append, List.nil_append]
          
          replace hf := (fr_sub (M := MZS) (by decide +kernel) f2).tr hf
          replace hp := hp2
          clear hp2
          refine hs_aload_n ci_2073_70 l0 ?_
          refine hs_bipush ci_2073_71 ?_
          refine hs_cv 2085 11 1 ci_2073_73 (by decide +kernel) (by decide +kernel) hp.1 rfl (by rw [ml_2085]; rfl) (c_joins (d := d + 3) _ (by omega) s6 hp) ?_
          rintro v9 k2 ⟨hp2, f2, ⟨c2, t2, hct2, htt2, s7, hj⟩, e8⟩
          rw [e8]
          clear e8 v9
          simp only [Option.toList, List.cons_append, List.nil_append]
          
          replace hf := (fr_sub (M := MZS) (by decide +kernel) f2).tr hf
          replace hp := hp2
          clear hp2
          refine hs_aload_n ci_2073_76 l0 ?_
          refine hs_gfi 47 ci_2073_77 (by decide +kernel) hp.1 ?_
          refine hs_if (t := 96) ci_2073_80 rfl (fun b80 => ?_) (fun b80 => ?_)
          · simp only [hs_cd, ab_not] at b80
            refine hs_iconst ci_2073_96 ?_
            refine hs_istore_n ci_2073_97 (by decide +kernel) ?_
            intro ls9 q9
            replace l0 := q9.2 0 _ (by decide) rfl l0
            have l1 := q9.1
            clear q9
            obtain rfl : t2 = 0 := by have := s7.2.1; omega
            exact sn_fin s7 hp hf l0 l1
          · simp only [hs_cd, ab_not] at b80
            refine hs_aload_n ci_2073_83 l0 ?_
            refine hs_iconst ci_2073_84 ?_
            refine hs_cv 1687 11 1 ci_2073_85 (by decide +kernel) (by decide +kernel) hp.1 rfl (by rw [ml_1687]; rfl) (c_bad (d := d + 3) hsc (by decide) (by decide) hp) ?_
            rintro v9 k3 ⟨hp2, f2, r85, e8, r85a, r85b⟩
            rw [e8]
            clear e8 v9
            simp only [Option.toList, List.cons_append, List.nil_append]
            
            replace hf := (fr_sub (M := MZS) (by decide +kernel) f2).tr hf
            replace hp := hp2
            clear hp2
            refine hs_pop ci_2073_88 rfl ?_
            refine hs_iconst ci_2073_89 ?_
            refine hs_aload_n ci_2073_90 l0 ?_
            refine hs_gfi 16 ci_2073_91 (by decide +kernel) hp.1 ?_
            refine hs_isub ci_2073_94 ?_
            exact hs_k ⟨hp, hf, Or.inl ⟨Or.inl rfl, _, rfl⟩⟩
def sm_sent48 : ab_Q := (2073, 11, 48, 5, (2, [], [(0, .inr 184), (1, .inl (0, .ofNat 1))], [], [(186413, 0, .ofNat 0), (186414, 0, .ofNat 0), (186415, 0, .ofNat 0), (186417, 0, .ofNat 0)]), [(182, 4, 4), (182, 11, 18), (182, 45, 49), (184, 126, 261), (186, 0, 134), (199, 0, 44)], [(95, (3, [(2, .negSucc 2147483647, .ofNat 2147483647, false, none)], [], [.inl (2, .ofNat 0)], [])), (131, (3, [(2, .negSucc 2147483647, .ofNat 2147483647, false, none)], [], [.inl (2, .ofNat 0)], [])), (176, (2, [], [(0, .inr 184)], [], []))], none)
theorem tr_sent48 : ab_Tr sm_sent48 := tr_hand (by decide +kernel) (fun sc sp hsc dq hdq ν ls st h hr => by
  have l0 := hr.ref 0 182 (by rfl)
  obtain ⟨x, l1, hx⟩ := hr.int 1 (by rfl)
  have h00 : ν 0 = 0 := hr.1.2.1
  obtain rfl : x = Int32.ofInt 1 := Int32.toInt_inj.mp (by rw [hx, h00]; rfl)
  obtain rfl : st = [] := hr.2.2.2.1
  have hp : ab_hp h := hr.2.2.2.2.2
  have z1 : (hv h 182 45).toInt = ((0 : Nat) : Int) := by rw [hr.ov 182 45 (by rfl) (by decide), h00]; rfl
  have z2 : (hv h 182 46).toInt = ((0 : Nat) : Int) := by rw [hr.ov 182 46 (by rfl) (by decide), h00]; rfl
  have z3 : (hv h 182 47).toInt = ((0 : Nat) : Int) := by rw [hr.ov 182 47 (by rfl) (by decide), h00]; rfl
  have z4 : (hv h 182 49).toInt = ((0 : Nat) : Int) := by rw [hr.ov 182 49 (by rfl) (by decide), h00]; rfl
  have hdq : 5 ≤ dq := hdq
  obtain ⟨d, rfl⟩ : ∃ d, dq = d + 4 + 1 := ⟨dq - 5, by omega⟩
  show hs sc sp 2073 11 (d + 4 + 1) _ 48 ls [] h
  refine hs.mono (sn_loop hsc (h0 := h) 3000 0 0 0 0 ls h (by decide) (by decide) (by decide) (by decide) ⟨z1, z3, z2, z4, (fun i hi => nomatch hi), rfl⟩ hp ab_fr.rf l0 l1) ?_
  rintro pc' ls' st' h' ⟨hp', hf', ⟨rfl | rfl, t, rfl⟩ | ⟨rfl, rfl, k0⟩⟩
  · exact ⟨_, List.mem_cons_self, rfl, _, en_int hr.1 (ab_ige t) (ab_ile t) hp', ab_upd_ext, hf'⟩
  · exact ⟨_, List.mem_cons_of_mem _ List.mem_cons_self, rfl, _, en_int hr.1 (ab_ige t) (ab_ile t) hp', ab_upd_ext, hf'⟩
  · exact ⟨_, List.mem_cons_of_mem _ (List.mem_cons_of_mem _ List.mem_cons_self), rfl, ν, en_loc hr.1 (vl_ref k0 vl_nil) hp', ab_ext.rf, hf'⟩)
