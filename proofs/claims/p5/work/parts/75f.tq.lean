/-! BY HAND: the class's tokens: small questions -/
def bq (h : eg_H) (P : Prop) (vo : Option Value) (h' : eg_H) : Prop := h' = h ∧ ∃ r : Int32, vo = some (.int r) ∧ ((r.toInt = 1 ∧ P) ∨ (r.toInt = 0 ∧ ¬ P))
theorem ci_699_0 : ab_at 699 0 (.iload_n 1) 1 = true := by decide +kernel
theorem ci_699_1 : ab_at 699 1 (.ifCond .lt 24) 3 = true := by decide +kernel
theorem ci_699_4 : ab_at 699 4 (.iload_n 1) 1 = true := by decide +kernel
theorem ci_699_5 : ab_at 699 5 (.aload_n 0) 1 = true := by decide +kernel
theorem ci_699_6 : ab_at 699 6 (.getfield 15) 3 = true := by decide +kernel
theorem ci_699_9 : ab_at 699 9 (.if_icmp .ge 16) 3 = true := by decide +kernel
theorem ci_699_12 : ab_at 699 12 (.aload_n 0) 1 = true := by decide +kernel
theorem ci_699_13 : ab_at 699 13 (.getfield 9) 3 = true := by decide +kernel
theorem ci_699_16 : ab_at 699 16 (.iload_n 1) 1 = true := by decide +kernel
theorem ci_699_17 : ab_at 699 17 (.baload) 1 = true := by decide +kernel
theorem ci_699_18 : ab_at 699 18 (.sipush 255) 3 = true := by decide +kernel
theorem ci_699_21 : ab_at 699 21 (.iand) 1 = true := by decide +kernel
theorem ci_699_22 : ab_at 699 22 (.goto 4) 3 = true := by decide +kernel
theorem ci_699_25 : ab_at 699 25 (.iconst 0) 1 = true := by decide +kernel
theorem ci_702_0 : ab_at 702 0 (.iload_n 0) 1 = true := by decide +kernel
theorem ci_702_1 : ab_at 702 1 (.bipush 97) 2 = true := by decide +kernel
theorem ci_702_3 : ab_at 702 3 (.if_icmp .lt 13) 3 = true := by decide +kernel
theorem ci_702_6 : ab_at 702 6 (.iload_n 0) 1 = true := by decide +kernel
theorem ci_702_7 : ab_at 702 7 (.bipush 122) 2 = true := by decide +kernel
theorem ci_702_9 : ab_at 702 9 (.if_icmp .gt 7) 3 = true := by decide +kernel
theorem ci_702_12 : ab_at 702 12 (.iconst 1) 1 = true := by decide +kernel
theorem ci_702_13 : ab_at 702 13 (.goto 4) 3 = true := by decide +kernel
theorem ci_702_16 : ab_at 702 16 (.iconst 0) 1 = true := by decide +kernel
theorem ci_705_0 : ab_at 705 0 (.iload_n 0) 1 = true := by decide +kernel
theorem ci_705_1 : ab_at 705 1 (.bipush 48) 2 = true := by decide +kernel
theorem ci_705_3 : ab_at 705 3 (.if_icmp .lt 13) 3 = true := by decide +kernel
theorem ci_705_6 : ab_at 705 6 (.iload_n 0) 1 = true := by decide +kernel
theorem ci_705_7 : ab_at 705 7 (.bipush 57) 2 = true := by decide +kernel
theorem ci_705_9 : ab_at 705 9 (.if_icmp .gt 7) 3 = true := by decide +kernel
theorem ci_705_12 : ab_at 705 12 (.iconst 1) 1 = true := by decide +kernel
theorem ci_705_13 : ab_at 705 13 (.goto 4) 3 = true := by decide +kernel
theorem ci_705_16 : ab_at 705 16 (.iconst 0) 1 = true := by decide +kernel
theorem ci_721_0 : ab_at 721 0 (.iload_n 0) 1 = true := by decide +kernel
theorem ci_721_1 : ab_at 721 1 (.bipush 32) 2 = true := by decide +kernel
theorem ci_721_3 : ab_at 721 3 (.if_icmp .eq 9) 3 = true := by decide +kernel
theorem ci_721_6 : ab_at 721 6 (.iload_n 0) 1 = true := by decide +kernel
theorem ci_721_7 : ab_at 721 7 (.bipush 10) 2 = true := by decide +kernel
theorem ci_721_9 : ab_at 721 9 (.if_icmp .ne 7) 3 = true := by decide +kernel
theorem ci_721_12 : ab_at 721 12 (.iconst 1) 1 = true := by decide +kernel
theorem ci_721_13 : ab_at 721 13 (.goto 4) 3 = true := by decide +kernel
theorem ci_721_16 : ab_at 721 16 (.iconst 0) 1 = true := by decide +kernel
theorem ci_724_0 : ab_at 724 0 (.iload_n 0) 1 = true := by decide +kernel
theorem ci_724_1 : ab_at 724 1 (.bipush 59) 2 = true := by decide +kernel
theorem ci_724_3 : ab_at 724 3 (.if_icmp .eq 33) 3 = true := by decide +kernel
theorem ci_724_6 : ab_at 724 6 (.iload_n 0) 1 = true := by decide +kernel
theorem ci_724_7 : ab_at 724 7 (.bipush 60) 2 = true := by decide +kernel
theorem ci_724_9 : ab_at 724 9 (.if_icmp .eq 27) 3 = true := by decide +kernel
theorem ci_724_12 : ab_at 724 12 (.iload_n 0) 1 = true := by decide +kernel
theorem ci_724_13 : ab_at 724 13 (.bipush 61) 2 = true := by decide +kernel
theorem ci_724_15 : ab_at 724 15 (.if_icmp .eq 21) 3 = true := by decide +kernel
theorem ci_724_18 : ab_at 724 18 (.iload_n 0) 1 = true := by decide +kernel
theorem ci_724_19 : ab_at 724 19 (.bipush 62) 2 = true := by decide +kernel
theorem ci_724_21 : ab_at 724 21 (.if_icmp .eq 15) 3 = true := by decide +kernel
theorem ci_724_24 : ab_at 724 24 (.iload_n 0) 1 = true := by decide +kernel
theorem ci_724_25 : ab_at 724 25 (.bipush 40) 2 = true := by decide +kernel
theorem ci_724_27 : ab_at 724 27 (.if_icmp .eq 9) 3 = true := by decide +kernel
theorem ci_724_30 : ab_at 724 30 (.iload_n 0) 1 = true := by decide +kernel
theorem ci_724_31 : ab_at 724 31 (.bipush 41) 2 = true := by decide +kernel
theorem ci_724_33 : ab_at 724 33 (.if_icmp .ne 7) 3 = true := by decide +kernel
theorem ci_724_36 : ab_at 724 36 (.iconst 1) 1 = true := by decide +kernel
theorem ci_724_37 : ab_at 724 37 (.goto 4) 3 = true := by decide +kernel
theorem ci_724_40 : ab_at 724 40 (.iconst 0) 1 = true := by decide +kernel
theorem ci_1665_0 : ab_at 1665 0 (.iload_n 0) 1 = true := by decide +kernel
theorem ci_1665_1 : ab_at 1665 1 (.bipush 97) 2 = true := by decide +kernel
theorem ci_1665_3 : ab_at 1665 3 (.if_icmp .lt 13) 3 = true := by decide +kernel
theorem ci_1665_6 : ab_at 1665 6 (.iload_n 0) 1 = true := by decide +kernel
theorem ci_1665_7 : ab_at 1665 7 (.bipush 122) 2 = true := by decide +kernel
theorem ci_1665_9 : ab_at 1665 9 (.if_icmp .gt 7) 3 = true := by decide +kernel
theorem ci_1665_12 : ab_at 1665 12 (.iconst 1) 1 = true := by decide +kernel
theorem ci_1665_13 : ab_at 1665 13 (.goto 4) 3 = true := by decide +kernel
theorem ci_1665_16 : ab_at 1665 16 (.iconst 0) 1 = true := by decide +kernel
theorem ci_1668_0 : ab_at 1668 0 (.iload_n 0) 1 = true := by decide +kernel
theorem ci_1668_1 : ab_at 1668 1 (.bipush 48) 2 = true := by decide +kernel
theorem ci_1668_3 : ab_at 1668 3 (.if_icmp .lt 13) 3 = true := by decide +kernel
theorem ci_1668_6 : ab_at 1668 6 (.iload_n 0) 1 = true := by decide +kernel
theorem ci_1668_7 : ab_at 1668 7 (.bipush 57) 2 = true := by decide +kernel
theorem ci_1668_9 : ab_at 1668 9 (.if_icmp .gt 7) 3 = true := by decide +kernel
theorem ci_1668_12 : ab_at 1668 12 (.iconst 1) 1 = true := by decide +kernel
theorem ci_1668_13 : ab_at 1668 13 (.goto 4) 3 = true := by decide +kernel
theorem ci_1668_16 : ab_at 1668 16 (.iconst 0) 1 = true := by decide +kernel
theorem kB_10 : (Int8.ofInt (10)).toInt32.toInt = 10 := by decide +kernel
theorem kB_122 : (Int8.ofInt (122)).toInt32.toInt = 122 := by decide +kernel
theorem kB_32 : (Int8.ofInt (32)).toInt32.toInt = 32 := by decide +kernel
theorem kB_40 : (Int8.ofInt (40)).toInt32.toInt = 40 := by decide +kernel
theorem kB_41 : (Int8.ofInt (41)).toInt32.toInt = 41 := by decide +kernel
theorem kB_48 : (Int8.ofInt (48)).toInt32.toInt = 48 := by decide +kernel
theorem kB_57 : (Int8.ofInt (57)).toInt32.toInt = 57 := by decide +kernel
theorem kB_59 : (Int8.ofInt (59)).toInt32.toInt = 59 := by decide +kernel
theorem kB_60 : (Int8.ofInt (60)).toInt32.toInt = 60 := by decide +kernel
theorem kB_61 : (Int8.ofInt (61)).toInt32.toInt = 61 := by decide +kernel
theorem kB_62 : (Int8.ofInt (62)).toInt32.toInt = 62 := by decide +kernel
theorem kB_97 : (Int8.ofInt (97)).toInt32.toInt = 97 := by decide +kernel
theorem kI_0 : (Int32.ofInt (0)).toInt = 0 := by decide +kernel
theorem kI_1 : (Int32.ofInt (1)).toInt = 1 := by decide +kernel
theorem kS_255 : (Int16.ofInt (255)).toInt32.toInt = 255 := by decide +kernel
theorem k_isL {sc : List Value} {sp d : Nat} {h : eg_H} (x : Int32) : mc sc sp 702 8 d [.int x] h (bq h (tx_l x.toInt)) := by
  have l0 : eg_find 0 (eg_args 0 [.int x]) = some (.int x) := rfl
  unfold mc
  refine hs_iload_n ci_702_0 l0 ?_
  refine hs_bipush ci_702_1 ?_
  refine hs_ic (t := 16) ci_702_3 rfl (fun b3 => ?_) (fun b3 => ?_)
  · simp only [hs_cd, ab_not, kB_97] at b3
    refine hs_iconst ci_702_16 ?_
    exact hs_k ⟨3, some (.int (Int32.ofInt 0)), by decide +kernel, by decide +kernel, rfl, _, rfl, Or.inr ⟨by decide, by unfold tx_l; omega⟩⟩
  · simp only [hs_cd, ab_not, kB_97] at b3
    refine hs_iload_n ci_702_6 l0 ?_
    refine hs_bipush ci_702_7 ?_
    refine hs_ic (t := 16) ci_702_9 rfl (fun b9 => ?_) (fun b9 => ?_)
    · simp only [hs_cd, ab_not, kB_122] at b9
      refine hs_iconst ci_702_16 ?_
      exact hs_k ⟨3, some (.int (Int32.ofInt 0)), by decide +kernel, by decide +kernel, rfl, _, rfl, Or.inr ⟨by decide, by unfold tx_l; omega⟩⟩
    · simp only [hs_cd, ab_not, kB_122] at b9
      refine hs_iconst ci_702_12 ?_
      refine hs_goto (t := 17) ci_702_13 rfl ?_
      exact hs_k ⟨3, some (.int (Int32.ofInt 1)), by decide +kernel, by decide +kernel, rfl, _, rfl, Or.inl ⟨by decide, by unfold tx_l; omega⟩⟩
theorem k_isD {sc : List Value} {sp d : Nat} {h : eg_H} (x : Int32) : mc sc sp 705 8 d [.int x] h (bq h (tx_d x.toInt)) := by
  have l0 : eg_find 0 (eg_args 0 [.int x]) = some (.int x) := rfl
  unfold mc
  refine hs_iload_n ci_705_0 l0 ?_
  refine hs_bipush ci_705_1 ?_
  refine hs_ic (t := 16) ci_705_3 rfl (fun b3 => ?_) (fun b3 => ?_)
  · simp only [hs_cd, ab_not, kB_48] at b3
    refine hs_iconst ci_705_16 ?_
    exact hs_k ⟨3, some (.int (Int32.ofInt 0)), by decide +kernel, by decide +kernel, rfl, _, rfl, Or.inr ⟨by decide, by unfold tx_d; omega⟩⟩
  · simp only [hs_cd, ab_not, kB_48] at b3
    refine hs_iload_n ci_705_6 l0 ?_
    refine hs_bipush ci_705_7 ?_
    refine hs_ic (t := 16) ci_705_9 rfl (fun b9 => ?_) (fun b9 => ?_)
    · simp only [hs_cd, ab_not, kB_57] at b9
      refine hs_iconst ci_705_16 ?_
      exact hs_k ⟨3, some (.int (Int32.ofInt 0)), by decide +kernel, by decide +kernel, rfl, _, rfl, Or.inr ⟨by decide, by unfold tx_d; omega⟩⟩
    · simp only [hs_cd, ab_not, kB_57] at b9
      refine hs_iconst ci_705_12 ?_
      refine hs_goto (t := 17) ci_705_13 rfl ?_
      exact hs_k ⟨3, some (.int (Int32.ofInt 1)), by decide +kernel, by decide +kernel, rfl, _, rfl, Or.inl ⟨by decide, by unfold tx_d; omega⟩⟩
theorem k_isB {sc : List Value} {sp d : Nat} {h : eg_H} (x : Int32) : mc sc sp 721 8 d [.int x] h (bq h (tx_b x.toInt)) := by
  have l0 : eg_find 0 (eg_args 0 [.int x]) = some (.int x) := rfl
  unfold mc
  refine hs_iload_n ci_721_0 l0 ?_
  refine hs_bipush ci_721_1 ?_
  refine hs_ic (t := 12) ci_721_3 rfl (fun b3 => ?_) (fun b3 => ?_)
  · simp only [hs_cd, ab_not, kB_32] at b3
    refine hs_iconst ci_721_12 ?_
    refine hs_goto (t := 17) ci_721_13 rfl ?_
    exact hs_k ⟨3, some (.int (Int32.ofInt 1)), by decide +kernel, by decide +kernel, rfl, _, rfl, Or.inl ⟨by decide, by unfold tx_b; omega⟩⟩
  · simp only [hs_cd, ab_not, kB_32] at b3
    refine hs_iload_n ci_721_6 l0 ?_
    refine hs_bipush ci_721_7 ?_
    refine hs_ic (t := 16) ci_721_9 rfl (fun b9 => ?_) (fun b9 => ?_)
    · simp only [hs_cd, ab_not, kB_10] at b9
      refine hs_iconst ci_721_16 ?_
      exact hs_k ⟨3, some (.int (Int32.ofInt 0)), by decide +kernel, by decide +kernel, rfl, _, rfl, Or.inr ⟨by decide, by unfold tx_b; omega⟩⟩
    · simp only [hs_cd, ab_not, kB_10] at b9
      refine hs_iconst ci_721_12 ?_
      refine hs_goto (t := 17) ci_721_13 rfl ?_
      exact hs_k ⟨3, some (.int (Int32.ofInt 1)), by decide +kernel, by decide +kernel, rfl, _, rfl, Or.inl ⟨by decide, by unfold tx_b; omega⟩⟩
theorem k_isS {sc : List Value} {sp d : Nat} {h : eg_H} (x : Int32) : mc sc sp 724 8 d [.int x] h (bq h (tx_s x.toInt)) := by
  have l0 : eg_find 0 (eg_args 0 [.int x]) = some (.int x) := rfl
  unfold mc
  refine hs_iload_n ci_724_0 l0 ?_
  refine hs_bipush ci_724_1 ?_
  refine hs_ic (t := 36) ci_724_3 rfl (fun b3 => ?_) (fun b3 => ?_)
  · simp only [hs_cd, ab_not, kB_59] at b3
    refine hs_iconst ci_724_36 ?_
    refine hs_goto (t := 41) ci_724_37 rfl ?_
    exact hs_k ⟨3, some (.int (Int32.ofInt 1)), by decide +kernel, by decide +kernel, rfl, _, rfl, Or.inl ⟨by decide, by unfold tx_s; omega⟩⟩
  · simp only [hs_cd, ab_not, kB_59] at b3
    refine hs_iload_n ci_724_6 l0 ?_
    refine hs_bipush ci_724_7 ?_
    refine hs_ic (t := 36) ci_724_9 rfl (fun b9 => ?_) (fun b9 => ?_)
    · simp only [hs_cd, ab_not, kB_60] at b9
      refine hs_iconst ci_724_36 ?_
      refine hs_goto (t := 41) ci_724_37 rfl ?_
      exact hs_k ⟨3, some (.int (Int32.ofInt 1)), by decide +kernel, by decide +kernel, rfl, _, rfl, Or.inl ⟨by decide, by unfold tx_s; omega⟩⟩
    · simp only [hs_cd, ab_not, kB_60] at b9
      refine hs_iload_n ci_724_12 l0 ?_
      refine hs_bipush ci_724_13 ?_
      refine hs_ic (t := 36) ci_724_15 rfl (fun b15 => ?_) (fun b15 => ?_)
      · simp only [hs_cd, ab_not, kB_61] at b15
        refine hs_iconst ci_724_36 ?_
        refine hs_goto (t := 41) ci_724_37 rfl ?_
        exact hs_k ⟨3, some (.int (Int32.ofInt 1)), by decide +kernel, by decide +kernel, rfl, _, rfl, Or.inl ⟨by decide, by unfold tx_s; omega⟩⟩
      · simp only [hs_cd, ab_not, kB_61] at b15
        refine hs_iload_n ci_724_18 l0 ?_
        refine hs_bipush ci_724_19 ?_
        refine hs_ic (t := 36) ci_724_21 rfl (fun b21 => ?_) (fun b21 => ?_)
        · simp only [hs_cd, ab_not, kB_62] at b21
          refine hs_iconst ci_724_36 ?_
          refine hs_goto (t := 41) ci_724_37 rfl ?_
          exact hs_k ⟨3, some (.int (Int32.ofInt 1)), by decide +kernel, by decide +kernel, rfl, _, rfl, Or.inl ⟨by decide, by unfold tx_s; omega⟩⟩
        · simp only [hs_cd, ab_not, kB_62] at b21
          refine hs_iload_n ci_724_24 l0 ?_
          refine hs_bipush ci_724_25 ?_
          refine hs_ic (t := 36) ci_724_27 rfl (fun b27 => ?_) (fun b27 => ?_)
          · simp only [hs_cd, ab_not, kB_40] at b27
            refine hs_iconst ci_724_36 ?_
            refine hs_goto (t := 41) ci_724_37 rfl ?_
            exact hs_k ⟨3, some (.int (Int32.ofInt 1)), by decide +kernel, by decide +kernel, rfl, _, rfl, Or.inl ⟨by decide, by unfold tx_s; omega⟩⟩
          · simp only [hs_cd, ab_not, kB_40] at b27
            refine hs_iload_n ci_724_30 l0 ?_
            refine hs_bipush ci_724_31 ?_
            refine hs_ic (t := 40) ci_724_33 rfl (fun b33 => ?_) (fun b33 => ?_)
            · simp only [hs_cd, ab_not, kB_41] at b33
              refine hs_iconst ci_724_40 ?_
              exact hs_k ⟨3, some (.int (Int32.ofInt 0)), by decide +kernel, by decide +kernel, rfl, _, rfl, Or.inr ⟨by decide, by unfold tx_s; omega⟩⟩
            · simp only [hs_cd, ab_not, kB_41] at b33
              refine hs_iconst ci_724_36 ?_
              refine hs_goto (t := 41) ci_724_37 rfl ?_
              exact hs_k ⟨3, some (.int (Int32.ofInt 1)), by decide +kernel, by decide +kernel, rfl, _, rfl, Or.inl ⟨by decide, by unfold tx_s; omega⟩⟩
theorem k_sml {sc : List Value} {sp d : Nat} {h : eg_H} (x : Int32) : mc sc sp 1665 11 d [.int x] h (bq h (tx_l x.toInt)) := by
  have l0 : eg_find 0 (eg_args 0 [.int x]) = some (.int x) := rfl
  unfold mc
  refine hs_iload_n ci_1665_0 l0 ?_
  refine hs_bipush ci_1665_1 ?_
  refine hs_ic (t := 16) ci_1665_3 rfl (fun b3 => ?_) (fun b3 => ?_)
  · simp only [hs_cd, ab_not, kB_97] at b3
    refine hs_iconst ci_1665_16 ?_
    exact hs_k ⟨3, some (.int (Int32.ofInt 0)), by decide +kernel, by decide +kernel, rfl, _, rfl, Or.inr ⟨by decide, by unfold tx_l; omega⟩⟩
  · simp only [hs_cd, ab_not, kB_97] at b3
    refine hs_iload_n ci_1665_6 l0 ?_
    refine hs_bipush ci_1665_7 ?_
    refine hs_ic (t := 16) ci_1665_9 rfl (fun b9 => ?_) (fun b9 => ?_)
    · simp only [hs_cd, ab_not, kB_122] at b9
      refine hs_iconst ci_1665_16 ?_
      exact hs_k ⟨3, some (.int (Int32.ofInt 0)), by decide +kernel, by decide +kernel, rfl, _, rfl, Or.inr ⟨by decide, by unfold tx_l; omega⟩⟩
    · simp only [hs_cd, ab_not, kB_122] at b9
      refine hs_iconst ci_1665_12 ?_
      refine hs_goto (t := 17) ci_1665_13 rfl ?_
      exact hs_k ⟨3, some (.int (Int32.ofInt 1)), by decide +kernel, by decide +kernel, rfl, _, rfl, Or.inl ⟨by decide, by unfold tx_l; omega⟩⟩
theorem k_dig {sc : List Value} {sp d : Nat} {h : eg_H} (x : Int32) : mc sc sp 1668 11 d [.int x] h (bq h (tx_d x.toInt)) := by
  have l0 : eg_find 0 (eg_args 0 [.int x]) = some (.int x) := rfl
  unfold mc
  refine hs_iload_n ci_1668_0 l0 ?_
  refine hs_bipush ci_1668_1 ?_
  refine hs_ic (t := 16) ci_1668_3 rfl (fun b3 => ?_) (fun b3 => ?_)
  · simp only [hs_cd, ab_not, kB_48] at b3
    refine hs_iconst ci_1668_16 ?_
    exact hs_k ⟨3, some (.int (Int32.ofInt 0)), by decide +kernel, by decide +kernel, rfl, _, rfl, Or.inr ⟨by decide, by unfold tx_d; omega⟩⟩
  · simp only [hs_cd, ab_not, kB_48] at b3
    refine hs_iload_n ci_1668_6 l0 ?_
    refine hs_bipush ci_1668_7 ?_
    refine hs_ic (t := 16) ci_1668_9 rfl (fun b9 => ?_) (fun b9 => ?_)
    · simp only [hs_cd, ab_not, kB_57] at b9
      refine hs_iconst ci_1668_16 ?_
      exact hs_k ⟨3, some (.int (Int32.ofInt 0)), by decide +kernel, by decide +kernel, rfl, _, rfl, Or.inr ⟨by decide, by unfold tx_d; omega⟩⟩
    · simp only [hs_cd, ab_not, kB_57] at b9
      refine hs_iconst ci_1668_12 ?_
      refine hs_goto (t := 17) ci_1668_13 rfl ?_
      exact hs_k ⟨3, some (.int (Int32.ofInt 1)), by decide +kernel, by decide +kernel, rfl, _, rfl, Or.inl ⟨by decide, by unfold tx_d; omega⟩⟩
/-- bytes -/
theorem i32_255 (x : Int32) : (x &&& (Int16.ofInt 255).toInt32).toInt = x.toInt % 256 := by
  have e1 : (x &&& (Int16.ofInt 255).toInt32).toInt = ((x.toBitVec &&& 255#32).toInt) := rfl
  have e2 : x.toInt = x.toBitVec.toInt := rfl
  rw [e1, e2]
  have h1 : (x.toBitVec &&& 255#32).toNat = x.toBitVec.toNat % 256 := by
    rw [BitVec.toNat_and]
    exact Nat.and_two_pow_sub_one_eq_mod x.toBitVec.toNat 8
  have h2 := x.toBitVec.isLt
  rw [BitVec.toInt_eq_toNat_cond, BitVec.toInt_eq_toNat_cond, h1]
  rw [if_pos (by omega)]
  split <;> omega
/-- the byte at a place of the class's text -/
def bA (h : eg_H) (k : Nat) : Int := (hv h 2 k).toInt % 256
theorem rt_699 : (eg_md 699).2.2.2 = some .int := by decide +kernel
def bt_P (h : eg_H) (x : Int) (vo : Option Value) (h' : eg_H) : Prop := h' = h ∧ ∃ r : Int32, vo = some (.int r) ∧ ((0 ≤ x ∧ x < (hv h 1 1).toInt ∧ r.toInt = bA h x.toNat) ∨ (¬ (0 ≤ x ∧ x < (hv h 1 1).toInt) ∧ r.toInt = 0))
theorem k_byte {sc : List Value} {sp d : Nat} {h : eg_H} (x : Int32) (hq : ab_hp h) : mc sc sp 699 7 d [.ref 1, .int x] h (bt_P h x.toInt) := by
  have l0 : eg_find 0 (eg_args 0 [.ref 1, .int x]) = some (.ref 1) := rfl
  have l1 : eg_find 1 (eg_args 0 [.ref 1, .int x]) = some (.int x) := rfl
  have hp := hq.1
  obtain ⟨-, b2, b3⟩ := sb_v (a := 1) (k := 1) (lo := .ofNat 0) (hi := .ofNat 940) hq (by decide +kernel)
  have b2 : (0 : Int) ≤ (hv h 1 1).toInt := b2
  have b3 : (hv h 1 1).toInt ≤ (940 : Int) := b3
  unfold mc
  refine hs_iload_n ci_699_0 l1 ?_
  refine hs_if (t := 25) ci_699_1 rfl (fun b1 => ?_) (fun b1 => ?_)
  · simp only [hs_cd, ab_not] at b1
    refine hs_iconst ci_699_25 ?_
    exact hs_k ⟨3, some (.int (Int32.ofInt 0)), by decide +kernel, by decide +kernel, rfl, _, rfl, Or.inr ⟨by omega, by decide⟩⟩
  · simp only [hs_cd, ab_not] at b1
    refine hs_iload_n ci_699_4 l1 ?_
    refine hs_aload_n ci_699_5 l0 ?_
    refine hs_gfi 1 ci_699_6 (by decide +kernel) hp ?_
    refine hs_ic (t := 25) ci_699_9 rfl (fun b9 => ?_) (fun b9 => ?_)
    · simp only [hs_cd, ab_not] at b9
      refine hs_iconst ci_699_25 ?_
      exact hs_k ⟨3, some (.int (Int32.ofInt 0)), by decide +kernel, by decide +kernel, rfl, _, rfl, Or.inr ⟨by omega, by decide⟩⟩
    · simp only [hs_cd, ab_not] at b9
      refine hs_aload_n ci_699_12 l0 ?_
      refine hs_gfr 0 2 ci_699_13 (by decide +kernel) hp ?_
      refine hs_iload_n ci_699_16 l1 ?_
      refine hs_baload 2 0 939 (-128) (127) ci_699_17 ⟨rfl, by decide⟩ (by decide +kernel) hp (by omega) (by omega) (fun r17_1 r17_2 => ?_)
      refine hs_sipush ci_699_18 ?_
      refine hs_iand ci_699_21 ?_
      refine hs_goto (t := 26) ci_699_22 rfl ?_
      refine hs_k ⟨3, some (.int (hv h 2 x.toInt.toNat &&& (Int16.ofInt 255).toInt32)), by decide +kernel, ?_, rfl, _, rfl, Or.inl ⟨by omega, by omega, i32_255 _⟩⟩
      show eg_rv (eg_md 699).2.2.2 3 _ = _
      rw [rt_699]
      rfl
