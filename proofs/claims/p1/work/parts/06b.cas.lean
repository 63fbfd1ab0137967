/-! the runs of one call -/
def eg_mks : Nat → List (Int × Int) → List Value
  | _, [] => []
  | j, r :: l => (if r.1 = r.2 then .int (Int32.ofInt r.1) else .retAddr j) :: eg_mks (j + 1) l
noncomputable def eg_case (t : Nat) (en : List (Int × Int)) : Bool := match eg_run en (eg_mks 0 en) 99999 0 20000 9999 12 20 0 0 t (eg_seek t (eg_pg 9999)) eg_ls23 [] eg_hn23 eg_h23 with
  | some (3, _, _, [.int w], _, _) => w == 1
  | _ => false
def eg_prod : List (List (Int × Int)) → List (List (Int × Int))
  | [] => [[]]
  | p :: t => p.flatMap (fun r => (eg_prod t).map (fun l => r :: l))
def eg_covF (lo : Int) : List (Int × Int) → Bool
  | [] => decide (2147483647 < lo)
  | r :: l => decide (r.1 = lo) && decide (r.1 ≤ r.2) && eg_covF (r.2 + 1) l
def eg_cov (p : List (Int × Int)) : Bool := eg_covF (-2147483648) p

def pt_0 : List (List (Int × Int)) := [[((-2147483648), 2147483647)], [((-2147483648), 2147483647)], [((-2147483648), 2147483647)], [((-2147483648), 2147483647)], [((-2147483648), 2147483647)], [((-2147483648), 2147483647)]]
theorem cv_0 : pt_0.all eg_cov = true ∧ pt_0.length = 6 := by decide +kernel
def pt_1 : List (List (Int × Int)) := [[((-2147483648), 2147483647)], [((-2147483648), (-1)), (0, 0), (1, 2147483647)], [((-2147483648), 2147483647)], [((-2147483648), 2147483647)], [((-2147483648), 2147483647)], [((-2147483648), 2147483647)]]
theorem cv_1 : pt_1.all eg_cov = true ∧ pt_1.length = 6 := by decide +kernel
def pt_2 : List (List (Int × Int)) := [[((-2147483648), 2147483647)], [((-2147483648), 2147483647)], [((-2147483648), 2147483647)], [((-2147483648), 2147483647)], [((-2147483648), 2147483647)], [((-2147483648), 2147483647)]]
theorem cv_2 : pt_2.all eg_cov = true ∧ pt_2.length = 6 := by decide +kernel
def pt_3 : List (List (Int × Int)) := [[((-2147483648), 2147483647)], [((-2147483648), 2147483647)], [((-2147483648), 2147483647)], [((-2147483648), 2147483647)], [((-2147483648), 2147483647)], [((-2147483648), 2147483647)]]
theorem cv_3 : pt_3.all eg_cov = true ∧ pt_3.length = 6 := by decide +kernel
def pt_6 : List (List (Int × Int)) := [[((-2147483648), 2147483647)], [((-2147483648), (-1)), (0, 0), (1, 1), (2, 2), (3, 3), (4, 2147483647)], [((-2147483648), (-1)), (0, 0), (1, 1), (2, 2), (3, 3), (4, 2147483647)], [((-2147483648), 2147483647)], [((-2147483648), 2147483647)], [((-2147483648), 2147483647)]]
theorem cv_6 : pt_6.all eg_cov = true ∧ pt_6.length = 6 := by decide +kernel
def pt_7 : List (List (Int × Int)) := [[((-2147483648), 2147483647)], [((-2147483648), (-1)), (0, 0), (1, 1), (2, 2), (3, 3), (4, 4), (5, 5), (6, 6), (7, 7), (8, 2147483647)], [((-2147483648), 2147483647)], [((-2147483648), 2147483647)], [((-2147483648), 2147483647)], [((-2147483648), 2147483647)]]
theorem cv_7 : pt_7.all eg_cov = true ∧ pt_7.length = 6 := by decide +kernel
def pt_8 : List (List (Int × Int)) := [[((-2147483648), 2147483647)], [((-2147483648), (-1)), (0, 2147483647)], [((-2147483648), 2147483647)], [((-2147483648), 2147483647)], [((-2147483648), 2147483647)], [((-2147483648), 2147483647)]]
theorem cv_8 : pt_8.all eg_cov = true ∧ pt_8.length = 6 := by decide +kernel
def pt_9 : List (List (Int × Int)) := [[((-2147483648), 2147483647)], [((-2147483648), (-1)), (0, 2147483647)], [((-2147483648), 2147483647)], [((-2147483648), 2147483647)], [((-2147483648), 2147483647)], [((-2147483648), 2147483647)]]
theorem cv_9 : pt_9.all eg_cov = true ∧ pt_9.length = 6 := by decide +kernel
def pt_10 : List (List (Int × Int)) := [[((-2147483648), 2147483647)], [((-2147483648), (-1)), (0, 2147483647)], [((-2147483648), 2147483647)], [((-2147483648), 2147483647)], [((-2147483648), 2147483647)], [((-2147483648), 2147483647)]]
theorem cv_10 : pt_10.all eg_cov = true ∧ pt_10.length = 6 := by decide +kernel
def pt_11 : List (List (Int × Int)) := [[((-2147483648), 2147483647)], [((-2147483648), (-1)), (0, 2147483647)], [((-2147483648), 2147483647)], [((-2147483648), 2147483647)], [((-2147483648), 2147483647)], [((-2147483648), 2147483647)]]
theorem cv_11 : pt_11.all eg_cov = true ∧ pt_11.length = 6 := by decide +kernel
def pt_12 : List (List (Int × Int)) := [[((-2147483648), 2147483647)], [((-2147483648), 0), (1, 1), (2, 2), (3, 3), (4, 4), (5, 5), (6, 6), (7, 7), (8, 8), (9, 9), (10, 10), (11, 11), (12, 12), (13, 13), (14, 14), (15, 15), (16, 16), (17, 17), (18, 18), (19, 19), (20, 20), (21, 21), (22, 22), (23, 23), (24, 24), (25, 25), (26, 26), (27, 27), (28, 28), (29, 29), (30, 30), (31, 31), (32, 32), (33, 33), (34, 34), (35, 35), (36, 36), (37, 37), (38, 38), (39, 39), (40, 40), (41, 41), (42, 42), (43, 43), (44, 44), (45, 45), (46, 46), (47, 47), (48, 48), (49, 49), (50, 50), (51, 51), (52, 52), (53, 53), (54, 54), (55, 55), (56, 56), (57, 57), (58, 58), (59, 59), (60, 60), (61, 2147483647)], [((-2147483648), 2147483647)], [((-2147483648), 2147483647)], [((-2147483648), 2147483647)], [((-2147483648), 2147483647)]]
theorem cv_12 : pt_12.all eg_cov = true ∧ pt_12.length = 6 := by decide +kernel
def pt_13 : List (List (Int × Int)) := [[((-2147483648), 2147483647)], [((-2147483648), 2147483647)], [((-2147483648), 2147483647)], [((-2147483648), 2147483647)], [((-2147483648), 2147483647)], [((-2147483648), 2147483647)]]
theorem cv_13 : pt_13.all eg_cov = true ∧ pt_13.length = 6 := by decide +kernel
def pt_14 : List (List (Int × Int)) := [[((-2147483648), 2147483647)], [((-2147483648), (-1)), (0, 2147483647)], [((-2147483648), 2147483647)], [((-2147483648), 2147483647)], [((-2147483648), 2147483647)], [((-2147483648), 2147483647)]]
theorem cv_14 : pt_14.all eg_cov = true ∧ pt_14.length = 6 := by decide +kernel
def pt_15 : List (List (Int × Int)) := [[((-2147483648), 2147483647)], [((-2147483648), (-2)), ((-1), (-1)), (0, 0), (1, 1), (2, 2), (3, 3), (4, 4), (5, 5), (6, 6), (7, 7), (8, 8), (9, 9), (10, 10), (11, 11), (12, 12), (13, 13), (14, 14), (15, 15), (16, 2147483647)], [((-2147483648), 2147483647)], [((-2147483648), 2147483647)], [((-2147483648), 2147483647)], [((-2147483648), 2147483647)]]
theorem cv_15 : pt_15.all eg_cov = true ∧ pt_15.length = 6 := by decide +kernel
def pt_16 : List (List (Int × Int)) := [[((-2147483648), 2147483647)], [((-2147483648), (-1)), (0, 2147483647)], [((-2147483648), 2147483647)], [((-2147483648), 2147483647)], [((-2147483648), 2147483647)], [((-2147483648), 2147483647)]]
theorem cv_16 : pt_16.all eg_cov = true ∧ pt_16.length = 6 := by decide +kernel
def pt_17 : List (List (Int × Int)) := [[((-2147483648), 2147483647)], [((-2147483648), (-1)), (0, 2147483647)], [((-2147483648), 2147483647)], [((-2147483648), 2147483647)], [((-2147483648), 2147483647)], [((-2147483648), 2147483647)]]
theorem cv_17 : pt_17.all eg_cov = true ∧ pt_17.length = 6 := by decide +kernel
def pt_18 : List (List (Int × Int)) := [[((-2147483648), 2147483647)], [((-2147483648), (-1)), (0, 2147483647)], [((-2147483648), 2147483647)], [((-2147483648), 2147483647)], [((-2147483648), 2147483647)], [((-2147483648), 2147483647)]]
theorem cv_18 : pt_18.all eg_cov = true ∧ pt_18.length = 6 := by decide +kernel
def pt_19 : List (List (Int × Int)) := [[((-2147483648), 2147483647)], [((-2147483648), (-1)), (0, 2147483647)], [((-2147483648), 2147483647)], [((-2147483648), 2147483647)], [((-2147483648), 2147483647)], [((-2147483648), 2147483647)]]
theorem cv_19 : pt_19.all eg_cov = true ∧ pt_19.length = 6 := by decide +kernel
def pt_20 : List (List (Int × Int)) := [[((-2147483648), 2147483647)], [((-2147483648), 2147483647)], [((-2147483648), 2147483647)], [((-2147483648), 2147483647)], [((-2147483648), 2147483647)], [((-2147483648), 2147483647)]]
theorem cv_20 : pt_20.all eg_cov = true ∧ pt_20.length = 6 := by decide +kernel
def pt_21 : List (List (Int × Int)) := [[((-2147483648), 2147483647)], [((-2147483648), 2147483647)], [((-2147483648), 2147483647)], [((-2147483648), 2147483647)], [((-2147483648), 2147483647)], [((-2147483648), 2147483647)]]
theorem cv_21 : pt_21.all eg_cov = true ∧ pt_21.length = 6 := by decide +kernel
def pt_22 : List (List (Int × Int)) := [[((-2147483648), 2147483647)], [((-2147483648), 2147483647)], [((-2147483648), 2147483647)], [((-2147483648), 2147483647)], [((-2147483648), 2147483647)], [((-2147483648), 2147483647)]]
theorem cv_22 : pt_22.all eg_cov = true ∧ pt_22.length = 6 := by decide +kernel
def pt_23 : List (List (Int × Int)) := [[((-2147483648), 2147483647)], [((-2147483648), (-1)), (0, 2147483647)], [((-2147483648), 2147483647)], [((-2147483648), 2147483647)], [((-2147483648), 2147483647)], [((-2147483648), 2147483647)]]
theorem cv_23 : pt_23.all eg_cov = true ∧ pt_23.length = 6 := by decide +kernel
def pt_24 : List (List (Int × Int)) := [[((-2147483648), 2147483647)], [((-2147483648), 2147483647)], [((-2147483648), 2147483647)], [((-2147483648), 2147483647)], [((-2147483648), 2147483647)], [((-2147483648), 2147483647)]]
theorem cv_24 : pt_24.all eg_cov = true ∧ pt_24.length = 6 := by decide +kernel
def pt_25 : List (List (Int × Int)) := [[((-2147483648), 2147483647)], [((-2147483648), 2147483647)], [((-2147483648), 2147483647)], [((-2147483648), 2147483647)], [((-2147483648), 2147483647)], [((-2147483648), 2147483647)]]
theorem cv_25 : pt_25.all eg_cov = true ∧ pt_25.length = 6 := by decide +kernel
def pt_26 : List (List (Int × Int)) := [[((-2147483648), 2147483647)], [((-2147483648), 2147483647)], [((-2147483648), 2147483647)], [((-2147483648), 2147483647)], [((-2147483648), 2147483647)], [((-2147483648), 2147483647)]]
theorem cv_26 : pt_26.all eg_cov = true ∧ pt_26.length = 6 := by decide +kernel
def pt_27 : List (List (Int × Int)) := [[((-2147483648), 2147483647)], [((-2147483648), (-1)), (0, 999), (1000, 2147483647)], [((-2147483648), (-1)), (0, 2147483647)], [((-2147483648), 2147483647)], [((-2147483648), 2147483647)], [((-2147483648), 2147483647)]]
theorem cv_27 : pt_27.all eg_cov = true ∧ pt_27.length = 6 := by decide +kernel
def pt_28 : List (List (Int × Int)) := [[((-2147483648), 2147483647)], [((-2147483648), 2147483647)], [((-2147483648), 2147483647)], [((-2147483648), 2147483647)], [((-2147483648), 2147483647)], [((-2147483648), 2147483647)]]
theorem cv_28 : pt_28.all eg_cov = true ∧ pt_28.length = 6 := by decide +kernel
def pt_29 : List (List (Int × Int)) := [[((-2147483648), 2147483647)], [((-2147483648), 2147483647)], [((-2147483648), 2147483647)], [((-2147483648), 2147483647)], [((-2147483648), 2147483647)], [((-2147483648), 2147483647)]]
theorem cv_29 : pt_29.all eg_cov = true ∧ pt_29.length = 6 := by decide +kernel
def pt_30 : List (List (Int × Int)) := [[((-2147483648), 2147483647)], [((-2147483648), (-1)), (0, 2147483647)], [((-2147483648), 2147483647)], [((-2147483648), 2147483647)], [((-2147483648), 2147483647)], [((-2147483648), 2147483647)]]
theorem cv_30 : pt_30.all eg_cov = true ∧ pt_30.length = 6 := by decide +kernel
def pt_31 : List (List (Int × Int)) := [[((-2147483648), 2147483647)], [((-2147483648), 2147483647)], [((-2147483648), 2147483647)], [((-2147483648), 2147483647)], [((-2147483648), 2147483647)], [((-2147483648), 2147483647)]]
theorem cv_31 : pt_31.all eg_cov = true ∧ pt_31.length = 6 := by decide +kernel
def pt_32 : List (List (Int × Int)) := [[((-2147483648), 2147483647)], [((-2147483648), 0), (1, 1), (2, 2), (3, 3), (4, 4), (5, 5), (6, 6), (7, 7), (8, 8), (9, 9), (10, 10), (11, 11), (12, 12), (13, 13), (14, 14), (15, 15), (16, 16), (17, 17), (18, 18), (19, 19), (20, 20), (21, 21), (22, 22), (23, 23), (24, 24), (25, 25), (26, 26), (27, 27), (28, 28), (29, 29), (30, 30), (31, 31), (32, 32), (33, 33), (34, 34), (35, 35), (36, 36), (37, 37), (38, 38), (39, 39), (40, 40), (41, 41), (42, 42), (43, 43), (44, 44), (45, 45), (46, 46), (47, 47), (48, 48), (49, 49), (50, 50), (51, 51), (52, 52), (53, 53), (54, 54), (55, 55), (56, 56), (57, 57), (58, 58), (59, 59), (60, 60), (61, 2147483647)], [((-2147483648), 2147483647)], [((-2147483648), 2147483647)], [((-2147483648), 2147483647)], [((-2147483648), 2147483647)]]
theorem cv_32 : pt_32.all eg_cov = true ∧ pt_32.length = 6 := by decide +kernel
def pt_33 : List (List (Int × Int)) := [[((-2147483648), 2147483647)], [((-2147483648), 0), (1, 60), (61, 2147483647)], [((-2147483648), 2147483647)], [((-2147483648), 2147483647)], [((-2147483648), 2147483647)], [((-2147483648), 2147483647)]]
theorem cv_33 : pt_33.all eg_cov = true ∧ pt_33.length = 6 := by decide +kernel
def pt_34 : List (List (Int × Int)) := [[((-2147483648), 2147483647)], [((-2147483648), (-1)), (0, 2147483647)], [((-2147483648), 2147483647)], [((-2147483648), 2147483647)], [((-2147483648), 2147483647)], [((-2147483648), 2147483647)]]
theorem cv_34 : pt_34.all eg_cov = true ∧ pt_34.length = 6 := by decide +kernel
def pt_35 : List (List (Int × Int)) := [[((-2147483648), 2147483647)], [((-2147483648), (-1)), (0, 0), (1, 1), (2, 2147483647)], [((-2147483648), 2147483647)], [((-2147483648), 2147483647)], [((-2147483648), 2147483647)], [((-2147483648), 2147483647)]]
theorem cv_35 : pt_35.all eg_cov = true ∧ pt_35.length = 6 := by decide +kernel
def pt_36 : List (List (Int × Int)) := [[((-2147483648), 2147483647)], [((-2147483648), 2147483647)], [((-2147483648), 2147483647)], [((-2147483648), 2147483647)], [((-2147483648), 2147483647)], [((-2147483648), 2147483647)]]
theorem cv_36 : pt_36.all eg_cov = true ∧ pt_36.length = 6 := by decide +kernel
def pt_37 : List (List (Int × Int)) := [[((-2147483648), 2147483647)], [((-2147483648), 2147483647)], [((-2147483648), 2147483647)], [((-2147483648), 2147483647)], [((-2147483648), 2147483647)], [((-2147483648), 2147483647)]]
theorem cv_37 : pt_37.all eg_cov = true ∧ pt_37.length = 6 := by decide +kernel
def pt_38 : List (List (Int × Int)) := [[((-2147483648), 2147483647)], [((-2147483648), 2147483647)], [((-2147483648), 2147483647)], [((-2147483648), 2147483647)], [((-2147483648), 2147483647)], [((-2147483648), 2147483647)]]
theorem cv_38 : pt_38.all eg_cov = true ∧ pt_38.length = 6 := by decide +kernel
def pt_39 : List (List (Int × Int)) := [[((-2147483648), 2147483647)], [((-2147483648), (-1)), (0, 0), (1, 1), (2, 2147483647)], [((-2147483648), 2147483647)], [((-2147483648), 2147483647)], [((-2147483648), 2147483647)], [((-2147483648), 2147483647)]]
theorem cv_39 : pt_39.all eg_cov = true ∧ pt_39.length = 6 := by decide +kernel
def pt_40 : List (List (Int × Int)) := [[((-2147483648), 2147483647)], [((-2147483648), (-1)), (0, 0), (1, 1), (2, 2147483647)], [((-2147483648), 2147483647)], [((-2147483648), 2147483647)], [((-2147483648), 2147483647)], [((-2147483648), 2147483647)]]
theorem cv_40 : pt_40.all eg_cov = true ∧ pt_40.length = 6 := by decide +kernel
def pt_41 : List (List (Int × Int)) := [[((-2147483648), 2147483647)], [((-2147483648), (-1)), (0, 0), (1, 1), (2, 2), (3, 3), (4, 4), (5, 5), (6, 6), (7, 7), (8, 2147483647)], [((-2147483648), 2147483647)], [((-2147483648), 2147483647)], [((-2147483648), 2147483647)], [((-2147483648), 2147483647)]]
theorem cv_41 : pt_41.all eg_cov = true ∧ pt_41.length = 6 := by decide +kernel
theorem cs_0 : ∀ en ∈ eg_prod pt_0, eg_case 224 en = true := List.all_eq_true.mp (by decide +kernel)
theorem cs_1 : ∀ en ∈ eg_prod pt_1, eg_case 297 en = true := List.all_eq_true.mp (by decide +kernel)
theorem cs_3 : ∀ en ∈ eg_prod pt_3, eg_case 335 en = true := List.all_eq_true.mp (by decide +kernel)
theorem cs_6 : ∀ en ∈ eg_prod pt_6, eg_case 484 en = true := List.all_eq_true.mp (by decide +kernel)
theorem cs_7 : ∀ en ∈ eg_prod pt_7, eg_case 521 en = true := List.all_eq_true.mp (by decide +kernel)
theorem cs_8 : ∀ en ∈ eg_prod pt_8, eg_case 546 en = true := List.all_eq_true.mp (by decide +kernel)
theorem cs_9 : ∀ en ∈ eg_prod pt_9, eg_case 571 en = true := List.all_eq_true.mp (by decide +kernel)
theorem cs_10 : ∀ en ∈ eg_prod pt_10, eg_case 596 en = true := List.all_eq_true.mp (by decide +kernel)
theorem cs_11 : ∀ en ∈ eg_prod pt_11, eg_case 621 en = true := List.all_eq_true.mp (by decide +kernel)
theorem cs_13 : ∀ en ∈ eg_prod pt_13, eg_case 671 en = true := List.all_eq_true.mp (by decide +kernel)
theorem cs_14 : ∀ en ∈ eg_prod pt_14, eg_case 684 en = true := List.all_eq_true.mp (by decide +kernel)
theorem cs_16 : ∀ en ∈ eg_prod pt_16, eg_case 734 en = true := List.all_eq_true.mp (by decide +kernel)
theorem cs_17 : ∀ en ∈ eg_prod pt_17, eg_case 759 en = true := List.all_eq_true.mp (by decide +kernel)
theorem cs_18 : ∀ en ∈ eg_prod pt_18, eg_case 784 en = true := List.all_eq_true.mp (by decide +kernel)
theorem cs_19 : ∀ en ∈ eg_prod pt_19, eg_case 821 en = true := List.all_eq_true.mp (by decide +kernel)
theorem cs_20 : ∀ en ∈ eg_prod pt_20, eg_case 858 en = true := List.all_eq_true.mp (by decide +kernel)
theorem cs_21 : ∀ en ∈ eg_prod pt_21, eg_case 871 en = true := List.all_eq_true.mp (by decide +kernel)
theorem cs_22 : ∀ en ∈ eg_prod pt_22, eg_case 884 en = true := List.all_eq_true.mp (by decide +kernel)
theorem cs_23 : ∀ en ∈ eg_prod pt_23, eg_case 897 en = true := List.all_eq_true.mp (by decide +kernel)
theorem cs_24 : ∀ en ∈ eg_prod pt_24, eg_case 922 en = true := List.all_eq_true.mp (by decide +kernel)
theorem cs_25 : ∀ en ∈ eg_prod pt_25, eg_case 935 en = true := List.all_eq_true.mp (by decide +kernel)
theorem cs_26 : ∀ en ∈ eg_prod pt_26, eg_case 948 en = true := List.all_eq_true.mp (by decide +kernel)
theorem cs_27 : ∀ en ∈ eg_prod pt_27, eg_case 961 en = true := List.all_eq_true.mp (by decide +kernel)
theorem cs_28 : ∀ en ∈ eg_prod pt_28, eg_case 998 en = true := List.all_eq_true.mp (by decide +kernel)
theorem cs_29 : ∀ en ∈ eg_prod pt_29, eg_case 1011 en = true := List.all_eq_true.mp (by decide +kernel)
theorem cs_30 : ∀ en ∈ eg_prod pt_30, eg_case 1024 en = true := List.all_eq_true.mp (by decide +kernel)
theorem cs_33 : ∀ en ∈ eg_prod pt_33, eg_case 1099 en = true := List.all_eq_true.mp (by decide +kernel)
theorem cs_34 : ∀ en ∈ eg_prod pt_34, eg_case 1136 en = true := List.all_eq_true.mp (by decide +kernel)
theorem cs_35 : ∀ en ∈ eg_prod pt_35, eg_case 1185 en = true := List.all_eq_true.mp (by decide +kernel)
theorem cs_36 : ∀ en ∈ eg_prod pt_36, eg_case 1210 en = true := List.all_eq_true.mp (by decide +kernel)
theorem cs_37 : ∀ en ∈ eg_prod pt_37, eg_case 1235 en = true := List.all_eq_true.mp (by decide +kernel)
theorem cs_38 : ∀ en ∈ eg_prod pt_38, eg_case 1248 en = true := List.all_eq_true.mp (by decide +kernel)
theorem cs_40 : ∀ en ∈ eg_prod pt_40, eg_case 1298 en = true := List.all_eq_true.mp (by decide +kernel)
theorem cs_41 : ∀ en ∈ eg_prod pt_41, eg_case 1323 en = true := List.all_eq_true.mp (by decide +kernel)
def pt_42 : List (List (Int × Int)) := [[((-2147483648), 2147483647)], [((-2147483648), 2147483647)], [((-2147483648), 2147483647)], [((-2147483648), 2147483647)], [((-2147483648), 2147483647)], [((-2147483648), 2147483647)]]
theorem cv_42 : pt_42.all eg_cov = true ∧ pt_42.length = 6 := by decide +kernel
theorem cs_42 : ∀ en ∈ eg_prod pt_42, eg_case 1348 en = true := List.all_eq_true.mp (by decide +kernel)
