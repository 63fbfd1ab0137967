/-! the end of the reference's headland (wip/p39/gensum39.py) -/
def sm_y5927 : ab_Q := (1650, 11, 146, 1, (4, [(2, .ofNat 0, .ofNat 10, false, none), (3, .ofNat 0, .ofNat 940, false, none)], [(0, .inr 184), (1, .inl (2, .ofNat 0))], [], [(186372, 3, .ofNat 0)]), [(184, 90, 99)], [(176, (4, [], [(0, .inr 184), (1, .inl (0, .ofNat 10))], [], []))], some (2, .ofNat 1))
theorem tr_y5927 : ab_Tr sm_y5927 := ab_mk (T := []) (stops := [176]) (n := 200) (by decide +kernel) (ab_l0)
def sm_hd144 : ab_Q := (1650, 11, 144, 1, (2, [], [(0, .inr 184)], [], []), [(184, 90, 99)], [(176, (2, [], [(0, .inr 184), (1, .inl (0, .ofNat 10))], [], []))], none)
theorem tr_hd144 : ab_Tr sm_hd144 := ab_mk (T := [sm_y5927]) (stops := [176]) (n := 200) (by decide +kernel) (ab_l1 tr_y5927 ab_l0)
