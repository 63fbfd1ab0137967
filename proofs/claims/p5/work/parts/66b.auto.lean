/-! a small method, by the run over intervals (wip/p41/auto2.py) -/
def sm_number : ab_Q := (758, 8, 0, 1, (2, [], [(0, .inr 5)], [], []), [], [(5, (3, [(2, .negSucc 2147483647, .ofNat 2147483647, false, none)], [], [.inl (2, .ofNat 0)], []))], none)
theorem tr_number : ab_Tr sm_number := ab_mk (T := []) (stops := []) (n := 200) (by decide +kernel) (ab_l0)
