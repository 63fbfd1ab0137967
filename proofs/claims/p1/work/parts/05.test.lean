
theorem ts_1 : (eg_run [] [] eg_bud 9999 0 400 1459 11 10 (eg_bud 1459).1 (eg_bud 1459).2 0 [(0, .ref 0)] [] [.inr (11, eg_def 11)]).isSome = true := by decide +kernel
