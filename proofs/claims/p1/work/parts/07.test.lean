theorem ts_1 : (eg_run [] [] 99999 0 5000 1459 11 10 (eg_bud 1459).1 (eg_bud 1459).2 0 (eg_pg 1459) [(0, .ref 0)] [] 1 (eg_set eg_h0 0 (.inr (11, eg_def 11)))).isSome = true := by decide +kernel
