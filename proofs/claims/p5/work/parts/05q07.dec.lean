theorem dk_2105_0 : eg_dok 2105 ((pg_2105.drop 0).take 60) = true := by decide +kernel
theorem dk_2105_1 : eg_dok 2105 ((pg_2105.drop 60).take 60) = true := by decide +kernel
theorem dk_2105_2 : eg_dok 2105 ((pg_2105.drop 120).take 60) = true := by decide +kernel
theorem dk_2109_0 : eg_dok 2109 ((pg_2109.drop 0).take 60) = true := by decide +kernel
theorem dk_2109_1 : eg_dok 2109 ((pg_2109.drop 60).take 60) = true := by decide +kernel
theorem dk_2113_0 : eg_dok 2113 ((pg_2113.drop 0).take 60) = true := by decide +kernel
theorem dk_2117_0 : eg_dok 2117 ((pg_2117.drop 0).take 60) = true := by decide +kernel
theorem dk_2121_0 : eg_dok 2121 ((pg_2121.drop 0).take 60) = true := by decide +kernel
