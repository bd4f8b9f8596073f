/-! the reference's constructor, by kernel -/
theorem runM : isMd (execF 20000 134 0 (entL (mL 134) [.ref 127]) [] (List.replicate 127 dmy ++ [.inr (10, dflt 10)]) 0 0) = true := by decide +kernel
