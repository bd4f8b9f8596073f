/-! the class's constructor, by kernel -/
theorem runC : isCn (execF 20000 0 0 (entL (mL 0) [.ref 1]) [] [dmy, .inr (9, dflt 9)] 0 0) = true := by decide +kernel
