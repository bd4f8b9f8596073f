/-! a piece of a constructor, by kernel; written by wip/gen/gen92.py -/
theorem gC0 : chkX (execT 20000 0 71 0 (entL (mL 0) [.ref 1]) [] [dmy, .inr (9, dflt 9)] 0 0) xC0 = true := by decide +kernel
