/-! a piece of a constructor, by kernel; written by wip/gen/gen92.py -/
theorem gM0 : chkX (execT 20000 134 127 0 (entL (mL 134) [.ref 127]) [] (List.replicate 127 dmy ++ [.inr (10, dflt 10)]) 0 0) xM0 = true := by decide +kernel
