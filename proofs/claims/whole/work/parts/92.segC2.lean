/-! a piece of a constructor, by kernel; written by wip/gen/gen92.py -/
theorem gC2 : chkX (execT 20000 0 120 xC1.1 xC1.2.1 xC1.2.2.1 xC1.2.2.2.1 xC1.2.2.2.2.1 xC1.2.2.2.2.2) xC2 = true := by decide +kernel
