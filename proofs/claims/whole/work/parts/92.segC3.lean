/-! a piece of a constructor, by kernel; written by wip/gen/gen92.py -/
theorem gC3 : chkX (execT 20000 0 147 xC2.1 xC2.2.1 xC2.2.2.1 xC2.2.2.2.1 xC2.2.2.2.2.1 xC2.2.2.2.2.2) xC3 = true := by decide +kernel
