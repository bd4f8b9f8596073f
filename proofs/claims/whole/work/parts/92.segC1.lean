/-! a piece of a constructor, by kernel; written by wip/gen/gen92.py -/
theorem gC1 : chkX (execT 20000 0 98 xC0.1 xC0.2.1 xC0.2.2.1 xC0.2.2.2.1 xC0.2.2.2.2.1 xC0.2.2.2.2.2) xC1 = true := by decide +kernel
