/-! a piece of a constructor, by kernel; written by wip/gen/gen92.py -/
theorem gM1 : chkX (execT 20000 134 237 xM0.1 xM0.2.1 xM0.2.2.1 xM0.2.2.2.1 xM0.2.2.2.2.1 xM0.2.2.2.2.2) xM1 = true := by decide +kernel
