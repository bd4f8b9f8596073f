/-! a piece of a constructor, by kernel; written by wip/gen/gen92.py -/
theorem gM2 : chkX (execT 20000 134 350 xM1.1 xM1.2.1 xM1.2.2.1 xM1.2.2.2.1 xM1.2.2.2.2.1 xM1.2.2.2.2.2) xM2 = true := by decide +kernel
