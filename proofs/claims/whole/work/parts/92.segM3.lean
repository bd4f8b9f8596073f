/-! a piece of a constructor, by kernel; written by wip/gen/gen92.py -/
theorem gM3 : chkX (execT 20000 134 451 xM2.1 xM2.2.1 xM2.2.2.1 xM2.2.2.2.1 xM2.2.2.2.2.1 xM2.2.2.2.2.2) xM3 = true := by decide +kernel
