/-! the last piece of a constructor, by kernel; written by wip/gen/gen92.py -/
theorem gM4 : isMd (execF 20000 134 xM3.1 xM3.2.1 xM3.2.2.1 xM3.2.2.2.1 xM3.2.2.2.2.1 xM3.2.2.2.2.2) = true := by decide +kernel
