/-! the last piece of a constructor, by kernel; written by wip/gen/gen92.py -/
theorem gC4 : isCn (execF 20000 0 xC3.1 xC3.2.1 xC3.2.2.1 xC3.2.2.2.1 xC3.2.2.2.2.1 xC3.2.2.2.2.2) = true := by decide +kernel
