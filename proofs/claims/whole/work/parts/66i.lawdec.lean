theorem dL_law_824 : decode cL_law 824 = .ok (.iinc 3 8, 3) := by decide +kernel
theorem dL_law_827 : decode cL_law 827 = .ok (.goto (-809), 3) := by decide +kernel
theorem dL_law_830 : decode cL_law 830 = .ok (.iconst 1, 1) := by decide +kernel
theorem dL_law_831 : decode cL_law 831 = .ok (.ireturn, 1) := by decide +kernel
