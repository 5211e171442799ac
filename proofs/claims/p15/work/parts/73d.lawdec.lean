theorem dL_law_721 : decode code 721 = .ok (.dload 7, 2) := by decide +kernel
theorem dL_law_723 : decode code 723 = .ok (.dcmp .l, 1) := by decide +kernel
theorem dL_law_724 : decode code 724 = .ok (.ifCond .ne 5, 3) := by decide +kernel
theorem dL_law_727 : decode code 727 = .ok (.iconst 0, 1) := by decide +kernel
theorem dL_law_728 : decode code 728 = .ok (.ireturn, 1) := by decide +kernel
theorem dL_law_729 : decode code 729 = .ok (.goto 3, 3) := by decide +kernel
theorem dL_law_732 : decode code 732 = .ok (.iinc 5 5, 3) := by decide +kernel
theorem dL_law_735 : decode code 735 = .ok (.goto (-667), 3) := by decide +kernel
theorem dL_law_738 : decode code 738 = .ok (.iconst 1, 1) := by decide +kernel
theorem dL_law_739 : decode code 739 = .ok (.ireturn, 1) := by decide +kernel
