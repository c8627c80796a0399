theorem d_L_law_543 : decode code 543 = .ok (.aload_n 0, 1) := by decide +kernel
theorem d_L_law_544 : decode code 544 = .ok (.iload_n 3, 1) := by decide +kernel
theorem d_L_law_545 : decode code 545 = .ok (.iconst 2, 1) := by decide +kernel
theorem d_L_law_546 : decode code 546 = .ok (.iadd, 1) := by decide +kernel
theorem d_L_law_547 : decode code 547 = .ok (.iaload, 1) := by decide +kernel
theorem d_L_law_548 : decode code 548 = .ok (.invokevirtual 74, 3) := by decide +kernel
theorem d_L_law_551 : decode code 551 = .ok (.if_icmp .eq 28, 3) := by decide +kernel
theorem d_L_law_554 : decode code 554 = .ok (.iconst 0, 1) := by decide +kernel
theorem d_L_law_555 : decode code 555 = .ok (.ireturn, 1) := by decide +kernel
theorem d_L_law_556 : decode code 556 = .ok (.aload_n 1, 1) := by decide +kernel
theorem d_L_law_557 : decode code 557 = .ok (.aload_n 0, 1) := by decide +kernel
theorem d_L_law_558 : decode code 558 = .ok (.iload_n 3, 1) := by decide +kernel
theorem d_L_law_559 : decode code 559 = .ok (.iconst 1, 1) := by decide +kernel
theorem d_L_law_560 : decode code 560 = .ok (.iadd, 1) := by decide +kernel
theorem d_L_law_561 : decode code 561 = .ok (.iaload, 1) := by decide +kernel
theorem d_L_law_562 : decode code 562 = .ok (.invokevirtual 75, 3) := by decide +kernel
theorem d_L_law_565 : decode code 565 = .ok (.aload_n 2, 1) := by decide +kernel
theorem d_L_law_566 : decode code 566 = .ok (.aload_n 0, 1) := by decide +kernel
theorem d_L_law_567 : decode code 567 = .ok (.iload_n 3, 1) := by decide +kernel
theorem d_L_law_568 : decode code 568 = .ok (.iconst 1, 1) := by decide +kernel
theorem d_L_law_569 : decode code 569 = .ok (.iadd, 1) := by decide +kernel
theorem d_L_law_570 : decode code 570 = .ok (.iaload, 1) := by decide +kernel
theorem d_L_law_571 : decode code 571 = .ok (.invokevirtual 78, 3) := by decide +kernel
theorem d_L_law_574 : decode code 574 = .ok (.if_icmp .eq 5, 3) := by decide +kernel
theorem d_L_law_577 : decode code 577 = .ok (.iconst 0, 1) := by decide +kernel
theorem d_L_law_578 : decode code 578 = .ok (.ireturn, 1) := by decide +kernel
theorem d_L_law_579 : decode code 579 = .ok (.iinc 3 5, 3) := by decide +kernel
theorem d_L_law_582 : decode code 582 = .ok (.goto (-564), 3) := by decide +kernel
theorem d_L_law_585 : decode code 585 = .ok (.iconst 1, 1) := by decide +kernel
theorem d_L_law_586 : decode code 586 = .ok (.ireturn, 1) := by decide +kernel
