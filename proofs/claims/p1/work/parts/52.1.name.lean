/-! the first call is name: ranges, piece 1 -/
theorem nm_2_0 : bx3 (ev4 5 (.inl (.ofNat 1)) (.inr (.negSucc 2147483647, .negSucc 0))) [.inr (.negSucc 2147483647, .ofNat 2147483647)] = true := by decide +kernel
theorem nm_2_1 : bx3 (ev4 5 (.inl (.ofNat 1)) (.inl (.ofNat 0))) [.inr (.negSucc 2147483647, .negSucc 0), .inl (.ofNat 0), .inl (.ofNat 1), .inl (.ofNat 2), .inl (.ofNat 3), .inl (.ofNat 4), .inl (.ofNat 5), .inl (.ofNat 6), .inr (.ofNat 7, .ofNat 2147483647)] = true := by decide +kernel
theorem nm_2_2 : bx3 (ev4 5 (.inl (.ofNat 1)) (.inl (.ofNat 1))) [.inr (.negSucc 2147483647, .negSucc 0), .inl (.ofNat 0), .inl (.ofNat 1), .inl (.ofNat 2), .inl (.ofNat 3), .inl (.ofNat 4), .inr (.ofNat 5, .ofNat 2147483647)] = true := by decide +kernel
theorem nm_2_3 : bx3 (ev4 5 (.inl (.ofNat 1)) (.inr (.ofNat 2, .ofNat 2147483647))) [.inr (.negSucc 2147483647, .ofNat 2147483647)] = true := by decide +kernel
theorem nm_3_0 : bx3 (ev4 5 (.inl (.ofNat 2)) (.inr (.negSucc 2147483647, .negSucc 0))) [.inr (.negSucc 2147483647, .ofNat 2147483647)] = true := by decide +kernel
theorem nm_3_1 : bx3 (ev4 5 (.inl (.ofNat 2)) (.inl (.ofNat 0))) [.inr (.negSucc 2147483647, .negSucc 0), .inl (.ofNat 0), .inl (.ofNat 1), .inl (.ofNat 2), .inl (.ofNat 3), .inl (.ofNat 4), .inl (.ofNat 5), .inl (.ofNat 6), .inr (.ofNat 7, .ofNat 2147483647)] = true := by decide +kernel
theorem nm_3_2 : bx3 (ev4 5 (.inl (.ofNat 2)) (.inr (.ofNat 1, .ofNat 2147483647))) [.inr (.negSucc 2147483647, .ofNat 2147483647)] = true := by decide +kernel
theorem nm_4_0 : bx3 (ev4 5 (.inl (.ofNat 3)) (.inr (.negSucc 2147483647, .negSucc 0))) [.inr (.negSucc 2147483647, .ofNat 2147483647)] = true := by decide +kernel
theorem nm_4_1 : bx3 (ev4 5 (.inl (.ofNat 3)) (.inl (.ofNat 0))) [.inr (.negSucc 2147483647, .negSucc 0), .inl (.ofNat 0), .inl (.ofNat 1), .inl (.ofNat 2), .inl (.ofNat 3), .inl (.ofNat 4), .inl (.ofNat 5), .inr (.ofNat 6, .ofNat 2147483647)] = true := by decide +kernel
theorem nm_4_2 : bx3 (ev4 5 (.inl (.ofNat 3)) (.inl (.ofNat 1))) [.inr (.negSucc 2147483647, .negSucc 0), .inl (.ofNat 0), .inl (.ofNat 1), .inl (.ofNat 2), .inl (.ofNat 3), .inl (.ofNat 4), .inl (.ofNat 5), .inl (.ofNat 6), .inl (.ofNat 7), .inl (.ofNat 8), .inr (.ofNat 9, .ofNat 2147483647)] = true := by decide +kernel
theorem nm_4_3 : bx3 (ev4 5 (.inl (.ofNat 3)) (.inr (.ofNat 2, .ofNat 2147483647))) [.inr (.negSucc 2147483647, .ofNat 2147483647)] = true := by decide +kernel
theorem nm_5_0 : bx3 (ev4 5 (.inl (.ofNat 4)) (.inr (.negSucc 2147483647, .negSucc 0))) [.inr (.negSucc 2147483647, .ofNat 2147483647)] = true := by decide +kernel
theorem nm_5_1 : bx3 (ev4 5 (.inl (.ofNat 4)) (.inr (.ofNat 0, .ofNat 2147483647))) [.inr (.negSucc 2147483647, .ofNat 2147483647)] = true := by decide +kernel
theorem nm_6_0 : bx3 (ev4 5 (.inl (.ofNat 5)) (.inr (.negSucc 2147483647, .negSucc 0))) [.inr (.negSucc 2147483647, .ofNat 2147483647)] = true := by decide +kernel
theorem nm_6_1 : bx3 (ev4 5 (.inl (.ofNat 5)) (.inl (.ofNat 0))) [.inr (.negSucc 2147483647, .negSucc 0), .inl (.ofNat 0), .inl (.ofNat 1), .inl (.ofNat 2), .inl (.ofNat 3), .inl (.ofNat 4), .inl (.ofNat 5), .inl (.ofNat 6), .inl (.ofNat 7), .inl (.ofNat 8), .inl (.ofNat 9), .inl (.ofNat 10), .inl (.ofNat 11), .inr (.ofNat 12, .ofNat 2147483647)] = true := by decide +kernel
theorem nm_6_2 : bx3 (ev4 5 (.inl (.ofNat 5)) (.inr (.ofNat 1, .ofNat 2147483647))) [.inr (.negSucc 2147483647, .ofNat 2147483647)] = true := by decide +kernel
theorem nm_7_0 : bx3 (ev4 5 (.inl (.ofNat 6)) (.inr (.negSucc 2147483647, .negSucc 0))) [.inr (.negSucc 2147483647, .ofNat 2147483647)] = true := by decide +kernel
theorem nm_7_1 : bx3 (ev4 5 (.inl (.ofNat 6)) (.inr (.ofNat 0, .ofNat 2147483647))) [.inr (.negSucc 2147483647, .ofNat 2147483647)] = true := by decide +kernel
theorem nm_8_0 : bx3 (ev4 5 (.inl (.ofNat 7)) (.inr (.negSucc 2147483647, .negSucc 0))) [.inr (.negSucc 2147483647, .ofNat 2147483647)] = true := by decide +kernel
theorem nm_8_1 : bx3 (ev4 5 (.inl (.ofNat 7)) (.inr (.ofNat 0, .ofNat 2147483647))) [.inr (.negSucc 2147483647, .ofNat 2147483647)] = true := by decide +kernel
