theorem pc_2 : chkA (rbA m_mo_init 19 53285 996 142878 857 [(5, .inl (.inl (.ofNat 293))), (2, .inr (.inl (some (.ofNat 0)))), (4, .inl (.inl (.ofNat 55))), (1, .inr (.inr (some 2036))), (0, .inr (.inr (some 904)))] [.inr (.inr (some 904))] sTc) sT2 996 142878 = true := by decide +kernel
theorem ct_2 : aevA layF FU DP m_mo_init [.inr (.inr (some 904))] sT1 905 (40680 + nT 12) = some (none, sT2, 996, 142878) := aevA_of (d := 19) (by decide +kernel) rfl ((sbA_ok pc_c 53285).trans (chkA_ok pc_2)) (by decide +kernel)


