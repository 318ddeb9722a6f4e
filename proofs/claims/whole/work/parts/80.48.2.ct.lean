theorem pc_1 : chkA (rbA m_rs_init 19 59917 904 40680 173 [(0, .inr (.inr (some 0)))] [.inr (.inr (some 0))] sTb) sT1 904 40680 = true := by decide +kernel
theorem ct_1 : aevA layF FU DP m_rs_init [.inr (.inr (some 0))] (eT 10) 1 (0 + nT 0) = some (none, sT1, 904, 40680) := aevA_of (d := 19) (by decide +kernel) rfl ((sbA_ok pc_a 59976).trans ((sbA_ok pc_b 59917).trans (chkA_ok pc_1))) (by decide +kernel)


