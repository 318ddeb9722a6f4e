/-! SAFETY of methods: printed by wip/safe (vc.py, decl.py) -/
def md_rs_feed__2 : List rec := [(0, 1, 10, 11), (902, 904, 0, 100000)]
abbrev Q_rs_feed__2 (S : sS) (ts : Nat) (w : Int) (n : Int) : pst := fun r S1 => HI S1 ∧ FR md_rs_feed__2 S S1 ∧ (∃ z : Int, r = some (iv z) ∧ (-1 ≤ z ∧ z ≤ 5000) ∧ (1 ≤ n → n ≤ 8 → Xi S 0 10 + n ≤ 5000 → z = Xi S 0 10 + n ∧ Xi S1 0 10 = Xi S 0 10 + n) ∧ (n < 1 ∨ 8 < n ∨ 5000 < Xi S 0 10 + n → z = -1 ∧ Xi S1 0 10 = Xi S 0 10) ∧ (∀ t j : Nat, 0 < t → t ≠ ts → Xi S1 t j = Xi S t j))
set_option maxRecDepth 100000 in
theorem t_rs_feed__2 {S : sS} (hH : HI S) (ts : Nat) (w : Int) (n : Int) (hn : -2147483648 ≤ n ∧ n ≤ 2147483647) (h8 : S.2.2 0 8 = some ts) (htp : tp ts) (d : Nat) : Mt lay0 (d + 1) m_rs_feed [.ref 0, jw w, iv n] S (Q_rs_feed__2 S ts w n) := by
  refine Mt_R rfl rfl ?_
  have hF : FR md_rs_feed__2 S S := FR.rf
  have w1 : 0 ≤ Xi S 0 10 ∧ Xi S 0 10 ≤ 5000 := hH.c _ _
  have C30 : ∀ (n30 : Nat) (T1 : sS) (_ : HI T1) (_ : FR md_rs_feed__2 S T1) (v4 : Int), (-1 ≤ v4 ∧ v4 ≤ 7) → (Xi T1 0 10 + v4 + 1 = Xi S 0 10 + n) → (1 ≤ n ∧ n ≤ 8 ∧ Xi S 0 10 + n ≤ 5000) → (T1.2.2 0 8 = some ts) → (∀ t j : Nat, 0 < t → t ≠ ts → Xi T1 t j = Xi S t j) → n30 = (v4 + 1).toNat → Rl lay0 (d + 0) m_rs_feed 30 [(0, .ref 0), (1, jw w), (4, iv v4)] [] T1 (Q_rs_feed__2 S ts w n) := by
    intro n30
    induction n30 using Nat.strongRecOn with
    | ind n30 ih30 =>
      intro T1 hHT1 hFT1 v4 w2 w3 w4 h8_30 O30 hm30
      have w5 : 0 ≤ Xi T1 0 10 ∧ Xi T1 0 10 ≤ 5000 := hHT1.c _ _
      refine l_iload rfl rfl ?_
      refine l_if_lt rfl rfl (by unfold rg; omega) (fun w6 => ?_) (fun w7 => ?_)
      · refine l_aload_n rfl rfl ?_
        refine l_gfi rfl rfl rfl rfl rfl ?_
        refine l_ireturn rfl rfl ?_
        have w8 : 0 ≤ Xi T1 0 10 ∧ Xi T1 0 10 ≤ 5000 := hHT1.c _ _
        exact ⟨hHT1, hFT1, _, rfl, ⟨by omega, by omega⟩, (by first | assumption | omega), (by first | assumption | omega), (by first | exact O30 | exact fun _ _ _ _ => rfl)⟩
      · refine l_aload_n rfl rfl ?_
        refine l_gfr rfl rfl rfl rfl rfl h8_30 ?_
        refine l_aload_n rfl rfl ?_
        refine l_gfi rfl rfl rfl rfl rfl ?_
        refine l_lload_n rfl rfl ?_
        refine l_bipush rfl rfl ?_
        refine l_iload rfl rfl ?_
        refine l_imul rfl ?_
        refine l_lushrF rfl ?_
        have w10 : rgL (lushrF w (8 * v4)) := lushrF_rg
        refine l_l2iA rfl (fun c11 w11 => ?_)
        refine l_i2b rfl (fun c12 w12 => ?_)
        refine l_bastoreB1 (n := 5000) rfl (lay_tp (by assumption)) (by omega) (by omega) (by unfold rg; omega) ⟨by omega, by omega⟩ ?_
        obtain ⟨U2, eU2⟩ : ∃ T : sS, T = uI T1 ts (((Xi T1 0 10)).toNat) (Int32.ofInt c12) := ⟨_, rfl⟩
        rw [← eU2]
        have hHU2 : HI U2 := by rw [eU2]; exact HI_w hHT1 (by rw [lh_tp (by assumption)]; omega) (by rw [lh_tp (by assumption)]; omega)
        have hFU2 : FR md_rs_feed__2 S U2 := by rw [eU2]; exact FR.wI hFT1 (mdf_i (r := (902, 904, 0, 100000)) (List.mem_of_getElem? (i := 1) rfl) (inR_i (by unfold tp at *; omega) (by unfold tp at *; omega) (by omega) (by omega)))
        have w13 : Xi U2 ts (((Xi T1 0 10)).toNat) = c12 := by rw [eU2]; exact Xi_same (by unfold rg; omega)
        refine l_aload_n rfl rfl ?_
        refine l_dup rfl rfl ?_
        refine l_gfi rfl rfl rfl rfl rfl ?_
        have w14 : (Xi U2 0 10) = (Xi T1 0 10) := (show Xi U2 0 10 = Xi T1 0 10 from by rw [eU2]; exact Xi_ne (by unfold tp at *; omega))
        rw [w14]
        refine l_iconst rfl ?_
        refine l_iadd rfl ?_
        refine l_pfi rfl rfl rfl rfl ?_
        obtain ⟨U3, eU3⟩ : ∃ T : sS, T = uI U2 0 10 (Int32.ofInt ((Xi T1 0 10) + 1)) := ⟨_, rfl⟩
        rw [← eU3]
        have hHU3 : HI U3 := by rw [eU3]; exact HI_w hHU2 (show 0 ≤ ((Xi T1 0 10) + 1) by omega) (show ((Xi T1 0 10) + 1) ≤ 5000 by omega)
        have hFU3 : FR md_rs_feed__2 S U3 := by rw [eU3]; exact FR.wI hFU2 (mdf_i (r := (0, 1, 10, 11)) (List.mem_of_getElem? (i := 0) rfl) (inR_i (by omega) (by omega) (by omega) (by omega)))
        have w15 : Xi U3 0 10 = ((Xi T1 0 10) + 1) := by rw [eU3]; exact Xi_same (by unfold rg; omega)
        have O60 : ∀ t j : Nat, 0 < t → t ≠ ts → Xi U3 t j = Xi S t j := fun t j a b => by rw [eU3, Xi_ne (by omega), eU2, Xi_ne (by omega)]; exact O30 t j a b
        refine l_iinc rfl rfl rfl rfl ?_
        refine l_goto rfl rfl ?_
        have w16 : 0 ≤ Xi U3 0 10 ∧ Xi U3 0 10 ≤ 5000 := hHU3.c _ _
        exact Rl_weak (ih30 _ (by omega) U3 hHU3 hFU3 ((v4 + (-1))) (by omega) (by omega) (by omega) (((show U3.2.2 0 8 = U2.2.2 0 8 from by rw [eU3]; rfl).trans ((show U2.2.2 0 8 = T1.2.2 0 8 from by rw [eU2]; rfl).trans h8_30))) (by first | exact O60 | exact fun _ _ _ _ => rfl) rfl) (And.intro rfl (And.intro rfl (And.intro rfl (True.intro))))
  refine l_iload_n rfl rfl ?_
  refine l_iconst rfl ?_
  refine l_icmp_lt rfl rfl (by unfold rg; omega) (by unfold rg; omega) (fun w17 => ?_) (fun w18 => ?_)
  · refine l_iconst rfl ?_
    refine l_ireturn rfl rfl ?_
    have w19 : 0 ≤ Xi S 0 10 ∧ Xi S 0 10 ≤ 5000 := hH.c _ _
    exact ⟨hH, hF, _, rfl, ⟨by omega, by omega⟩, (by first | assumption | omega), (by first | assumption | omega), (by first | exact O30 | exact fun _ _ _ _ => rfl)⟩
  · refine l_iload_n rfl rfl ?_
    refine l_bipush rfl rfl ?_
    refine l_icmp_gt rfl rfl (by unfold rg; omega) (by unfold rg; omega) (fun w20 => ?_) (fun w21 => ?_)
    · refine l_iconst rfl ?_
      refine l_ireturn rfl rfl ?_
      have w22 : 0 ≤ Xi S 0 10 ∧ Xi S 0 10 ≤ 5000 := hH.c _ _
      exact ⟨hH, hF, _, rfl, ⟨by omega, by omega⟩, (by first | assumption | omega), (by first | assumption | omega), (by first | exact O30 | exact fun _ _ _ _ => rfl)⟩
    · refine l_aload_n rfl rfl ?_
      refine l_gfi rfl rfl rfl rfl rfl ?_
      refine l_iload_n rfl rfl ?_
      refine l_iadd rfl ?_
      refine l_sipush rfl rfl ?_
      refine l_icmp_le rfl rfl (by unfold rg; omega) (by unfold rg; omega) (fun w23 => ?_) (fun w24 => ?_)
      · refine l_iload_n rfl rfl ?_
        refine l_iconst rfl ?_
        refine l_isub rfl ?_
        refine l_istore rfl rfl rfl ?_
        have w25 : 0 ≤ Xi S 0 10 ∧ Xi S 0 10 ≤ 5000 := hH.c _ _
        exact Rl_weak (C30 _ S hH hF ((n - 1)) (by omega) (by omega) (by omega) (h8) (by first | exact O60 | exact fun _ _ _ _ => rfl) rfl) (And.intro rfl (And.intro rfl (And.intro rfl (True.intro))))
      · refine l_iconst rfl ?_
        refine l_ireturn rfl rfl ?_
        have w26 : 0 ≤ Xi S 0 10 ∧ Xi S 0 10 ≤ 5000 := hH.c _ _
        exact ⟨hH, hF, _, rfl, ⟨by omega, by omega⟩, (by first | assumption | omega), (by first | assumption | omega), (by first | exact O30 | exact fun _ _ _ _ => rfl)⟩
def md_rs_read__2 : List rec := [(0, 1, 8, 9), (0, 1, 9, 10), (0, 1, 10, 11), (0, 1, 11, 12), (1, 2, 3, 4), (2, 3, 0, 100000), (3, 4, 0, 100000), (4, 5, 0, 100000), (5, 6, 0, 100000), (6, 7, 0, 100000), (7, 8, 0, 100000), (8, 9, 0, 100000), (9, 10, 0, 100000), (10, 11, 0, 100000), (11, 12, 0, 100000), (12, 13, 0, 100000), (13, 14, 0, 100000), (14, 15, 0, 100000), (15, 16, 0, 100000), (16, 17, 0, 100000), (17, 18, 0, 100000), (18, 19, 0, 100000), (19, 20, 0, 100000), (20, 21, 1, 2), (20, 21, 12, 13), (21, 22, 0, 100000), (22, 23, 0, 100000), (23, 24, 0, 100000), (25, 65, 0, 100000), (66, 106, 0, 100000), (107, 147, 0, 100000), (148, 188, 0, 100000), (189, 195, 0, 100000), (196, 220, 0, 100000), (221, 245, 0, 100000), (246, 247, 2, 3), (246, 247, 5, 6), (246, 247, 8, 9), (248, 272, 0, 100000), (272, 273, 0, 100000), (274, 275, 0, 100000), (275, 276, 0, 100000), (276, 876, 0, 1), (276, 876, 1, 2), (276, 876, 2, 3), (276, 876, 3, 4), (276, 876, 4, 5), (276, 876, 5, 6), (276, 876, 6, 7), (876, 877, 4, 5), (876, 877, 5, 6), (876, 877, 6, 7), (876, 877, 7, 8), (876, 877, 8, 9), (876, 877, 9, 10), (877, 878, 0, 100000), (878, 879, 0, 100000), (879, 880, 0, 100000), (882, 883, 3, 4), (882, 883, 10, 11), (883, 884, 0, 100000), (884, 885, 0, 100000), (885, 886, 0, 100000), (886, 887, 0, 100000), (887, 888, 0, 100000), (888, 889, 0, 100000), (890, 891, 1, 2), (890, 891, 2, 3), (890, 891, 3, 4), (891, 892, 9, 10), (891, 892, 10, 11), (891, 892, 11, 12), (891, 892, 12, 13), (892, 893, 0, 100000), (893, 894, 0, 100000), (894, 895, 0, 100000), (895, 896, 3, 4), (895, 896, 4, 5), (895, 896, 5, 6), (895, 896, 6, 7), (895, 896, 7, 8), (895, 896, 8, 9), (895, 896, 9, 10), (895, 896, 10, 11), (895, 896, 11, 12), (895, 896, 12, 13), (895, 896, 13, 14), (895, 896, 14, 15), (896, 897, 0, 100000), (897, 898, 0, 100000), (898, 899, 0, 100000), (899, 900, 4, 5), (899, 900, 5, 6), (899, 900, 6, 7), (900, 901, 4, 5)]
abbrev Q_rs_read__2 (S : sS) (ts : Nat) (tq : Nat) : pst := fun r S1 => HI S1 ∧ FR md_rs_read__2 S S1 ∧ (∃ z : Int, r = some (iv z) ∧ (-5010 ≤ z ∧ z ≤ 5000) ∧ (WI S1) ∧ (ORD S1) ∧ (S1.2.2 0 8 = some tq) ∧ (S1.2.2 0 9 = some ts) ∧ (S1.2.2 20 1 = some ts) ∧ (S1.2.2 876 4 = some ts) ∧ (Xi S1 0 10 = 0))
def md_rs_command__2 : List rec := [(0, 1, 10, 11), (22, 23, 0, 100000), (23, 24, 0, 100000), (25, 65, 0, 100000), (66, 106, 0, 100000), (107, 147, 0, 100000), (148, 188, 0, 100000), (189, 195, 0, 100000), (882, 883, 12, 13), (882, 883, 13, 14), (889, 890, 0, 100000), (900, 901, 4, 5), (900, 901, 5, 6), (900, 901, 6, 7), (901, 902, 0, 100000), (997, 1005, 0, 100000), (1006, 1014, 0, 100000)]
abbrev Q_rs_command__2 (S : sS) : pst := fun r S1 => HI S1 ∧ FR md_rs_command__2 S S1 ∧ (∃ z : Int, r = some (iv z) ∧ (-2 ≤ z ∧ z ≤ 5) ∧ (TX S1) ∧ (Xi S1 0 10 = 0))
def md_mo_read__2 : List rec := [(904, 905, 1, 2), (904, 905, 3, 4), (904, 905, 8, 9), (904, 905, 15, 16), (904, 905, 16, 17), (904, 905, 18, 19), (904, 905, 19, 20), (904, 905, 23, 24), (904, 905, 30, 31), (904, 905, 32, 33), (904, 905, 41, 42), (904, 905, 47, 48), (904, 905, 49, 50), (904, 905, 51, 52), (904, 905, 55, 56), (904, 905, 60, 61), (904, 905, 61, 62), (904, 905, 62, 63), (904, 905, 63, 64), (904, 905, 64, 65), (904, 905, 65, 66), (904, 905, 66, 67), (904, 905, 69, 70), (904, 905, 70, 71), (904, 905, 71, 72), (904, 905, 72, 73), (904, 905, 73, 74), (904, 905, 74, 75), (904, 905, 75, 76), (904, 905, 76, 77), (904, 905, 77, 78), (904, 905, 78, 79), (904, 905, 79, 80), (904, 905, 80, 81), (904, 905, 81, 82), (904, 905, 93, 94), (904, 905, 94, 95), (904, 905, 98, 99), (904, 905, 99, 100), (904, 905, 100, 101), (904, 905, 101, 102), (904, 905, 102, 103), (904, 905, 103, 104), (904, 905, 104, 105), (904, 905, 105, 106), (904, 905, 106, 107), (904, 905, 108, 109), (904, 905, 109, 110), (904, 905, 110, 111), (904, 905, 112, 113), (904, 905, 113, 114), (904, 905, 115, 116), (904, 905, 116, 117), (904, 905, 117, 118), (904, 905, 125, 126), (904, 905, 128, 129), (904, 905, 129, 130), (904, 905, 130, 131), (904, 905, 142, 143), (904, 905, 144, 145), (904, 905, 146, 147), (904, 905, 147, 148), (904, 905, 150, 151), (904, 905, 151, 152), (904, 905, 153, 154), (904, 905, 154, 155), (904, 905, 156, 157), (904, 905, 157, 158), (904, 905, 158, 159), (904, 905, 160, 161), (906, 907, 0, 100000), (907, 908, 0, 100000), (908, 909, 0, 100000), (909, 910, 0, 100000), (910, 911, 0, 100000), (912, 913, 0, 100000), (913, 914, 0, 100000), (914, 915, 0, 100000), (915, 916, 0, 100000), (916, 917, 0, 100000), (917, 918, 0, 100000), (918, 919, 0, 100000), (919, 920, 0, 100000), (920, 921, 0, 100000), (921, 922, 0, 100000), (922, 923, 0, 100000), (923, 924, 0, 100000), (924, 925, 0, 100000), (925, 926, 0, 100000), (926, 927, 0, 100000), (927, 928, 0, 100000), (928, 929, 0, 100000), (929, 930, 0, 100000), (930, 931, 0, 100000), (931, 932, 0, 100000), (932, 933, 0, 100000), (933, 934, 0, 100000), (934, 935, 0, 100000), (935, 936, 0, 100000), (936, 937, 0, 100000), (937, 938, 0, 100000), (938, 939, 0, 100000), (939, 940, 0, 100000), (940, 941, 0, 100000), (941, 942, 0, 100000), (942, 943, 0, 100000), (943, 944, 0, 100000), (944, 945, 0, 100000), (945, 946, 0, 100000), (946, 947, 0, 100000), (947, 948, 0, 100000), (948, 949, 0, 100000), (949, 950, 0, 100000), (950, 951, 0, 100000), (951, 952, 0, 100000), (952, 953, 0, 100000), (953, 954, 0, 100000), (954, 955, 0, 100000), (955, 956, 0, 100000), (956, 957, 0, 100000), (957, 958, 0, 100000), (958, 959, 0, 100000), (959, 960, 0, 100000), (960, 961, 0, 100000), (961, 962, 0, 100000), (962, 963, 0, 100000), (963, 964, 0, 100000), (964, 965, 0, 100000), (965, 966, 0, 100000), (966, 967, 0, 100000), (967, 968, 0, 100000), (968, 969, 0, 100000), (969, 970, 0, 100000), (970, 971, 0, 100000), (971, 972, 0, 100000), (972, 973, 0, 100000), (973, 974, 0, 100000), (974, 975, 0, 100000), (975, 976, 0, 100000), (976, 977, 0, 100000), (977, 978, 0, 100000), (978, 979, 0, 100000), (979, 980, 0, 100000), (980, 981, 0, 100000), (981, 982, 0, 100000), (982, 983, 0, 100000), (983, 984, 0, 100000), (984, 985, 0, 100000), (985, 986, 0, 100000), (986, 987, 0, 100000), (987, 988, 0, 100000), (988, 989, 0, 100000), (989, 990, 0, 100000), (990, 991, 0, 100000), (991, 992, 0, 100000), (992, 993, 0, 100000), (993, 994, 0, 100000), (994, 995, 0, 100000)]
abbrev Q_mo_read__2 (S : sS) : pst := fun r S1 => HI S1 ∧ FR md_mo_read__2 S S1 ∧ (∃ z : Int, r = some (iv z) ∧ (-5010 ≤ z ∧ z ≤ 5001) ∧ (TIX S1) ∧ (PF S1) ∧ (BDA S1) ∧ (Xi S1 904 1 = 0))
def md_mo_command__2 : List rec := [(904, 905, 1, 2), (904, 905, 154, 155), (904, 905, 156, 157), (904, 905, 158, 159), (904, 905, 160, 161), (904, 905, 161, 162), (904, 905, 162, 163), (904, 905, 164, 165), (904, 905, 165, 166), (919, 920, 0, 100000), (920, 921, 0, 100000), (925, 926, 0, 100000), (930, 931, 0, 100000), (931, 932, 0, 100000), (932, 933, 0, 100000), (940, 941, 0, 100000), (993, 994, 0, 100000), (994, 995, 0, 100000), (995, 996, 0, 100000)]
abbrev Q_mo_command__2 (S : sS) : pst := fun r S1 => HI S1 ∧ FR md_mo_command__2 S S1 ∧ (∃ z : Int, r = some (iv z) ∧ (-2 ≤ z ∧ z ≤ 5) ∧ (TXM S1) ∧ (WYM S1) ∧ (Xi S1 904 1 = 0))
