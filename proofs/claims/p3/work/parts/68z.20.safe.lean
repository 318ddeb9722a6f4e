/-! SAFETY of methods: printed by wip/safe (vc.py, decl.py) -/
def md_mo_readStory : List rec := [(904, 905, 8, 9), (904, 905, 15, 16), (904, 905, 16, 17), (904, 905, 18, 19), (904, 905, 19, 20), (904, 905, 23, 24), (904, 905, 30, 31), (904, 905, 32, 33), (904, 905, 41, 42), (904, 905, 47, 48), (904, 905, 49, 50), (904, 905, 51, 52), (904, 905, 55, 56), (904, 905, 60, 61), (904, 905, 61, 62), (904, 905, 62, 63), (904, 905, 63, 64), (904, 905, 64, 65), (904, 905, 65, 66), (904, 905, 66, 67), (904, 905, 69, 70), (904, 905, 70, 71), (904, 905, 71, 72), (904, 905, 72, 73), (904, 905, 73, 74), (904, 905, 74, 75), (904, 905, 75, 76), (904, 905, 76, 77), (904, 905, 77, 78), (904, 905, 78, 79), (904, 905, 79, 80), (904, 905, 80, 81), (904, 905, 81, 82), (904, 905, 93, 94), (904, 905, 94, 95), (904, 905, 98, 99), (904, 905, 99, 100), (904, 905, 100, 101), (904, 905, 101, 102), (904, 905, 102, 103), (904, 905, 103, 104), (904, 905, 104, 105), (904, 905, 105, 106), (904, 905, 106, 107), (904, 905, 108, 109), (904, 905, 109, 110), (904, 905, 110, 111), (904, 905, 112, 113), (904, 905, 113, 114), (904, 905, 115, 116), (904, 905, 116, 117), (904, 905, 117, 118), (904, 905, 125, 126), (904, 905, 128, 129), (904, 905, 129, 130), (904, 905, 130, 131), (904, 905, 142, 143), (904, 905, 144, 145), (904, 905, 146, 147), (904, 905, 147, 148), (904, 905, 150, 151), (904, 905, 151, 152), (904, 905, 153, 154), (904, 905, 154, 155), (904, 905, 156, 157), (904, 905, 157, 158), (904, 905, 158, 159), (904, 905, 160, 161), (912, 913, 0, 100000), (913, 914, 0, 100000), (914, 915, 0, 100000), (915, 916, 0, 100000), (916, 917, 0, 100000), (917, 918, 0, 100000), (918, 919, 0, 100000), (919, 920, 0, 100000), (920, 921, 0, 100000), (921, 922, 0, 100000), (922, 923, 0, 100000), (923, 924, 0, 100000), (924, 925, 0, 100000), (925, 926, 0, 100000), (926, 927, 0, 100000), (927, 928, 0, 100000), (928, 929, 0, 100000), (929, 930, 0, 100000), (930, 931, 0, 100000), (931, 932, 0, 100000), (932, 933, 0, 100000), (933, 934, 0, 100000), (934, 935, 0, 100000), (935, 936, 0, 100000), (936, 937, 0, 100000), (937, 938, 0, 100000), (938, 939, 0, 100000), (939, 940, 0, 100000), (940, 941, 0, 100000), (941, 942, 0, 100000), (942, 943, 0, 100000), (943, 944, 0, 100000), (944, 945, 0, 100000), (945, 946, 0, 100000), (946, 947, 0, 100000), (947, 948, 0, 100000), (948, 949, 0, 100000), (949, 950, 0, 100000), (950, 951, 0, 100000), (951, 952, 0, 100000), (952, 953, 0, 100000), (953, 954, 0, 100000), (954, 955, 0, 100000), (955, 956, 0, 100000), (956, 957, 0, 100000), (957, 958, 0, 100000), (958, 959, 0, 100000), (959, 960, 0, 100000), (960, 961, 0, 100000), (961, 962, 0, 100000), (962, 963, 0, 100000), (963, 964, 0, 100000), (964, 965, 0, 100000), (965, 966, 0, 100000), (966, 967, 0, 100000), (967, 968, 0, 100000), (968, 969, 0, 100000), (969, 970, 0, 100000), (970, 971, 0, 100000), (971, 972, 0, 100000), (972, 973, 0, 100000), (973, 974, 0, 100000), (974, 975, 0, 100000), (975, 976, 0, 100000), (976, 977, 0, 100000), (977, 978, 0, 100000), (978, 979, 0, 100000), (979, 980, 0, 100000), (980, 981, 0, 100000), (981, 982, 0, 100000), (982, 983, 0, 100000), (983, 984, 0, 100000), (984, 985, 0, 100000), (985, 986, 0, 100000), (986, 987, 0, 100000), (987, 988, 0, 100000), (988, 989, 0, 100000), (989, 990, 0, 100000), (990, 991, 0, 100000), (991, 992, 0, 100000), (992, 993, 0, 100000), (993, 994, 0, 100000), (994, 995, 0, 100000)]
abbrev Q_mo_readStory (S : sS) (n : Nat) : pst := fun r S1 => HI S1 ∧ FR md_mo_readStory S S1 ∧ (r = none ∧ (Xi S1 904 62 = 0 → TIX S1) ∧ (ABV S1) ∧ (WYM S1) ∧ (PF S1) ∧ (BDA S1))
set_option maxRecDepth 100000 in
set_option maxHeartbeats 8000000 in
theorem c36_mo_readStory {S : sS} (hH : HI S) (n : Nat) (hT : TK S n) (hK : TXK S n) (hI : TIX S) (hPF : PF S) (hBDA : BDA S) (d : Nat) : ∀ (n36 : Nat) (T1 : sS) (_ : HI T1) (_ : FR md_mo_readStory S T1), (Xi T1 904 62 = 0 → TIX T1) → (ABV T1) → (WYM T1) → (Xi T1 904 62 = 0 → Xi T1 904 8 ≤ n) → (Xi T1 904 61 ≤ Xi T1 904 8) → (PF T1) → (BDA T1) → n36 = (20000 - Xi T1 904 8 - 9000 * Xi T1 904 62).toNat → Rl lay0 (d + 13) m_mo_readStory 36 [(0, .ref 904)] [] T1 (Q_mo_readStory S n) := by
  have hF : FR md_mo_readStory S S := FR.rf
  have w1 : 0 ≤ Xi S 904 16 ∧ Xi S 904 16 ≤ 16 := hH.c _ _
  have w2 : 0 ≤ Xi S 904 19 ∧ Xi S 904 19 ≤ 24 := hH.c _ _
  have w3 : -1 ≤ Xi S 904 60 ∧ Xi S 904 60 ≤ 23 := hH.c _ _
  have w4 : 0 ≤ Xi S 904 61 ∧ Xi S 904 61 ≤ 5001 := hH.c _ _
  have w5 : 0 ≤ Xi S 904 62 ∧ Xi S 904 62 ≤ 9 := hH.c _ _
  have w6 : 0 ≤ Xi S 904 65 ∧ Xi S 904 65 ≤ 1 := hH.c _ _
  have w7 : 0 ≤ Xi S 904 70 ∧ Xi S 904 70 ≤ 20 := hH.c _ _
  have w8 : 0 ≤ Xi S 904 8 ∧ Xi S 904 8 ≤ 5010 := hH.c _ _
  have w9 : 0 ≤ Xi S 904 94 ∧ Xi S 904 94 ≤ 1700 := hH.c _ _
  have hn5 := hT.1
  have h_TXM : TXM S := hI.1
  have h_WYM : WYM S := hI.2.1
  have h_LXM : LXM S := hI.2.2.1
  have h_LCN : LCN S := hI.2.2.2.1
  have h_ABV : ABV S := hI.2.2.2.2.1
  have h_DCM : DCM S := hI.2.2.2.2.2.1
  have h_VTM : VTM S := hI.2.2.2.2.2.2.1
  have h_VCN : VCN S := hI.2.2.2.2.2.2.2.1
  have h_WYD : WYD S := hI.2.2.2.2.2.2.2.2.1
  have h_RDT : RDT S := hI.2.2.2.2.2.2.2.2.2.1
  have h_AKR : AKR S := hI.2.2.2.2.2.2.2.2.2.2.1
  have hi12 : Xi S 904 60 < Xi S 904 19 := hI.2.2.2.2.2.2.2.2.2.2.2.1
  have hi13 : 2 ≤ Xi S 904 16 := hI.2.2.2.2.2.2.2.2.2.2.2.2
  intro n36
  induction n36 using Nat.strongRecOn with
  | ind n36 ih36 =>
    intro T1 hHT1 hFT1 A36 B36 W36 w10 w11 PF36 BD36 hm36
    have w12 : 0 ≤ Xi T1 904 61 ∧ Xi T1 904 61 ≤ 5001 := hHT1.c _ _
    have w13 : 0 ≤ Xi T1 904 62 ∧ Xi T1 904 62 ≤ 9 := hHT1.c _ _
    have w14 : 0 ≤ Xi T1 904 8 ∧ Xi T1 904 8 ≤ 5010 := hHT1.c _ _
    have C119 : ∀  (T2 : sS) (_ : HI T2) (_ : FR md_mo_readStory S T2) (v1 : Int) (v3 : Int), (0 ≤ v1 ∧ v1 ≤ 5001) → (0 ≤ v3 ∧ v3 ≤ 5010) → (TXM T2) → (WYM T2) → (LXM T2) → (LCN T2) → (ABV T2) → (DCM T2) → (VTM T2) → (VCN T2) → (WYD T2) → (RDT T2) → (AKR T2) → (Xi T2 904 60 < Xi T2 904 19) → (2 ≤ Xi T2 904 16) → (v1 < v3) → (v3 ≤ n) → (0 ≤ v1) → (Xi T2 904 8 = v3) → (Xi T2 904 65 = 0) → (Xi T2 904 62 = 0) → (Xi T2 904 61 ≤ v1) → (Xi T2 904 94 ≤ 1668) → (RNV T2 n) → (SNQ T2 n) → (AP9 T2 n) → (Xi T2 904 70 ≠ 0 → Xi S 907 (v3 - 1).toNat = 46) → (PF T2) → (BDA T2) → ((20000 - v1).toNat ≤ n36) → Rl lay0 (d + 13) m_mo_readStory 119 [(0, .ref 904), (1, iv v1), (3, iv v3)] [] T2 (Q_mo_readStory S n) := by
      intro T2 hHT2 hFT2 v1 v3 w15 w16 TXM119 WYM119 LXM119 LCN119 ABV119 DCM119 VTM119 VCN119 WYD119 RDT119 AKR119 w17 w18 w19 w20 w21 w22 w23 w24 w25 w26 V119 q119 p119 t119 PF119 BD119 w27
      have w28 : 0 ≤ Xi T2 904 16 ∧ Xi T2 904 16 ≤ 16 := hHT2.c _ _
      have w29 : 0 ≤ Xi T2 904 19 ∧ Xi T2 904 19 ≤ 24 := hHT2.c _ _
      have w30 : -1 ≤ Xi T2 904 60 ∧ Xi T2 904 60 ≤ 23 := hHT2.c _ _
      have w31 : 0 ≤ Xi T2 904 61 ∧ Xi T2 904 61 ≤ 5001 := hHT2.c _ _
      have w32 : 0 ≤ Xi T2 904 62 ∧ Xi T2 904 62 ≤ 9 := hHT2.c _ _
      have w33 : 0 ≤ Xi T2 904 65 ∧ Xi T2 904 65 ≤ 1 := hHT2.c _ _
      have w34 : 0 ≤ Xi T2 904 70 ∧ Xi T2 904 70 ≤ 20 := hHT2.c _ _
      have w35 : 0 ≤ Xi T2 904 8 ∧ Xi T2 904 8 ≤ 5010 := hHT2.c _ _
      have w36 : 0 ≤ Xi T2 904 94 ∧ Xi T2 904 94 ≤ 1700 := hHT2.c _ _
      refine l_aload_n rfl rfl ?_
      refine l_iload_n rfl rfl ?_
      have w37 : 0 ≤ Xi T2 904 105 ∧ Xi T2 904 105 ≤ 5000 := hHT2.c _ _
      have w38 : 0 ≤ Xi T2 904 106 ∧ Xi T2 904 106 ≤ 9 := hHT2.c _ _
      have w39 : 0 ≤ Xi T2 904 16 ∧ Xi T2 904 16 ≤ 16 := hHT2.c _ _
      have w40 : 0 ≤ Xi T2 904 19 ∧ Xi T2 904 19 ≤ 24 := hHT2.c _ _
      have w41 : -1 ≤ Xi T2 904 60 ∧ Xi T2 904 60 ≤ 23 := hHT2.c _ _
      have w42 : 0 ≤ Xi T2 904 61 ∧ Xi T2 904 61 ≤ 5001 := hHT2.c _ _
      have w43 : 0 ≤ Xi T2 904 62 ∧ Xi T2 904 62 ≤ 9 := hHT2.c _ _
      have w44 : 0 ≤ Xi T2 904 65 ∧ Xi T2 904 65 ≤ 1 := hHT2.c _ _
      have w45 : 0 ≤ Xi T2 904 66 ∧ Xi T2 904 66 ≤ 5010 := hHT2.c _ _
      have w46 : 0 ≤ Xi T2 904 70 ∧ Xi T2 904 70 ≤ 20 := hHT2.c _ _
      have w47 : 0 ≤ Xi T2 904 8 ∧ Xi T2 904 8 ≤ 5010 := hHT2.c _ _
      have w48 : 0 ≤ Xi T2 904 94 ∧ Xi T2 904 94 ≤ 1700 := hHT2.c _ _
      refine l_callV rfl rfl rfl (t_mo_asked hHT2 n (v3 - 1).toNat v1 ⟨by omega, by omega⟩ (by first | assumption | exact (TK_FR hFT2 rfl (by assumption : TK S _))) (by first | assumption | exact (by assumption : RNV T2 _)) (by first | assumption | exact (by assumption : LXM T2)) (by first | assumption | exact (by assumption : ABV T2)) (by first | assumption | exact (by assumption : DCM T2)) (by first | assumption | exact (TXK_FR hFT2 rfl (by assumption : TXK S _))) (by first | assumption | exact (by assumption : TXM T2)) (by first | assumption | exact (by assumption : SNQ T2 _)) (p119) (by omega) (RDT119) (by first | assumption | exact (by assumption : PF T2)) (fun e => ⟨by omega, by have u := t119 (by omega); have w := tk_lt hT (a := v3 - 1) (by omega) (by omega) (by omega); omega, by rw [(hFT2.cx 907 rfl _).1]; exact t119 (by omega)⟩) _) ?_
      rintro _ T3 ⟨hHT3, w50, rfl, f121, g121⟩
      have hFT3 : FR md_mo_readStory S T3 := FR.tr hFT2 w50 rfl
      show Rl _ _ _ _ _ [] _ _
      have Q121 : SNQ T3 n := SNQ_FR (by assumption : FR md_mo_asked T2 T3) rfl q119
      refine l_aload_n rfl rfl ?_
      refine l_gfi rfl rfl rfl rfl rfl ?_
      have w51 : 0 ≤ (Xi T3 904 106) ∧ (Xi T3 904 106) ≤ 9 := hHT3.c _ _
      refine l_if_ne rfl rfl (by unfold rg; omega) (fun w52 => ?_) (fun w53 => ?_)
      · refine l_aload_n rfl rfl ?_
        refine l_gfi rfl rfl rfl rfl rfl ?_
        refine l_if_eq rfl rfl (by unfold rg; omega) (fun w54 => ?_) (fun w55 => ?_)
        · refine l_aload_n rfl rfl ?_
          refine l_iload_n rfl rfl ?_
          refine l_pfi rfl rfl rfl rfl ?_
          obtain ⟨U4, eU4⟩ : ∃ T : sS, T = uI T3 904 8 (Int32.ofInt v3) := ⟨_, rfl⟩
          rw [← eU4]
          have hHU4 : HI U4 := by rw [eU4]; exact HI_w hHT3 (show 0 ≤ v3 by omega) (show v3 ≤ 5010 by omega)
          have hFU4 : FR md_mo_readStory S U4 := by rw [eU4]; exact FR.wI hFT3 (mdf_i (r := (904, 905, 8, 9)) (List.mem_of_getElem? (i := 0) rfl) (inR_i (by omega) (by omega) (by omega) (by omega)))
          have w56 : Xi U4 904 8 = v3 := by rw [eU4]; exact Xi_same (by unfold rg; omega)
          refine l_aload_n rfl rfl ?_
          refine l_dup rfl rfl ?_
          refine l_gfi rfl rfl rfl rfl rfl ?_
          have w57 : (Xi U4 904 61) = (Xi T2 904 61) := (show Xi U4 904 61 = Xi T3 904 61 from by rw [eU4]; exact Xi_ne (by omega)).trans ((show Xi T3 904 61 = Xi T2 904 61 from w50.x _ _ rfl))
          rw [w57]
          refine l_iconst rfl ?_
          refine l_iadd rfl ?_
          refine l_pfi rfl rfl rfl rfl ?_
          obtain ⟨U5, eU5⟩ : ∃ T : sS, T = uI U4 904 61 (Int32.ofInt ((Xi T2 904 61) + 1)) := ⟨_, rfl⟩
          rw [← eU5]
          have hHU5 : HI U5 := by rw [eU5]; exact HI_w hHU4 (show 0 ≤ ((Xi T2 904 61) + 1) by omega) (show ((Xi T2 904 61) + 1) ≤ 5001 by omega)
          have hFU5 : FR md_mo_readStory S U5 := by rw [eU5]; exact FR.wI hFU4 (mdf_i (r := (904, 905, 61, 62)) (List.mem_of_getElem? (i := 14) rfl) (inR_i (by omega) (by omega) (by omega) (by omega)))
          have w58 : Xi U5 904 61 = ((Xi T2 904 61) + 1) := by rw [eU5]; exact Xi_same (by unfold rg; omega)
          refine l_goto rfl rfl ?_
          have w59 : Xi U5 904 105 = Xi T3 904 105 := (show Xi U5 904 105 = Xi U4 904 105 from by rw [eU5]; exact Xi_ne (by omega)).trans ((show Xi U4 904 105 = Xi T3 904 105 from by rw [eU4]; exact Xi_ne (by omega)))
          have w60 : 0 ≤ Xi T3 904 105 ∧ Xi T3 904 105 ≤ 5000 := hHT3.c _ _
          have w61 : Xi U5 904 106 = Xi T3 904 106 := (show Xi U5 904 106 = Xi U4 904 106 from by rw [eU5]; exact Xi_ne (by omega)).trans ((show Xi U4 904 106 = Xi T3 904 106 from by rw [eU4]; exact Xi_ne (by omega)))
          have w62 : 0 ≤ Xi T3 904 106 ∧ Xi T3 904 106 ≤ 9 := hHT3.c _ _
          have w63 : Xi U5 904 16 = Xi T2 904 16 := (show Xi U5 904 16 = Xi U4 904 16 from by rw [eU5]; exact Xi_ne (by omega)).trans ( (show Xi U4 904 16 = Xi T3 904 16 from by rw [eU4]; exact Xi_ne (by omega)).trans ((show Xi T3 904 16 = Xi T2 904 16 from w50.x _ _ rfl)))
          have w64 : 0 ≤ Xi T2 904 16 ∧ Xi T2 904 16 ≤ 16 := hHT2.c _ _
          have w65 : Xi U5 904 19 = Xi T2 904 19 := (show Xi U5 904 19 = Xi U4 904 19 from by rw [eU5]; exact Xi_ne (by omega)).trans ( (show Xi U4 904 19 = Xi T3 904 19 from by rw [eU4]; exact Xi_ne (by omega)).trans ((show Xi T3 904 19 = Xi T2 904 19 from w50.x _ _ rfl)))
          have w66 : 0 ≤ Xi T2 904 19 ∧ Xi T2 904 19 ≤ 24 := hHT2.c _ _
          have w67 : Xi U5 904 60 = Xi T2 904 60 := (show Xi U5 904 60 = Xi U4 904 60 from by rw [eU5]; exact Xi_ne (by omega)).trans ( (show Xi U4 904 60 = Xi T3 904 60 from by rw [eU4]; exact Xi_ne (by omega)).trans ((show Xi T3 904 60 = Xi T2 904 60 from w50.x _ _ rfl)))
          have w68 : -1 ≤ Xi T2 904 60 ∧ Xi T2 904 60 ≤ 23 := hHT2.c _ _
          have w69 : 0 ≤ Xi U5 904 61 ∧ Xi U5 904 61 ≤ 5001 := hHU5.c _ _
          have w70 : Xi U5 904 62 = Xi T2 904 62 := (show Xi U5 904 62 = Xi U4 904 62 from by rw [eU5]; exact Xi_ne (by omega)).trans ( (show Xi U4 904 62 = Xi T3 904 62 from by rw [eU4]; exact Xi_ne (by omega)).trans ((show Xi T3 904 62 = Xi T2 904 62 from w50.x _ _ rfl)))
          have w71 : 0 ≤ Xi T2 904 62 ∧ Xi T2 904 62 ≤ 9 := hHT2.c _ _
          have w72 : Xi U5 904 65 = Xi T2 904 65 := (show Xi U5 904 65 = Xi U4 904 65 from by rw [eU5]; exact Xi_ne (by omega)).trans ( (show Xi U4 904 65 = Xi T3 904 65 from by rw [eU4]; exact Xi_ne (by omega)).trans ((show Xi T3 904 65 = Xi T2 904 65 from w50.x _ _ rfl)))
          have w73 : 0 ≤ Xi T2 904 65 ∧ Xi T2 904 65 ≤ 1 := hHT2.c _ _
          have w74 : Xi U5 904 66 = Xi T2 904 66 := (show Xi U5 904 66 = Xi U4 904 66 from by rw [eU5]; exact Xi_ne (by omega)).trans ( (show Xi U4 904 66 = Xi T3 904 66 from by rw [eU4]; exact Xi_ne (by omega)).trans ((show Xi T3 904 66 = Xi T2 904 66 from w50.x _ _ rfl)))
          have w75 : 0 ≤ Xi T2 904 66 ∧ Xi T2 904 66 ≤ 5010 := hHT2.c _ _
          have w76 : Xi U5 904 70 = Xi T2 904 70 := (show Xi U5 904 70 = Xi U4 904 70 from by rw [eU5]; exact Xi_ne (by omega)).trans ( (show Xi U4 904 70 = Xi T3 904 70 from by rw [eU4]; exact Xi_ne (by omega)).trans ((show Xi T3 904 70 = Xi T2 904 70 from w50.x _ _ rfl)))
          have w77 : 0 ≤ Xi T2 904 70 ∧ Xi T2 904 70 ≤ 20 := hHT2.c _ _
          have w78 : Xi U5 904 8 = Xi U4 904 8 := (show Xi U5 904 8 = Xi U4 904 8 from by rw [eU5]; exact Xi_ne (by omega))
          have w79 : 0 ≤ Xi U4 904 8 ∧ Xi U4 904 8 ≤ 5010 := hHU4.c _ _
          have w80 : Xi U5 904 94 = Xi T2 904 94 := (show Xi U5 904 94 = Xi U4 904 94 from by rw [eU5]; exact Xi_ne (by omega)).trans ( (show Xi U4 904 94 = Xi T3 904 94 from by rw [eU4]; exact Xi_ne (by omega)).trans ((show Xi T3 904 94 = Xi T2 904 94 from w50.x _ _ rfl)))
          have w81 : 0 ≤ Xi T2 904 94 ∧ Xi T2 904 94 ≤ 1700 := hHT2.c _ _
          exact Rl_weak (ih36 _ (by omega) U5 hHU5 hFU5  (by first | exact fun q => absurd q (by omega) | exact fun _ => ⟨by first | assumption | exact (TXM_FR (FR_e eU5) rfl (TXM_FR (FR_e eU4) rfl (TXM_FR w50 rfl (by assumption : TXM T2)))), by first | assumption | exact (WYM_FR (FR_e eU5) rfl (WYM_FR (FR_e eU4) rfl (WYM_FR w50 rfl (by assumption : WYM T2)))), by first | assumption | exact (LXM_FR (FR_e eU5) rfl (LXM_FR (FR_e eU4) rfl (LXM_FR w50 rfl (by assumption : LXM T2)))), by first | assumption | exact (LCN_FR (FR_e eU5) rfl (LCN_FR (FR_e eU4) rfl (LCN_FR w50 rfl (by assumption : LCN T2)))), by first | assumption | exact (ABV_FR (FR_e eU5) rfl (ABV_FR (FR_e eU4) rfl (ABV_FR w50 rfl (by assumption : ABV T2)))), by first | assumption | exact (DCM_FR (FR_e eU5) rfl (DCM_FR (FR_e eU4) rfl (DCM_FR w50 rfl (by assumption : DCM T2)))), by first | assumption | exact (VTM_FR (FR_e eU5) rfl (VTM_FR (FR_e eU4) rfl (VTM_FR w50 rfl (by assumption : VTM T2)))), by first | assumption | exact (VCN_FR (FR_e eU5) rfl (VCN_FR (FR_e eU4) rfl (VCN_FR w50 rfl (by assumption : VCN T2)))), by first | assumption | exact (WYD_FR (FR_e eU5) rfl (WYD_FR (FR_e eU4) rfl (WYD_FR w50 rfl (by assumption : WYD T2)))), by first | assumption | exact (RDT_FR hHU4 (FR_e eU5) rfl rfl rfl (RDT_FR hHT3 (FR_e eU4) rfl rfl rfl (by assumption : RDT T3))), by first | assumption | exact (AKR_FR (FR_e eU5) rfl (AKR_FR (FR_e eU4) rfl (AKR_FR w50 rfl (by assumption : AKR T2)))), by omega, by omega⟩ | exact fun _ => (by obtain ⟨a1, a2, a3, a4, a5, a6, a7, a8, a9, a10, a11, a12, a13⟩ := hI; exact ⟨TXM_FR hFU5 rfl a1, WYM_FR hFU5 rfl a2, LXM_FR hFU5 rfl a3, LCN_FR hFU5 rfl a4, ABV_FR hFU5 rfl a5, DCM_FR hFU5 rfl a6, VTM_FR hFU5 rfl a7, VCN_FR hFU5 rfl a8, WYD_FR hFU5 rfl a9, RDT_FR hH hFU5 rfl rfl rfl a10, AKR_FR hFU5 rfl a11, by omega, by omega⟩)) (by first | assumption | exact (ABV_FR (FR_e eU5) rfl (ABV_FR (FR_e eU4) rfl (ABV_FR w50 rfl (by assumption : ABV T2))))) (by first | assumption | exact (WYM_FR (FR_e eU5) rfl (WYM_FR (FR_e eU4) rfl (WYM_FR w50 rfl (by assumption : WYM T2))))) (by omega) (by omega) (by first | assumption | exact (PF_FR (FR_e eU5) rfl (PF_FR (FR_e eU4) rfl (PF_FR w50 rfl (by assumption : PF T2))))) (by first | assumption | exact (BDA_FR (FR_e eU5) rfl (BDA_FR (FR_e eU4) rfl (BDA_FR w50 rfl (by assumption : BDA T2))))) rfl) (And.intro rfl (True.intro))
        · refine l_aload_n rfl rfl ?_
          refine l_aload_n rfl rfl ?_
          refine l_gfi rfl rfl rfl rfl rfl ?_
          refine l_aload_n rfl rfl ?_
          refine l_gfi rfl rfl rfl rfl rfl ?_
          have w82 : 0 ≤ (Xi T3 904 105) ∧ (Xi T3 904 105) ≤ 5000 := hHT3.c _ _
          have w83 : 0 ≤ Xi T3 904 105 ∧ Xi T3 904 105 ≤ 5000 := hHT3.c _ _
          have w84 : 0 ≤ Xi T3 904 106 ∧ Xi T3 904 106 ≤ 9 := hHT3.c _ _
          have w85 : Xi T3 904 16 = Xi T2 904 16 := (show Xi T3 904 16 = Xi T2 904 16 from w50.x _ _ rfl)
          have w86 : 0 ≤ Xi T2 904 16 ∧ Xi T2 904 16 ≤ 16 := hHT2.c _ _
          have w87 : Xi T3 904 19 = Xi T2 904 19 := (show Xi T3 904 19 = Xi T2 904 19 from w50.x _ _ rfl)
          have w88 : 0 ≤ Xi T2 904 19 ∧ Xi T2 904 19 ≤ 24 := hHT2.c _ _
          have w89 : Xi T3 904 60 = Xi T2 904 60 := (show Xi T3 904 60 = Xi T2 904 60 from w50.x _ _ rfl)
          have w90 : -1 ≤ Xi T2 904 60 ∧ Xi T2 904 60 ≤ 23 := hHT2.c _ _
          have w91 : Xi T3 904 61 = Xi T2 904 61 := (show Xi T3 904 61 = Xi T2 904 61 from w50.x _ _ rfl)
          have w92 : 0 ≤ Xi T2 904 61 ∧ Xi T2 904 61 ≤ 5001 := hHT2.c _ _
          have w93 : Xi T3 904 62 = Xi T2 904 62 := (show Xi T3 904 62 = Xi T2 904 62 from w50.x _ _ rfl)
          have w94 : 0 ≤ Xi T2 904 62 ∧ Xi T2 904 62 ≤ 9 := hHT2.c _ _
          have w95 : Xi T3 904 65 = Xi T2 904 65 := (show Xi T3 904 65 = Xi T2 904 65 from w50.x _ _ rfl)
          have w96 : 0 ≤ Xi T2 904 65 ∧ Xi T2 904 65 ≤ 1 := hHT2.c _ _
          have w97 : Xi T3 904 66 = Xi T2 904 66 := (show Xi T3 904 66 = Xi T2 904 66 from w50.x _ _ rfl)
          have w98 : 0 ≤ Xi T2 904 66 ∧ Xi T2 904 66 ≤ 5010 := hHT2.c _ _
          have w99 : Xi T3 904 70 = Xi T2 904 70 := (show Xi T3 904 70 = Xi T2 904 70 from w50.x _ _ rfl)
          have w100 : 0 ≤ Xi T2 904 70 ∧ Xi T2 904 70 ≤ 20 := hHT2.c _ _
          have w101 : Xi T3 904 8 = Xi T2 904 8 := (show Xi T3 904 8 = Xi T2 904 8 from w50.x _ _ rfl)
          have w102 : 0 ≤ Xi T2 904 8 ∧ Xi T2 904 8 ≤ 5010 := hHT2.c _ _
          have w103 : Xi T3 904 94 = Xi T2 904 94 := (show Xi T3 904 94 = Xi T2 904 94 from w50.x _ _ rfl)
          have w104 : 0 ≤ Xi T2 904 94 ∧ Xi T2 904 94 ≤ 1700 := hHT2.c _ _
          refine l_callV rfl rfl rfl (t_mo_failed hHT3 (Xi T3 904 106) (Xi T3 904 105) ⟨by omega, by omega⟩ ⟨by omega, by omega⟩ _) ?_
          rintro _ T6 ⟨hHT6, w107, rfl, w105⟩
          have hFT6 : FR md_mo_readStory S T6 := FR.tr hFT3 w107 rfl
          show Rl _ _ _ _ _ [] _ _
          refine l_aload_n rfl rfl ?_
          refine l_iload_n rfl rfl ?_
          refine l_pfi rfl rfl rfl rfl ?_
          obtain ⟨U7, eU7⟩ : ∃ T : sS, T = uI T6 904 8 (Int32.ofInt v3) := ⟨_, rfl⟩
          rw [← eU7]
          have hHU7 : HI U7 := by rw [eU7]; exact HI_w hHT6 (show 0 ≤ v3 by omega) (show v3 ≤ 5010 by omega)
          have hFU7 : FR md_mo_readStory S U7 := by rw [eU7]; exact FR.wI hFT6 (mdf_i (r := (904, 905, 8, 9)) (List.mem_of_getElem? (i := 0) rfl) (inR_i (by omega) (by omega) (by omega) (by omega)))
          have w108 : Xi U7 904 8 = v3 := by rw [eU7]; exact Xi_same (by unfold rg; omega)
          refine l_aload_n rfl rfl ?_
          refine l_dup rfl rfl ?_
          refine l_gfi rfl rfl rfl rfl rfl ?_
          have w109 : (Xi U7 904 61) = (Xi T2 904 61) := (show Xi U7 904 61 = Xi T6 904 61 from by rw [eU7]; exact Xi_ne (by omega)).trans ( (show Xi T6 904 61 = Xi T3 904 61 from w107.x _ _ rfl).trans ((show Xi T3 904 61 = Xi T2 904 61 from w50.x _ _ rfl)))
          rw [w109]
          refine l_iconst rfl ?_
          refine l_iadd rfl ?_
          refine l_pfi rfl rfl rfl rfl ?_
          obtain ⟨U8, eU8⟩ : ∃ T : sS, T = uI U7 904 61 (Int32.ofInt ((Xi T2 904 61) + 1)) := ⟨_, rfl⟩
          rw [← eU8]
          have hHU8 : HI U8 := by rw [eU8]; exact HI_w hHU7 (show 0 ≤ ((Xi T2 904 61) + 1) by omega) (show ((Xi T2 904 61) + 1) ≤ 5001 by omega)
          have hFU8 : FR md_mo_readStory S U8 := by rw [eU8]; exact FR.wI hFU7 (mdf_i (r := (904, 905, 61, 62)) (List.mem_of_getElem? (i := 14) rfl) (inR_i (by omega) (by omega) (by omega) (by omega)))
          have w110 : Xi U8 904 61 = ((Xi T2 904 61) + 1) := by rw [eU8]; exact Xi_same (by unfold rg; omega)
          refine l_goto rfl rfl ?_
          have w111 : Xi U8 904 105 = Xi T3 904 105 := (show Xi U8 904 105 = Xi U7 904 105 from by rw [eU8]; exact Xi_ne (by omega)).trans ( (show Xi U7 904 105 = Xi T6 904 105 from by rw [eU7]; exact Xi_ne (by omega)).trans ((show Xi T6 904 105 = Xi T3 904 105 from w107.x _ _ rfl)))
          have w112 : 0 ≤ Xi T3 904 105 ∧ Xi T3 904 105 ≤ 5000 := hHT3.c _ _
          have w113 : Xi U8 904 106 = Xi T3 904 106 := (show Xi U8 904 106 = Xi U7 904 106 from by rw [eU8]; exact Xi_ne (by omega)).trans ( (show Xi U7 904 106 = Xi T6 904 106 from by rw [eU7]; exact Xi_ne (by omega)).trans ((show Xi T6 904 106 = Xi T3 904 106 from w107.x _ _ rfl)))
          have w114 : 0 ≤ Xi T3 904 106 ∧ Xi T3 904 106 ≤ 9 := hHT3.c _ _
          have w115 : Xi U8 904 16 = Xi T2 904 16 := (show Xi U8 904 16 = Xi U7 904 16 from by rw [eU8]; exact Xi_ne (by omega)).trans ( (show Xi U7 904 16 = Xi T6 904 16 from by rw [eU7]; exact Xi_ne (by omega)).trans ( (show Xi T6 904 16 = Xi T3 904 16 from w107.x _ _ rfl).trans ((show Xi T3 904 16 = Xi T2 904 16 from w50.x _ _ rfl))))
          have w116 : 0 ≤ Xi T2 904 16 ∧ Xi T2 904 16 ≤ 16 := hHT2.c _ _
          have w117 : Xi U8 904 19 = Xi T2 904 19 := (show Xi U8 904 19 = Xi U7 904 19 from by rw [eU8]; exact Xi_ne (by omega)).trans ( (show Xi U7 904 19 = Xi T6 904 19 from by rw [eU7]; exact Xi_ne (by omega)).trans ( (show Xi T6 904 19 = Xi T3 904 19 from w107.x _ _ rfl).trans ((show Xi T3 904 19 = Xi T2 904 19 from w50.x _ _ rfl))))
          have w118 : 0 ≤ Xi T2 904 19 ∧ Xi T2 904 19 ≤ 24 := hHT2.c _ _
          have w119 : Xi U8 904 60 = Xi T2 904 60 := (show Xi U8 904 60 = Xi U7 904 60 from by rw [eU8]; exact Xi_ne (by omega)).trans ( (show Xi U7 904 60 = Xi T6 904 60 from by rw [eU7]; exact Xi_ne (by omega)).trans ( (show Xi T6 904 60 = Xi T3 904 60 from w107.x _ _ rfl).trans ((show Xi T3 904 60 = Xi T2 904 60 from w50.x _ _ rfl))))
          have w120 : -1 ≤ Xi T2 904 60 ∧ Xi T2 904 60 ≤ 23 := hHT2.c _ _
          have w121 : 0 ≤ Xi U8 904 61 ∧ Xi U8 904 61 ≤ 5001 := hHU8.c _ _
          have w122 : Xi U8 904 62 = Xi T6 904 62 := (show Xi U8 904 62 = Xi U7 904 62 from by rw [eU8]; exact Xi_ne (by omega)).trans ((show Xi U7 904 62 = Xi T6 904 62 from by rw [eU7]; exact Xi_ne (by omega)))
          have w123 : 0 ≤ Xi T6 904 62 ∧ Xi T6 904 62 ≤ 9 := hHT6.c _ _
          have w124 : Xi U8 904 65 = Xi T2 904 65 := (show Xi U8 904 65 = Xi U7 904 65 from by rw [eU8]; exact Xi_ne (by omega)).trans ( (show Xi U7 904 65 = Xi T6 904 65 from by rw [eU7]; exact Xi_ne (by omega)).trans ( (show Xi T6 904 65 = Xi T3 904 65 from w107.x _ _ rfl).trans ((show Xi T3 904 65 = Xi T2 904 65 from w50.x _ _ rfl))))
          have w125 : 0 ≤ Xi T2 904 65 ∧ Xi T2 904 65 ≤ 1 := hHT2.c _ _
          have w126 : Xi U8 904 66 = Xi T2 904 66 := (show Xi U8 904 66 = Xi U7 904 66 from by rw [eU8]; exact Xi_ne (by omega)).trans ( (show Xi U7 904 66 = Xi T6 904 66 from by rw [eU7]; exact Xi_ne (by omega)).trans ( (show Xi T6 904 66 = Xi T3 904 66 from w107.x _ _ rfl).trans ((show Xi T3 904 66 = Xi T2 904 66 from w50.x _ _ rfl))))
          have w127 : 0 ≤ Xi T2 904 66 ∧ Xi T2 904 66 ≤ 5010 := hHT2.c _ _
          have w128 : Xi U8 904 70 = Xi T2 904 70 := (show Xi U8 904 70 = Xi U7 904 70 from by rw [eU8]; exact Xi_ne (by omega)).trans ( (show Xi U7 904 70 = Xi T6 904 70 from by rw [eU7]; exact Xi_ne (by omega)).trans ( (show Xi T6 904 70 = Xi T3 904 70 from w107.x _ _ rfl).trans ((show Xi T3 904 70 = Xi T2 904 70 from w50.x _ _ rfl))))
          have w129 : 0 ≤ Xi T2 904 70 ∧ Xi T2 904 70 ≤ 20 := hHT2.c _ _
          have w130 : Xi U8 904 8 = Xi U7 904 8 := (show Xi U8 904 8 = Xi U7 904 8 from by rw [eU8]; exact Xi_ne (by omega))
          have w131 : 0 ≤ Xi U7 904 8 ∧ Xi U7 904 8 ≤ 5010 := hHU7.c _ _
          have w132 : Xi U8 904 94 = Xi T2 904 94 := (show Xi U8 904 94 = Xi U7 904 94 from by rw [eU8]; exact Xi_ne (by omega)).trans ( (show Xi U7 904 94 = Xi T6 904 94 from by rw [eU7]; exact Xi_ne (by omega)).trans ( (show Xi T6 904 94 = Xi T3 904 94 from w107.x _ _ rfl).trans ((show Xi T3 904 94 = Xi T2 904 94 from w50.x _ _ rfl))))
          have w133 : 0 ≤ Xi T2 904 94 ∧ Xi T2 904 94 ≤ 1700 := hHT2.c _ _
          exact Rl_weak (ih36 _ (by omega) U8 hHU8 hFU8  (by first | exact fun q => absurd q (by omega) | exact fun _ => ⟨by first | assumption | exact (TXM_FR (FR_e eU8) rfl (TXM_FR (FR_e eU7) rfl (TXM_FR w107 rfl (TXM_FR w50 rfl (by assumption : TXM T2))))), by first | assumption | exact (WYM_FR (FR_e eU8) rfl (WYM_FR (FR_e eU7) rfl (WYM_FR w107 rfl (WYM_FR w50 rfl (by assumption : WYM T2))))), by first | assumption | exact (LXM_FR (FR_e eU8) rfl (LXM_FR (FR_e eU7) rfl (LXM_FR w107 rfl (LXM_FR w50 rfl (by assumption : LXM T2))))), by first | assumption | exact (LCN_FR (FR_e eU8) rfl (LCN_FR (FR_e eU7) rfl (LCN_FR w107 rfl (LCN_FR w50 rfl (by assumption : LCN T2))))), by first | assumption | exact (ABV_FR (FR_e eU8) rfl (ABV_FR (FR_e eU7) rfl (ABV_FR w107 rfl (ABV_FR w50 rfl (by assumption : ABV T2))))), by first | assumption | exact (DCM_FR (FR_e eU8) rfl (DCM_FR (FR_e eU7) rfl (DCM_FR w107 rfl (DCM_FR w50 rfl (by assumption : DCM T2))))), by first | assumption | exact (VTM_FR (FR_e eU8) rfl (VTM_FR (FR_e eU7) rfl (VTM_FR w107 rfl (VTM_FR w50 rfl (by assumption : VTM T2))))), by first | assumption | exact (VCN_FR (FR_e eU8) rfl (VCN_FR (FR_e eU7) rfl (VCN_FR w107 rfl (VCN_FR w50 rfl (by assumption : VCN T2))))), by first | assumption | exact (WYD_FR (FR_e eU8) rfl (WYD_FR (FR_e eU7) rfl (WYD_FR w107 rfl (WYD_FR w50 rfl (by assumption : WYD T2))))), by first | assumption | exact (RDT_FR hHU7 (FR_e eU8) rfl rfl rfl (RDT_FR hHT6 (FR_e eU7) rfl rfl rfl (RDT_FR hHT3 w107 rfl rfl rfl (by assumption : RDT T3)))), by first | assumption | exact (AKR_FR (FR_e eU8) rfl (AKR_FR (FR_e eU7) rfl (AKR_FR w107 rfl (AKR_FR w50 rfl (by assumption : AKR T2))))), by omega, by omega⟩ | exact fun _ => (by obtain ⟨a1, a2, a3, a4, a5, a6, a7, a8, a9, a10, a11, a12, a13⟩ := hI; exact ⟨TXM_FR hFU8 rfl a1, WYM_FR hFU8 rfl a2, LXM_FR hFU8 rfl a3, LCN_FR hFU8 rfl a4, ABV_FR hFU8 rfl a5, DCM_FR hFU8 rfl a6, VTM_FR hFU8 rfl a7, VCN_FR hFU8 rfl a8, WYD_FR hFU8 rfl a9, RDT_FR hH hFU8 rfl rfl rfl a10, AKR_FR hFU8 rfl a11, by omega, by omega⟩)) (by first | assumption | exact (ABV_FR (FR_e eU8) rfl (ABV_FR (FR_e eU7) rfl (ABV_FR w107 rfl (ABV_FR w50 rfl (by assumption : ABV T2)))))) (by first | assumption | exact (WYM_FR (FR_e eU8) rfl (WYM_FR (FR_e eU7) rfl (WYM_FR w107 rfl (WYM_FR w50 rfl (by assumption : WYM T2)))))) (by omega) (by omega) (by first | assumption | exact (PF_FR (FR_e eU8) rfl (PF_FR (FR_e eU7) rfl (PF_FR w107 rfl (PF_FR w50 rfl (by assumption : PF T2)))))) (by first | assumption | exact (BDA_FR (FR_e eU8) rfl (BDA_FR (FR_e eU7) rfl (BDA_FR w107 rfl (BDA_FR w50 rfl (by assumption : BDA T2)))))) rfl) (And.intro rfl (True.intro))
      · refine l_aload_n rfl rfl ?_
        refine l_iload_n rfl rfl ?_
        have w134 : 0 ≤ Xi T3 904 105 ∧ Xi T3 904 105 ≤ 5000 := hHT3.c _ _
        have w135 : 0 ≤ Xi T3 904 106 ∧ Xi T3 904 106 ≤ 9 := hHT3.c _ _
        have w136 : Xi T3 904 16 = Xi T2 904 16 := (show Xi T3 904 16 = Xi T2 904 16 from w50.x _ _ rfl)
        have w137 : 0 ≤ Xi T2 904 16 ∧ Xi T2 904 16 ≤ 16 := hHT2.c _ _
        have w138 : Xi T3 904 19 = Xi T2 904 19 := (show Xi T3 904 19 = Xi T2 904 19 from w50.x _ _ rfl)
        have w139 : 0 ≤ Xi T2 904 19 ∧ Xi T2 904 19 ≤ 24 := hHT2.c _ _
        have w140 : Xi T3 904 60 = Xi T2 904 60 := (show Xi T3 904 60 = Xi T2 904 60 from w50.x _ _ rfl)
        have w141 : -1 ≤ Xi T2 904 60 ∧ Xi T2 904 60 ≤ 23 := hHT2.c _ _
        have w142 : Xi T3 904 61 = Xi T2 904 61 := (show Xi T3 904 61 = Xi T2 904 61 from w50.x _ _ rfl)
        have w143 : 0 ≤ Xi T2 904 61 ∧ Xi T2 904 61 ≤ 5001 := hHT2.c _ _
        have w144 : Xi T3 904 62 = Xi T2 904 62 := (show Xi T3 904 62 = Xi T2 904 62 from w50.x _ _ rfl)
        have w145 : 0 ≤ Xi T2 904 62 ∧ Xi T2 904 62 ≤ 9 := hHT2.c _ _
        have w146 : Xi T3 904 65 = Xi T2 904 65 := (show Xi T3 904 65 = Xi T2 904 65 from w50.x _ _ rfl)
        have w147 : 0 ≤ Xi T2 904 65 ∧ Xi T2 904 65 ≤ 1 := hHT2.c _ _
        have w148 : Xi T3 904 66 = Xi T2 904 66 := (show Xi T3 904 66 = Xi T2 904 66 from w50.x _ _ rfl)
        have w149 : 0 ≤ Xi T2 904 66 ∧ Xi T2 904 66 ≤ 5010 := hHT2.c _ _
        have w150 : Xi T3 904 70 = Xi T2 904 70 := (show Xi T3 904 70 = Xi T2 904 70 from w50.x _ _ rfl)
        have w151 : 0 ≤ Xi T2 904 70 ∧ Xi T2 904 70 ≤ 20 := hHT2.c _ _
        have w152 : Xi T3 904 78 = Xi T2 904 78 := (show Xi T3 904 78 = Xi T2 904 78 from w50.x _ _ rfl)
        have w153 : -2 ≤ Xi T2 904 78 ∧ Xi T2 904 78 ≤ 5010 := hHT2.c _ _
        have w154 : Xi T3 904 8 = Xi T2 904 8 := (show Xi T3 904 8 = Xi T2 904 8 from w50.x _ _ rfl)
        have w155 : 0 ≤ Xi T2 904 8 ∧ Xi T2 904 8 ≤ 5010 := hHT2.c _ _
        have w156 : Xi T3 904 94 = Xi T2 904 94 := (show Xi T3 904 94 = Xi T2 904 94 from w50.x _ _ rfl)
        have w157 : 0 ≤ Xi T2 904 94 ∧ Xi T2 904 94 ≤ 1700 := hHT2.c _ _
        refine l_callV rfl rfl rfl (t_mo_does hHT3 n v1 ⟨by omega, by omega⟩ (by first | assumption | exact (TK_FR hFT3 rfl (by assumption : TK S _))) (by first | assumption | exact (RNV_FR w50 rfl (by assumption : RNV T2 _))) (by first | assumption | exact (TXK_FR hFT3 rfl (by assumption : TXK S _))) (⟨by first | assumption | exact (TXM_FR w50 rfl (by assumption : TXM T2)), by first | assumption | exact (WYM_FR w50 rfl (by assumption : WYM T2)), by first | assumption | exact (LXM_FR w50 rfl (by assumption : LXM T2)), by first | assumption | exact (LCN_FR w50 rfl (by assumption : LCN T2)), by first | assumption | exact (ABV_FR w50 rfl (by assumption : ABV T2)), by first | assumption | exact (DCM_FR w50 rfl (by assumption : DCM T2)), by first | assumption | exact (VTM_FR w50 rfl (by assumption : VTM T2)), by first | assumption | exact (VCN_FR w50 rfl (by assumption : VCN T2)), by first | assumption | exact (WYD_FR w50 rfl (by assumption : WYD T2)), g121 (by omega), by first | assumption | exact (AKR_FR w50 rfl (by assumption : AKR T2)), by omega, by omega⟩) (by first | assumption | exact (SNQ_FR w50 rfl (by assumption : SNQ T2 _))) (f121 (by omega)) (fun e => by have t := p119.2.2.2.1 (by have y : Xi T3 904 70 = Xi T2 904 70 := ((show Xi T3 904 70 = Xi T2 904 70 from w50.x _ _ rfl)); omega); have z : Xi T3 904 78 = Xi T2 904 78 := ((show Xi T3 904 78 = Xi T2 904 78 from w50.x _ _ rfl)); omega) _) ?_
        rintro _ T9 ⟨hHT9, w159, rfl, t133⟩
        have hFT9 : FR md_mo_readStory S T9 := FR.tr hFT3 w159 rfl
        show Rl _ _ _ _ _ [] _ _
        have txm133 : TXM T9 := t133.1
        have wym133 : WYM T9 := t133.2.1
        have lxm133 : LXM T9 := t133.2.2.1
        have lcn133 : LCN T9 := t133.2.2.2.1
        have abv133 : ABV T9 := t133.2.2.2.2.1
        have dcm133 : DCM T9 := t133.2.2.2.2.2.1
        have vtm133 : VTM T9 := t133.2.2.2.2.2.2.1
        have vcn133 : VCN T9 := t133.2.2.2.2.2.2.2.1
        have wyd133 : WYD T9 := t133.2.2.2.2.2.2.2.2.1
        have rdt133 : RDT T9 := t133.2.2.2.2.2.2.2.2.2.1
        have akr133 : AKR T9 := t133.2.2.2.2.2.2.2.2.2.2.1
        have i133a : Xi T9 904 60 < Xi T9 904 19 := t133.2.2.2.2.2.2.2.2.2.2.2.1
        have i133b : 2 ≤ Xi T9 904 16 := t133.2.2.2.2.2.2.2.2.2.2.2.2
        refine l_aload_n rfl rfl ?_
        refine l_gfi rfl rfl rfl rfl rfl ?_
        have w160 : 0 ≤ (Xi T9 904 106) ∧ (Xi T9 904 106) ≤ 9 := hHT9.c _ _
        refine l_if_eq rfl rfl (by unfold rg; omega) (fun w161 => ?_) (fun w162 => ?_)
        · refine l_aload_n rfl rfl ?_
          refine l_iload_n rfl rfl ?_
          refine l_pfi rfl rfl rfl rfl ?_
          obtain ⟨U10, eU10⟩ : ∃ T : sS, T = uI T9 904 8 (Int32.ofInt v3) := ⟨_, rfl⟩
          rw [← eU10]
          have hHU10 : HI U10 := by rw [eU10]; exact HI_w hHT9 (show 0 ≤ v3 by omega) (show v3 ≤ 5010 by omega)
          have hFU10 : FR md_mo_readStory S U10 := by rw [eU10]; exact FR.wI hFT9 (mdf_i (r := (904, 905, 8, 9)) (List.mem_of_getElem? (i := 0) rfl) (inR_i (by omega) (by omega) (by omega) (by omega)))
          have w163 : Xi U10 904 8 = v3 := by rw [eU10]; exact Xi_same (by unfold rg; omega)
          refine l_aload_n rfl rfl ?_
          refine l_dup rfl rfl ?_
          refine l_gfi rfl rfl rfl rfl rfl ?_
          have w164 : (Xi U10 904 61) = (Xi T2 904 61) := (show Xi U10 904 61 = Xi T9 904 61 from by rw [eU10]; exact Xi_ne (by omega)).trans ( (show Xi T9 904 61 = Xi T3 904 61 from w159.x _ _ rfl).trans ((show Xi T3 904 61 = Xi T2 904 61 from w50.x _ _ rfl)))
          rw [w164]
          refine l_iconst rfl ?_
          refine l_iadd rfl ?_
          refine l_pfi rfl rfl rfl rfl ?_
          obtain ⟨U11, eU11⟩ : ∃ T : sS, T = uI U10 904 61 (Int32.ofInt ((Xi T2 904 61) + 1)) := ⟨_, rfl⟩
          rw [← eU11]
          have hHU11 : HI U11 := by rw [eU11]; exact HI_w hHU10 (show 0 ≤ ((Xi T2 904 61) + 1) by omega) (show ((Xi T2 904 61) + 1) ≤ 5001 by omega)
          have hFU11 : FR md_mo_readStory S U11 := by rw [eU11]; exact FR.wI hFU10 (mdf_i (r := (904, 905, 61, 62)) (List.mem_of_getElem? (i := 14) rfl) (inR_i (by omega) (by omega) (by omega) (by omega)))
          have w165 : Xi U11 904 61 = ((Xi T2 904 61) + 1) := by rw [eU11]; exact Xi_same (by unfold rg; omega)
          refine l_goto rfl rfl ?_
          have w166 : Xi U11 904 105 = Xi T9 904 105 := (show Xi U11 904 105 = Xi U10 904 105 from by rw [eU11]; exact Xi_ne (by omega)).trans ((show Xi U10 904 105 = Xi T9 904 105 from by rw [eU10]; exact Xi_ne (by omega)))
          have w167 : 0 ≤ Xi T9 904 105 ∧ Xi T9 904 105 ≤ 5000 := hHT9.c _ _
          have w168 : Xi U11 904 106 = Xi T9 904 106 := (show Xi U11 904 106 = Xi U10 904 106 from by rw [eU11]; exact Xi_ne (by omega)).trans ((show Xi U10 904 106 = Xi T9 904 106 from by rw [eU10]; exact Xi_ne (by omega)))
          have w169 : 0 ≤ Xi T9 904 106 ∧ Xi T9 904 106 ≤ 9 := hHT9.c _ _
          have w170 : Xi U11 904 16 = Xi T9 904 16 := (show Xi U11 904 16 = Xi U10 904 16 from by rw [eU11]; exact Xi_ne (by omega)).trans ((show Xi U10 904 16 = Xi T9 904 16 from by rw [eU10]; exact Xi_ne (by omega)))
          have w171 : 0 ≤ Xi T9 904 16 ∧ Xi T9 904 16 ≤ 16 := hHT9.c _ _
          have w172 : Xi U11 904 19 = Xi T9 904 19 := (show Xi U11 904 19 = Xi U10 904 19 from by rw [eU11]; exact Xi_ne (by omega)).trans ((show Xi U10 904 19 = Xi T9 904 19 from by rw [eU10]; exact Xi_ne (by omega)))
          have w173 : 0 ≤ Xi T9 904 19 ∧ Xi T9 904 19 ≤ 24 := hHT9.c _ _
          have w174 : Xi U11 904 60 = Xi T9 904 60 := (show Xi U11 904 60 = Xi U10 904 60 from by rw [eU11]; exact Xi_ne (by omega)).trans ((show Xi U10 904 60 = Xi T9 904 60 from by rw [eU10]; exact Xi_ne (by omega)))
          have w175 : -1 ≤ Xi T9 904 60 ∧ Xi T9 904 60 ≤ 23 := hHT9.c _ _
          have w176 : 0 ≤ Xi U11 904 61 ∧ Xi U11 904 61 ≤ 5001 := hHU11.c _ _
          have w177 : Xi U11 904 62 = Xi T2 904 62 := (show Xi U11 904 62 = Xi U10 904 62 from by rw [eU11]; exact Xi_ne (by omega)).trans ( (show Xi U10 904 62 = Xi T9 904 62 from by rw [eU10]; exact Xi_ne (by omega)).trans ( (show Xi T9 904 62 = Xi T3 904 62 from w159.x _ _ rfl).trans ((show Xi T3 904 62 = Xi T2 904 62 from w50.x _ _ rfl))))
          have w178 : 0 ≤ Xi T2 904 62 ∧ Xi T2 904 62 ≤ 9 := hHT2.c _ _
          have w179 : Xi U11 904 65 = Xi T2 904 65 := (show Xi U11 904 65 = Xi U10 904 65 from by rw [eU11]; exact Xi_ne (by omega)).trans ( (show Xi U10 904 65 = Xi T9 904 65 from by rw [eU10]; exact Xi_ne (by omega)).trans ( (show Xi T9 904 65 = Xi T3 904 65 from w159.x _ _ rfl).trans ((show Xi T3 904 65 = Xi T2 904 65 from w50.x _ _ rfl))))
          have w180 : 0 ≤ Xi T2 904 65 ∧ Xi T2 904 65 ≤ 1 := hHT2.c _ _
          have w181 : Xi U11 904 66 = Xi T2 904 66 := (show Xi U11 904 66 = Xi U10 904 66 from by rw [eU11]; exact Xi_ne (by omega)).trans ( (show Xi U10 904 66 = Xi T9 904 66 from by rw [eU10]; exact Xi_ne (by omega)).trans ( (show Xi T9 904 66 = Xi T3 904 66 from w159.x _ _ rfl).trans ((show Xi T3 904 66 = Xi T2 904 66 from w50.x _ _ rfl))))
          have w182 : 0 ≤ Xi T2 904 66 ∧ Xi T2 904 66 ≤ 5010 := hHT2.c _ _
          have w183 : Xi U11 904 70 = Xi T2 904 70 := (show Xi U11 904 70 = Xi U10 904 70 from by rw [eU11]; exact Xi_ne (by omega)).trans ( (show Xi U10 904 70 = Xi T9 904 70 from by rw [eU10]; exact Xi_ne (by omega)).trans ( (show Xi T9 904 70 = Xi T3 904 70 from w159.x _ _ rfl).trans ((show Xi T3 904 70 = Xi T2 904 70 from w50.x _ _ rfl))))
          have w184 : 0 ≤ Xi T2 904 70 ∧ Xi T2 904 70 ≤ 20 := hHT2.c _ _
          have w185 : Xi U11 904 8 = Xi U10 904 8 := (show Xi U11 904 8 = Xi U10 904 8 from by rw [eU11]; exact Xi_ne (by omega))
          have w186 : 0 ≤ Xi U10 904 8 ∧ Xi U10 904 8 ≤ 5010 := hHU10.c _ _
          have w187 : Xi U11 904 94 = Xi T2 904 94 := (show Xi U11 904 94 = Xi U10 904 94 from by rw [eU11]; exact Xi_ne (by omega)).trans ( (show Xi U10 904 94 = Xi T9 904 94 from by rw [eU10]; exact Xi_ne (by omega)).trans ( (show Xi T9 904 94 = Xi T3 904 94 from w159.x _ _ rfl).trans ((show Xi T3 904 94 = Xi T2 904 94 from w50.x _ _ rfl))))
          have w188 : 0 ≤ Xi T2 904 94 ∧ Xi T2 904 94 ≤ 1700 := hHT2.c _ _
          exact Rl_weak (ih36 _ (by omega) U11 hHU11 hFU11  (by first | exact fun q => absurd q (by omega) | exact fun _ => ⟨by first | assumption | exact (TXM_FR (FR_e eU11) rfl (TXM_FR (FR_e eU10) rfl (by assumption : TXM T9))), by first | assumption | exact (WYM_FR (FR_e eU11) rfl (WYM_FR (FR_e eU10) rfl (by assumption : WYM T9))), by first | assumption | exact (LXM_FR (FR_e eU11) rfl (LXM_FR (FR_e eU10) rfl (by assumption : LXM T9))), by first | assumption | exact (LCN_FR (FR_e eU11) rfl (LCN_FR (FR_e eU10) rfl (by assumption : LCN T9))), by first | assumption | exact (ABV_FR (FR_e eU11) rfl (ABV_FR (FR_e eU10) rfl (by assumption : ABV T9))), by first | assumption | exact (DCM_FR (FR_e eU11) rfl (DCM_FR (FR_e eU10) rfl (by assumption : DCM T9))), by first | assumption | exact (VTM_FR (FR_e eU11) rfl (VTM_FR (FR_e eU10) rfl (by assumption : VTM T9))), by first | assumption | exact (VCN_FR (FR_e eU11) rfl (VCN_FR (FR_e eU10) rfl (by assumption : VCN T9))), by first | assumption | exact (WYD_FR (FR_e eU11) rfl (WYD_FR (FR_e eU10) rfl (by assumption : WYD T9))), by first | assumption | exact (RDT_FR hHU10 (FR_e eU11) rfl rfl rfl (RDT_FR hHT9 (FR_e eU10) rfl rfl rfl (by assumption : RDT T9))), by first | assumption | exact (AKR_FR (FR_e eU11) rfl (AKR_FR (FR_e eU10) rfl (by assumption : AKR T9))), by omega, by omega⟩ | exact fun _ => (by obtain ⟨a1, a2, a3, a4, a5, a6, a7, a8, a9, a10, a11, a12, a13⟩ := hI; exact ⟨TXM_FR hFU11 rfl a1, WYM_FR hFU11 rfl a2, LXM_FR hFU11 rfl a3, LCN_FR hFU11 rfl a4, ABV_FR hFU11 rfl a5, DCM_FR hFU11 rfl a6, VTM_FR hFU11 rfl a7, VCN_FR hFU11 rfl a8, WYD_FR hFU11 rfl a9, RDT_FR hH hFU11 rfl rfl rfl a10, AKR_FR hFU11 rfl a11, by omega, by omega⟩)) (by first | assumption | exact (ABV_FR (FR_e eU11) rfl (ABV_FR (FR_e eU10) rfl (by assumption : ABV T9)))) (by first | assumption | exact (WYM_FR (FR_e eU11) rfl (WYM_FR (FR_e eU10) rfl (by assumption : WYM T9)))) (by omega) (by omega) (by first | assumption | exact (PF_FR (FR_e eU11) rfl (PF_FR (FR_e eU10) rfl (PF_FR w159 rfl (PF_FR w50 rfl (by assumption : PF T2)))))) (by first | assumption | exact (BDA_FR (FR_e eU11) rfl (BDA_FR (FR_e eU10) rfl (BDA_FR w159 rfl (BDA_FR w50 rfl (by assumption : BDA T2)))))) rfl) (And.intro rfl (True.intro))
        · refine l_aload_n rfl rfl ?_
          refine l_aload_n rfl rfl ?_
          refine l_gfi rfl rfl rfl rfl rfl ?_
          refine l_aload_n rfl rfl ?_
          refine l_gfi rfl rfl rfl rfl rfl ?_
          have w189 : 0 ≤ (Xi T9 904 105) ∧ (Xi T9 904 105) ≤ 5000 := hHT9.c _ _
          have w190 : 0 ≤ Xi T9 904 105 ∧ Xi T9 904 105 ≤ 5000 := hHT9.c _ _
          have w191 : 0 ≤ Xi T9 904 106 ∧ Xi T9 904 106 ≤ 9 := hHT9.c _ _
          have w192 : 0 ≤ Xi T9 904 16 ∧ Xi T9 904 16 ≤ 16 := hHT9.c _ _
          have w193 : 0 ≤ Xi T9 904 19 ∧ Xi T9 904 19 ≤ 24 := hHT9.c _ _
          have w194 : -1 ≤ Xi T9 904 60 ∧ Xi T9 904 60 ≤ 23 := hHT9.c _ _
          have w195 : Xi T9 904 61 = Xi T2 904 61 := (show Xi T9 904 61 = Xi T3 904 61 from w159.x _ _ rfl).trans ((show Xi T3 904 61 = Xi T2 904 61 from w50.x _ _ rfl))
          have w196 : 0 ≤ Xi T2 904 61 ∧ Xi T2 904 61 ≤ 5001 := hHT2.c _ _
          have w197 : Xi T9 904 62 = Xi T2 904 62 := (show Xi T9 904 62 = Xi T3 904 62 from w159.x _ _ rfl).trans ((show Xi T3 904 62 = Xi T2 904 62 from w50.x _ _ rfl))
          have w198 : 0 ≤ Xi T2 904 62 ∧ Xi T2 904 62 ≤ 9 := hHT2.c _ _
          have w199 : Xi T9 904 65 = Xi T2 904 65 := (show Xi T9 904 65 = Xi T3 904 65 from w159.x _ _ rfl).trans ((show Xi T3 904 65 = Xi T2 904 65 from w50.x _ _ rfl))
          have w200 : 0 ≤ Xi T2 904 65 ∧ Xi T2 904 65 ≤ 1 := hHT2.c _ _
          have w201 : Xi T9 904 66 = Xi T2 904 66 := (show Xi T9 904 66 = Xi T3 904 66 from w159.x _ _ rfl).trans ((show Xi T3 904 66 = Xi T2 904 66 from w50.x _ _ rfl))
          have w202 : 0 ≤ Xi T2 904 66 ∧ Xi T2 904 66 ≤ 5010 := hHT2.c _ _
          have w203 : Xi T9 904 70 = Xi T2 904 70 := (show Xi T9 904 70 = Xi T3 904 70 from w159.x _ _ rfl).trans ((show Xi T3 904 70 = Xi T2 904 70 from w50.x _ _ rfl))
          have w204 : 0 ≤ Xi T2 904 70 ∧ Xi T2 904 70 ≤ 20 := hHT2.c _ _
          have w205 : Xi T9 904 8 = Xi T2 904 8 := (show Xi T9 904 8 = Xi T3 904 8 from w159.x _ _ rfl).trans ((show Xi T3 904 8 = Xi T2 904 8 from w50.x _ _ rfl))
          have w206 : 0 ≤ Xi T2 904 8 ∧ Xi T2 904 8 ≤ 5010 := hHT2.c _ _
          have w207 : Xi T9 904 94 = Xi T2 904 94 := (show Xi T9 904 94 = Xi T3 904 94 from w159.x _ _ rfl).trans ((show Xi T3 904 94 = Xi T2 904 94 from w50.x _ _ rfl))
          have w208 : 0 ≤ Xi T2 904 94 ∧ Xi T2 904 94 ≤ 1700 := hHT2.c _ _
          refine l_callV rfl rfl rfl (t_mo_failed hHT9 (Xi T9 904 106) (Xi T9 904 105) ⟨by omega, by omega⟩ ⟨by omega, by omega⟩ _) ?_
          rintro _ T12 ⟨hHT12, w211, rfl, w209⟩
          have hFT12 : FR md_mo_readStory S T12 := FR.tr hFT9 w211 rfl
          show Rl _ _ _ _ _ [] _ _
          refine l_aload_n rfl rfl ?_
          refine l_iload_n rfl rfl ?_
          refine l_pfi rfl rfl rfl rfl ?_
          obtain ⟨U13, eU13⟩ : ∃ T : sS, T = uI T12 904 8 (Int32.ofInt v3) := ⟨_, rfl⟩
          rw [← eU13]
          have hHU13 : HI U13 := by rw [eU13]; exact HI_w hHT12 (show 0 ≤ v3 by omega) (show v3 ≤ 5010 by omega)
          have hFU13 : FR md_mo_readStory S U13 := by rw [eU13]; exact FR.wI hFT12 (mdf_i (r := (904, 905, 8, 9)) (List.mem_of_getElem? (i := 0) rfl) (inR_i (by omega) (by omega) (by omega) (by omega)))
          have w212 : Xi U13 904 8 = v3 := by rw [eU13]; exact Xi_same (by unfold rg; omega)
          refine l_aload_n rfl rfl ?_
          refine l_dup rfl rfl ?_
          refine l_gfi rfl rfl rfl rfl rfl ?_
          have w213 : (Xi U13 904 61) = (Xi T2 904 61) := (show Xi U13 904 61 = Xi T12 904 61 from by rw [eU13]; exact Xi_ne (by omega)).trans ( (show Xi T12 904 61 = Xi T9 904 61 from w211.x _ _ rfl).trans ( (show Xi T9 904 61 = Xi T3 904 61 from w159.x _ _ rfl).trans ((show Xi T3 904 61 = Xi T2 904 61 from w50.x _ _ rfl))))
          rw [w213]
          refine l_iconst rfl ?_
          refine l_iadd rfl ?_
          refine l_pfi rfl rfl rfl rfl ?_
          obtain ⟨U14, eU14⟩ : ∃ T : sS, T = uI U13 904 61 (Int32.ofInt ((Xi T2 904 61) + 1)) := ⟨_, rfl⟩
          rw [← eU14]
          have hHU14 : HI U14 := by rw [eU14]; exact HI_w hHU13 (show 0 ≤ ((Xi T2 904 61) + 1) by omega) (show ((Xi T2 904 61) + 1) ≤ 5001 by omega)
          have hFU14 : FR md_mo_readStory S U14 := by rw [eU14]; exact FR.wI hFU13 (mdf_i (r := (904, 905, 61, 62)) (List.mem_of_getElem? (i := 14) rfl) (inR_i (by omega) (by omega) (by omega) (by omega)))
          have w214 : Xi U14 904 61 = ((Xi T2 904 61) + 1) := by rw [eU14]; exact Xi_same (by unfold rg; omega)
          refine l_goto rfl rfl ?_
          have w215 : Xi U14 904 105 = Xi T9 904 105 := (show Xi U14 904 105 = Xi U13 904 105 from by rw [eU14]; exact Xi_ne (by omega)).trans ( (show Xi U13 904 105 = Xi T12 904 105 from by rw [eU13]; exact Xi_ne (by omega)).trans ((show Xi T12 904 105 = Xi T9 904 105 from w211.x _ _ rfl)))
          have w216 : 0 ≤ Xi T9 904 105 ∧ Xi T9 904 105 ≤ 5000 := hHT9.c _ _
          have w217 : Xi U14 904 106 = Xi T9 904 106 := (show Xi U14 904 106 = Xi U13 904 106 from by rw [eU14]; exact Xi_ne (by omega)).trans ( (show Xi U13 904 106 = Xi T12 904 106 from by rw [eU13]; exact Xi_ne (by omega)).trans ((show Xi T12 904 106 = Xi T9 904 106 from w211.x _ _ rfl)))
          have w218 : 0 ≤ Xi T9 904 106 ∧ Xi T9 904 106 ≤ 9 := hHT9.c _ _
          have w219 : Xi U14 904 16 = Xi T9 904 16 := (show Xi U14 904 16 = Xi U13 904 16 from by rw [eU14]; exact Xi_ne (by omega)).trans ( (show Xi U13 904 16 = Xi T12 904 16 from by rw [eU13]; exact Xi_ne (by omega)).trans ((show Xi T12 904 16 = Xi T9 904 16 from w211.x _ _ rfl)))
          have w220 : 0 ≤ Xi T9 904 16 ∧ Xi T9 904 16 ≤ 16 := hHT9.c _ _
          have w221 : Xi U14 904 19 = Xi T9 904 19 := (show Xi U14 904 19 = Xi U13 904 19 from by rw [eU14]; exact Xi_ne (by omega)).trans ( (show Xi U13 904 19 = Xi T12 904 19 from by rw [eU13]; exact Xi_ne (by omega)).trans ((show Xi T12 904 19 = Xi T9 904 19 from w211.x _ _ rfl)))
          have w222 : 0 ≤ Xi T9 904 19 ∧ Xi T9 904 19 ≤ 24 := hHT9.c _ _
          have w223 : Xi U14 904 60 = Xi T9 904 60 := (show Xi U14 904 60 = Xi U13 904 60 from by rw [eU14]; exact Xi_ne (by omega)).trans ( (show Xi U13 904 60 = Xi T12 904 60 from by rw [eU13]; exact Xi_ne (by omega)).trans ((show Xi T12 904 60 = Xi T9 904 60 from w211.x _ _ rfl)))
          have w224 : -1 ≤ Xi T9 904 60 ∧ Xi T9 904 60 ≤ 23 := hHT9.c _ _
          have w225 : 0 ≤ Xi U14 904 61 ∧ Xi U14 904 61 ≤ 5001 := hHU14.c _ _
          have w226 : Xi U14 904 62 = Xi T12 904 62 := (show Xi U14 904 62 = Xi U13 904 62 from by rw [eU14]; exact Xi_ne (by omega)).trans ((show Xi U13 904 62 = Xi T12 904 62 from by rw [eU13]; exact Xi_ne (by omega)))
          have w227 : 0 ≤ Xi T12 904 62 ∧ Xi T12 904 62 ≤ 9 := hHT12.c _ _
          have w228 : Xi U14 904 65 = Xi T2 904 65 := (show Xi U14 904 65 = Xi U13 904 65 from by rw [eU14]; exact Xi_ne (by omega)).trans ( (show Xi U13 904 65 = Xi T12 904 65 from by rw [eU13]; exact Xi_ne (by omega)).trans ( (show Xi T12 904 65 = Xi T9 904 65 from w211.x _ _ rfl).trans ( (show Xi T9 904 65 = Xi T3 904 65 from w159.x _ _ rfl).trans ((show Xi T3 904 65 = Xi T2 904 65 from w50.x _ _ rfl)))))
          have w229 : 0 ≤ Xi T2 904 65 ∧ Xi T2 904 65 ≤ 1 := hHT2.c _ _
          have w230 : Xi U14 904 66 = Xi T2 904 66 := (show Xi U14 904 66 = Xi U13 904 66 from by rw [eU14]; exact Xi_ne (by omega)).trans ( (show Xi U13 904 66 = Xi T12 904 66 from by rw [eU13]; exact Xi_ne (by omega)).trans ( (show Xi T12 904 66 = Xi T9 904 66 from w211.x _ _ rfl).trans ( (show Xi T9 904 66 = Xi T3 904 66 from w159.x _ _ rfl).trans ((show Xi T3 904 66 = Xi T2 904 66 from w50.x _ _ rfl)))))
          have w231 : 0 ≤ Xi T2 904 66 ∧ Xi T2 904 66 ≤ 5010 := hHT2.c _ _
          have w232 : Xi U14 904 70 = Xi T2 904 70 := (show Xi U14 904 70 = Xi U13 904 70 from by rw [eU14]; exact Xi_ne (by omega)).trans ( (show Xi U13 904 70 = Xi T12 904 70 from by rw [eU13]; exact Xi_ne (by omega)).trans ( (show Xi T12 904 70 = Xi T9 904 70 from w211.x _ _ rfl).trans ( (show Xi T9 904 70 = Xi T3 904 70 from w159.x _ _ rfl).trans ((show Xi T3 904 70 = Xi T2 904 70 from w50.x _ _ rfl)))))
          have w233 : 0 ≤ Xi T2 904 70 ∧ Xi T2 904 70 ≤ 20 := hHT2.c _ _
          have w234 : Xi U14 904 8 = Xi U13 904 8 := (show Xi U14 904 8 = Xi U13 904 8 from by rw [eU14]; exact Xi_ne (by omega))
          have w235 : 0 ≤ Xi U13 904 8 ∧ Xi U13 904 8 ≤ 5010 := hHU13.c _ _
          have w236 : Xi U14 904 94 = Xi T2 904 94 := (show Xi U14 904 94 = Xi U13 904 94 from by rw [eU14]; exact Xi_ne (by omega)).trans ( (show Xi U13 904 94 = Xi T12 904 94 from by rw [eU13]; exact Xi_ne (by omega)).trans ( (show Xi T12 904 94 = Xi T9 904 94 from w211.x _ _ rfl).trans ( (show Xi T9 904 94 = Xi T3 904 94 from w159.x _ _ rfl).trans ((show Xi T3 904 94 = Xi T2 904 94 from w50.x _ _ rfl)))))
          have w237 : 0 ≤ Xi T2 904 94 ∧ Xi T2 904 94 ≤ 1700 := hHT2.c _ _
          exact Rl_weak (ih36 _ (by omega) U14 hHU14 hFU14  (by first | exact fun q => absurd q (by omega) | exact fun _ => ⟨by first | assumption | exact (TXM_FR (FR_e eU14) rfl (TXM_FR (FR_e eU13) rfl (TXM_FR w211 rfl (by assumption : TXM T9)))), by first | assumption | exact (WYM_FR (FR_e eU14) rfl (WYM_FR (FR_e eU13) rfl (WYM_FR w211 rfl (by assumption : WYM T9)))), by first | assumption | exact (LXM_FR (FR_e eU14) rfl (LXM_FR (FR_e eU13) rfl (LXM_FR w211 rfl (by assumption : LXM T9)))), by first | assumption | exact (LCN_FR (FR_e eU14) rfl (LCN_FR (FR_e eU13) rfl (LCN_FR w211 rfl (by assumption : LCN T9)))), by first | assumption | exact (ABV_FR (FR_e eU14) rfl (ABV_FR (FR_e eU13) rfl (ABV_FR w211 rfl (by assumption : ABV T9)))), by first | assumption | exact (DCM_FR (FR_e eU14) rfl (DCM_FR (FR_e eU13) rfl (DCM_FR w211 rfl (by assumption : DCM T9)))), by first | assumption | exact (VTM_FR (FR_e eU14) rfl (VTM_FR (FR_e eU13) rfl (VTM_FR w211 rfl (by assumption : VTM T9)))), by first | assumption | exact (VCN_FR (FR_e eU14) rfl (VCN_FR (FR_e eU13) rfl (VCN_FR w211 rfl (by assumption : VCN T9)))), by first | assumption | exact (WYD_FR (FR_e eU14) rfl (WYD_FR (FR_e eU13) rfl (WYD_FR w211 rfl (by assumption : WYD T9)))), by first | assumption | exact (RDT_FR hHU13 (FR_e eU14) rfl rfl rfl (RDT_FR hHT12 (FR_e eU13) rfl rfl rfl (RDT_FR hHT9 w211 rfl rfl rfl (by assumption : RDT T9)))), by first | assumption | exact (AKR_FR (FR_e eU14) rfl (AKR_FR (FR_e eU13) rfl (AKR_FR w211 rfl (by assumption : AKR T9)))), by omega, by omega⟩ | exact fun _ => (by obtain ⟨a1, a2, a3, a4, a5, a6, a7, a8, a9, a10, a11, a12, a13⟩ := hI; exact ⟨TXM_FR hFU14 rfl a1, WYM_FR hFU14 rfl a2, LXM_FR hFU14 rfl a3, LCN_FR hFU14 rfl a4, ABV_FR hFU14 rfl a5, DCM_FR hFU14 rfl a6, VTM_FR hFU14 rfl a7, VCN_FR hFU14 rfl a8, WYD_FR hFU14 rfl a9, RDT_FR hH hFU14 rfl rfl rfl a10, AKR_FR hFU14 rfl a11, by omega, by omega⟩)) (by first | assumption | exact (ABV_FR (FR_e eU14) rfl (ABV_FR (FR_e eU13) rfl (ABV_FR w211 rfl (by assumption : ABV T9))))) (by first | assumption | exact (WYM_FR (FR_e eU14) rfl (WYM_FR (FR_e eU13) rfl (WYM_FR w211 rfl (by assumption : WYM T9))))) (by omega) (by omega) (by first | assumption | exact (PF_FR (FR_e eU14) rfl (PF_FR (FR_e eU13) rfl (PF_FR w211 rfl (PF_FR w159 rfl (PF_FR w50 rfl (by assumption : PF T2))))))) (by first | assumption | exact (BDA_FR (FR_e eU14) rfl (BDA_FR (FR_e eU13) rfl (BDA_FR w211 rfl (BDA_FR w159 rfl (BDA_FR w50 rfl (by assumption : BDA T2))))))) rfl) (And.intro rfl (True.intro))
    have C56 : ∀  (T15 : sS) (_ : HI T15) (_ : FR md_mo_readStory S T15), (TXM T15) → (WYM T15) → (LXM T15) → (LCN T15) → (ABV T15) → (DCM T15) → (VTM T15) → (VCN T15) → (WYD T15) → (RDT T15) → (AKR T15) → (Xi T15 904 60 < Xi T15 904 19) → (2 ≤ Xi T15 904 16) → (Xi T15 904 8 ≤ n) → (Xi T15 904 61 ≤ Xi T15 904 8) → (Xi T15 904 62 = 0) → (Xi T15 907 (Xi T15 904 8).toNat ≠ 1) → (PF T15) → (BDA T15) → ((20000 - Xi T15 904 8 - 9000 * Xi T15 904 62).toNat ≤ n36) → Rl lay0 (d + 13) m_mo_readStory 56 [(0, .ref 904)] [] T15 (Q_mo_readStory S n) := by
      intro T15 hHT15 hFT15 TXM56 WYM56 LXM56 LCN56 ABV56 DCM56 VTM56 VCN56 WYD56 RDT56 AKR56 w238 w239 w240 w241 w242 w243 PF56 BD56 w244
      have w245 : 0 ≤ Xi T15 904 16 ∧ Xi T15 904 16 ≤ 16 := hHT15.c _ _
      have w246 : 0 ≤ Xi T15 904 19 ∧ Xi T15 904 19 ≤ 24 := hHT15.c _ _
      have w247 : -1 ≤ Xi T15 904 60 ∧ Xi T15 904 60 ≤ 23 := hHT15.c _ _
      have w248 : 0 ≤ Xi T15 904 61 ∧ Xi T15 904 61 ≤ 5001 := hHT15.c _ _
      have w249 : 0 ≤ Xi T15 904 62 ∧ Xi T15 904 62 ≤ 9 := hHT15.c _ _
      have w250 : 0 ≤ Xi T15 904 8 ∧ Xi T15 904 8 ≤ 5010 := hHT15.c _ _
      refine l_aload_n rfl rfl ?_
      refine l_gfi rfl rfl rfl rfl rfl ?_
      refine l_istore_n rfl rfl rfl ?_
      refine l_aload_n rfl rfl ?_
      refine l_iload_n rfl rfl ?_
      have w251 : 0 ≤ Xi T15 904 105 ∧ Xi T15 904 105 ≤ 5000 := hHT15.c _ _
      have w252 : 0 ≤ Xi T15 904 106 ∧ Xi T15 904 106 ≤ 9 := hHT15.c _ _
      have w253 : 0 ≤ Xi T15 904 16 ∧ Xi T15 904 16 ≤ 16 := hHT15.c _ _
      have w254 : 0 ≤ Xi T15 904 19 ∧ Xi T15 904 19 ≤ 24 := hHT15.c _ _
      have w255 : -1 ≤ Xi T15 904 60 ∧ Xi T15 904 60 ≤ 23 := hHT15.c _ _
      have w256 : 0 ≤ Xi T15 904 61 ∧ Xi T15 904 61 ≤ 5001 := hHT15.c _ _
      have w257 : 0 ≤ Xi T15 904 62 ∧ Xi T15 904 62 ≤ 9 := hHT15.c _ _
      have w258 : 0 ≤ Xi T15 904 65 ∧ Xi T15 904 65 ≤ 1 := hHT15.c _ _
      have w259 : 0 ≤ Xi T15 904 66 ∧ Xi T15 904 66 ≤ 5010 := hHT15.c _ _
      have w260 : 0 ≤ Xi T15 904 70 ∧ Xi T15 904 70 ≤ 20 := hHT15.c _ _
      have w261 : 0 ≤ Xi T15 904 8 ∧ Xi T15 904 8 ≤ 5010 := hHT15.c _ _
      have w262 : 0 ≤ Xi T15 904 94 ∧ Xi T15 904 94 ≤ 1700 := hHT15.c _ _
      refine l_callV rfl rfl rfl (t_mo_oddOf hHT15 n (Xi T15 904 8) ⟨by omega, by omega⟩ (by first | assumption | exact (TK_FR hFT15 rfl (by assumption : TK S _))) (by omega) _) ?_
      rintro _ _ ⟨rfl, z264, rfl, w264, w263⟩
      show Rl _ _ _ _ _ [iv z264] _ _
      refine l_istore_n rfl rfl rfl ?_
      refine l_aload_n rfl rfl ?_
      have w265 : 0 ≤ Xi T15 904 105 ∧ Xi T15 904 105 ≤ 5000 := hHT15.c _ _
      have w266 : 0 ≤ Xi T15 904 106 ∧ Xi T15 904 106 ≤ 9 := hHT15.c _ _
      have w267 : 0 ≤ Xi T15 904 16 ∧ Xi T15 904 16 ≤ 16 := hHT15.c _ _
      have w268 : 0 ≤ Xi T15 904 19 ∧ Xi T15 904 19 ≤ 24 := hHT15.c _ _
      have w269 : -1 ≤ Xi T15 904 60 ∧ Xi T15 904 60 ≤ 23 := hHT15.c _ _
      have w270 : 0 ≤ Xi T15 904 61 ∧ Xi T15 904 61 ≤ 5001 := hHT15.c _ _
      have w271 : 0 ≤ Xi T15 904 62 ∧ Xi T15 904 62 ≤ 9 := hHT15.c _ _
      have w272 : 0 ≤ Xi T15 904 65 ∧ Xi T15 904 65 ≤ 1 := hHT15.c _ _
      have w273 : 0 ≤ Xi T15 904 66 ∧ Xi T15 904 66 ≤ 5010 := hHT15.c _ _
      have w274 : 0 ≤ Xi T15 904 70 ∧ Xi T15 904 70 ≤ 20 := hHT15.c _ _
      have w275 : 0 ≤ Xi T15 904 8 ∧ Xi T15 904 8 ≤ 5010 := hHT15.c _ _
      have w276 : 0 ≤ Xi T15 904 94 ∧ Xi T15 904 94 ≤ 1700 := hHT15.c _ _
      refine l_callV rfl rfl rfl (t_mo_sentence__3 hHT15 n (by first | assumption | exact (TK_FR hFT15 rfl (by assumption : TK S _))) (by first | assumption | omega) (by omega) (by first | assumption | exact (by assumption : PF T15)) (by first | assumption | exact (by assumption : BDA T15)) _) ?_
      rintro _ T16 ⟨hHT16, w283, rfl, w277, w278, w279, q68, tv68, pv68, b68, c68, dot68, w68, d68, w280, w281⟩
      have hFT16 : FR md_mo_readStory S T16 := FR.tr hFT15 w283 rfl
      show Rl _ _ _ _ _ [] _ _
      have P68 : Xi T16 904 65 = 0 → AP9 T16 n := fun q => ⟨fun a b => tv68 q b a, fun a b => pv68 q b a, fun a b => b68 q b a, fun a => w68 q a, fun a => d68 q a⟩
      have D68 : Xi T16 904 65 = 0 → Xi T16 904 70 ≠ 0 → Xi S 907 (Xi T16 904 8 - 1).toNat = 46 := fun q a => by have t := dot68 q a; rw [(hFT15.cx 907 rfl _).1] at t; exact t
      clear tv68 pv68 b68 w68 d68 dot68
      refine l_iload_n rfl rfl ?_
      refine l_iconst rfl ?_
      refine l_icmp_eq rfl rfl (by unfold rg; omega) (by unfold rg; omega) (fun w284 => ?_) (fun w285 => ?_)
      · refine l_aload_n rfl rfl ?_
        refine l_gfi rfl rfl rfl rfl rfl ?_
        have w286 : 0 ≤ (Xi T16 904 65) ∧ (Xi T16 904 65) ≤ 1 := hHT16.c _ _
        refine l_if_eq rfl rfl (by unfold rg; omega) (fun w287 => ?_) (fun w288 => ?_)
        · refine l_aload_n rfl rfl ?_
          refine l_gfi rfl rfl rfl rfl rfl ?_
          have w289 : 0 ≤ (Xi T16 904 8) ∧ (Xi T16 904 8) ≤ 5010 := hHT16.c _ _
          refine l_istore_n rfl rfl rfl ?_
          have w290 : Xi T16 904 105 = Xi T15 904 105 := (show Xi T16 904 105 = Xi T15 904 105 from w283.x _ _ rfl)
          have w291 : 0 ≤ Xi T15 904 105 ∧ Xi T15 904 105 ≤ 5000 := hHT15.c _ _
          have w292 : Xi T16 904 106 = Xi T15 904 106 := (show Xi T16 904 106 = Xi T15 904 106 from w283.x _ _ rfl)
          have w293 : 0 ≤ Xi T15 904 106 ∧ Xi T15 904 106 ≤ 9 := hHT15.c _ _
          have w294 : Xi T16 904 16 = Xi T15 904 16 := (show Xi T16 904 16 = Xi T15 904 16 from w283.x _ _ rfl)
          have w295 : 0 ≤ Xi T15 904 16 ∧ Xi T15 904 16 ≤ 16 := hHT15.c _ _
          have w296 : Xi T16 904 19 = Xi T15 904 19 := (show Xi T16 904 19 = Xi T15 904 19 from w283.x _ _ rfl)
          have w297 : 0 ≤ Xi T15 904 19 ∧ Xi T15 904 19 ≤ 24 := hHT15.c _ _
          have w298 : Xi T16 904 60 = Xi T15 904 60 := (show Xi T16 904 60 = Xi T15 904 60 from w283.x _ _ rfl)
          have w299 : -1 ≤ Xi T15 904 60 ∧ Xi T15 904 60 ≤ 23 := hHT15.c _ _
          have w300 : Xi T16 904 61 = Xi T15 904 61 := (show Xi T16 904 61 = Xi T15 904 61 from w283.x _ _ rfl)
          have w301 : 0 ≤ Xi T15 904 61 ∧ Xi T15 904 61 ≤ 5001 := hHT15.c _ _
          have w302 : Xi T16 904 62 = Xi T15 904 62 := (show Xi T16 904 62 = Xi T15 904 62 from w283.x _ _ rfl)
          have w303 : 0 ≤ Xi T15 904 62 ∧ Xi T15 904 62 ≤ 9 := hHT15.c _ _
          have w304 : 0 ≤ Xi T16 904 65 ∧ Xi T16 904 65 ≤ 1 := hHT16.c _ _
          have w305 : 0 ≤ Xi T16 904 66 ∧ Xi T16 904 66 ≤ 5010 := hHT16.c _ _
          have w306 : 0 ≤ Xi T16 904 70 ∧ Xi T16 904 70 ≤ 20 := hHT16.c _ _
          have w307 : 0 ≤ Xi T16 904 8 ∧ Xi T16 904 8 ≤ 5010 := hHT16.c _ _
          have w308 : 0 ≤ Xi T16 904 94 ∧ Xi T16 904 94 ≤ 1700 := hHT16.c _ _
          exact Rl_weak (C119 T16 hHT16 hFT16 ((Xi T15 904 8)) ((Xi T16 904 8)) (by omega) (by omega) (by first | assumption | exact (TXM_FR w283 rfl (by assumption : TXM T15))) (by first | assumption | exact (WYM_FR w283 rfl (by assumption : WYM T15))) (by first | assumption | exact (LXM_FR w283 rfl (by assumption : LXM T15))) (by first | assumption | exact (LCN_FR w283 rfl (by assumption : LCN T15))) (by first | assumption | exact (ABV_FR w283 rfl (by assumption : ABV T15))) (by first | assumption | exact (DCM_FR w283 rfl (by assumption : DCM T15))) (by first | assumption | exact (VTM_FR w283 rfl (by assumption : VTM T15))) (by first | assumption | exact (VCN_FR w283 rfl (by assumption : VCN T15))) (by first | assumption | exact (WYD_FR w283 rfl (by assumption : WYD T15))) (by first | assumption | exact (RDT_FR hHT15 w283 rfl rfl rfl (by assumption : RDT T15))) (by first | assumption | exact (AKR_FR w283 rfl (by assumption : AKR T15))) (by omega) (by omega) (by omega) (by omega) (by omega) (by omega) (by omega) (by omega) (by omega) (by omega) (by first | assumption | exact (by assumption : RNV T16 _)) (q68 (by omega)) (P68 (by omega)) (fun a => D68 (by omega) a) (by first | assumption | exact (by assumption : PF T16)) (by first | assumption | exact (by assumption : BDA T16)) (by omega)) (And.intro rfl (And.intro rfl (And.intro rfl (True.intro))))
        · refine l_aload_n rfl rfl ?_
          refine l_iconst rfl ?_
          refine l_aload_n rfl rfl ?_
          refine l_gfr rfl rfl rfl rfl rfl (hHT16.r 904 5 908 rfl) ?_
          refine l_aload_n rfl rfl ?_
          refine l_gfi rfl rfl rfl rfl rfl ?_
          have w309 : 0 ≤ (Xi T16 904 66) ∧ (Xi T16 904 66) ≤ 5010 := hHT16.c _ _
          have e104 : Xi T16 904 66 ≤ 5001 := (by first | assumption | exact (by assumption : BDA T16) : BDA T16)
          refine l_iaload (n := 5002) rfl rfl (by omega) (by omega) (by unfold rg; omega) ?_
          have w310 : 0 ≤ (Xi T16 908 (((Xi T16 904 66)).toNat)) ∧ (Xi T16 908 (((Xi T16 904 66)).toNat)) ≤ 5000 := hHT16.c _ _
          have e107 : Xi T16 904 66 ≤ 5001 := (by first | assumption | exact (by assumption : BDA T16) : BDA T16)
          have w311 : Xi T16 904 105 = Xi T15 904 105 := (show Xi T16 904 105 = Xi T15 904 105 from w283.x _ _ rfl)
          have w312 : 0 ≤ Xi T15 904 105 ∧ Xi T15 904 105 ≤ 5000 := hHT15.c _ _
          have w313 : Xi T16 904 106 = Xi T15 904 106 := (show Xi T16 904 106 = Xi T15 904 106 from w283.x _ _ rfl)
          have w314 : 0 ≤ Xi T15 904 106 ∧ Xi T15 904 106 ≤ 9 := hHT15.c _ _
          have w315 : Xi T16 904 16 = Xi T15 904 16 := (show Xi T16 904 16 = Xi T15 904 16 from w283.x _ _ rfl)
          have w316 : 0 ≤ Xi T15 904 16 ∧ Xi T15 904 16 ≤ 16 := hHT15.c _ _
          have w317 : Xi T16 904 19 = Xi T15 904 19 := (show Xi T16 904 19 = Xi T15 904 19 from w283.x _ _ rfl)
          have w318 : 0 ≤ Xi T15 904 19 ∧ Xi T15 904 19 ≤ 24 := hHT15.c _ _
          have w319 : Xi T16 904 60 = Xi T15 904 60 := (show Xi T16 904 60 = Xi T15 904 60 from w283.x _ _ rfl)
          have w320 : -1 ≤ Xi T15 904 60 ∧ Xi T15 904 60 ≤ 23 := hHT15.c _ _
          have w321 : Xi T16 904 61 = Xi T15 904 61 := (show Xi T16 904 61 = Xi T15 904 61 from w283.x _ _ rfl)
          have w322 : 0 ≤ Xi T15 904 61 ∧ Xi T15 904 61 ≤ 5001 := hHT15.c _ _
          have w323 : Xi T16 904 62 = Xi T15 904 62 := (show Xi T16 904 62 = Xi T15 904 62 from w283.x _ _ rfl)
          have w324 : 0 ≤ Xi T15 904 62 ∧ Xi T15 904 62 ≤ 9 := hHT15.c _ _
          have w325 : 0 ≤ Xi T16 904 65 ∧ Xi T16 904 65 ≤ 1 := hHT16.c _ _
          have w326 : 0 ≤ Xi T16 904 66 ∧ Xi T16 904 66 ≤ 5010 := hHT16.c _ _
          have w327 : 0 ≤ Xi T16 904 70 ∧ Xi T16 904 70 ≤ 20 := hHT16.c _ _
          have w328 : 0 ≤ Xi T16 904 8 ∧ Xi T16 904 8 ≤ 5010 := hHT16.c _ _
          have w329 : 0 ≤ Xi T16 904 94 ∧ Xi T16 904 94 ≤ 1700 := hHT16.c _ _
          refine l_callV rfl rfl rfl (t_mo_failed hHT16 2 (Xi T16 908 (((Xi T16 904 66)).toNat)) ⟨by omega, by omega⟩ ⟨by omega, by omega⟩ _) ?_
          rintro _ T17 ⟨hHT17, w332, rfl, w330⟩
          have hFT17 : FR md_mo_readStory S T17 := FR.tr hFT16 w332 rfl
          show Rl _ _ _ _ _ [] _ _
          refine l_goto rfl rfl ?_
          refine l_goto rfl rfl ?_
          have w333 : Xi T17 904 105 = Xi T15 904 105 := (show Xi T17 904 105 = Xi T16 904 105 from w332.x _ _ rfl).trans ((show Xi T16 904 105 = Xi T15 904 105 from w283.x _ _ rfl))
          have w334 : 0 ≤ Xi T15 904 105 ∧ Xi T15 904 105 ≤ 5000 := hHT15.c _ _
          have w335 : Xi T17 904 106 = Xi T15 904 106 := (show Xi T17 904 106 = Xi T16 904 106 from w332.x _ _ rfl).trans ((show Xi T16 904 106 = Xi T15 904 106 from w283.x _ _ rfl))
          have w336 : 0 ≤ Xi T15 904 106 ∧ Xi T15 904 106 ≤ 9 := hHT15.c _ _
          have w337 : Xi T17 904 16 = Xi T15 904 16 := (show Xi T17 904 16 = Xi T16 904 16 from w332.x _ _ rfl).trans ((show Xi T16 904 16 = Xi T15 904 16 from w283.x _ _ rfl))
          have w338 : 0 ≤ Xi T15 904 16 ∧ Xi T15 904 16 ≤ 16 := hHT15.c _ _
          have w339 : Xi T17 904 19 = Xi T15 904 19 := (show Xi T17 904 19 = Xi T16 904 19 from w332.x _ _ rfl).trans ((show Xi T16 904 19 = Xi T15 904 19 from w283.x _ _ rfl))
          have w340 : 0 ≤ Xi T15 904 19 ∧ Xi T15 904 19 ≤ 24 := hHT15.c _ _
          have w341 : Xi T17 904 60 = Xi T15 904 60 := (show Xi T17 904 60 = Xi T16 904 60 from w332.x _ _ rfl).trans ((show Xi T16 904 60 = Xi T15 904 60 from w283.x _ _ rfl))
          have w342 : -1 ≤ Xi T15 904 60 ∧ Xi T15 904 60 ≤ 23 := hHT15.c _ _
          have w343 : Xi T17 904 61 = Xi T15 904 61 := (show Xi T17 904 61 = Xi T16 904 61 from w332.x _ _ rfl).trans ((show Xi T16 904 61 = Xi T15 904 61 from w283.x _ _ rfl))
          have w344 : 0 ≤ Xi T15 904 61 ∧ Xi T15 904 61 ≤ 5001 := hHT15.c _ _
          have w345 : 0 ≤ Xi T17 904 62 ∧ Xi T17 904 62 ≤ 9 := hHT17.c _ _
          have w346 : Xi T17 904 65 = Xi T16 904 65 := (show Xi T17 904 65 = Xi T16 904 65 from w332.x _ _ rfl)
          have w347 : 0 ≤ Xi T16 904 65 ∧ Xi T16 904 65 ≤ 1 := hHT16.c _ _
          have w348 : Xi T17 904 66 = Xi T16 904 66 := (show Xi T17 904 66 = Xi T16 904 66 from w332.x _ _ rfl)
          have w349 : 0 ≤ Xi T16 904 66 ∧ Xi T16 904 66 ≤ 5010 := hHT16.c _ _
          have w350 : Xi T17 904 70 = Xi T16 904 70 := (show Xi T17 904 70 = Xi T16 904 70 from w332.x _ _ rfl)
          have w351 : 0 ≤ Xi T16 904 70 ∧ Xi T16 904 70 ≤ 20 := hHT16.c _ _
          have w352 : Xi T17 904 8 = Xi T16 904 8 := (show Xi T17 904 8 = Xi T16 904 8 from w332.x _ _ rfl)
          have w353 : 0 ≤ Xi T16 904 8 ∧ Xi T16 904 8 ≤ 5010 := hHT16.c _ _
          have w354 : Xi T17 904 94 = Xi T16 904 94 := (show Xi T17 904 94 = Xi T16 904 94 from w332.x _ _ rfl)
          have w355 : 0 ≤ Xi T16 904 94 ∧ Xi T16 904 94 ≤ 1700 := hHT16.c _ _
          exact Rl_weak (ih36 _ (by omega) T17 hHT17 hFT17  (by first | exact fun q => absurd q (by omega) | exact fun _ => ⟨by first | assumption | exact (TXM_FR w332 rfl (TXM_FR w283 rfl (by assumption : TXM T15))), by first | assumption | exact (WYM_FR w332 rfl (WYM_FR w283 rfl (by assumption : WYM T15))), by first | assumption | exact (LXM_FR w332 rfl (LXM_FR w283 rfl (by assumption : LXM T15))), by first | assumption | exact (LCN_FR w332 rfl (LCN_FR w283 rfl (by assumption : LCN T15))), by first | assumption | exact (ABV_FR w332 rfl (ABV_FR w283 rfl (by assumption : ABV T15))), by first | assumption | exact (DCM_FR w332 rfl (DCM_FR w283 rfl (by assumption : DCM T15))), by first | assumption | exact (VTM_FR w332 rfl (VTM_FR w283 rfl (by assumption : VTM T15))), by first | assumption | exact (VCN_FR w332 rfl (VCN_FR w283 rfl (by assumption : VCN T15))), by first | assumption | exact (WYD_FR w332 rfl (WYD_FR w283 rfl (by assumption : WYD T15))), by first | assumption | exact (RDT_FR hHT16 w332 rfl rfl rfl (RDT_FR hHT15 w283 rfl rfl rfl (by assumption : RDT T15))), by first | assumption | exact (AKR_FR w332 rfl (AKR_FR w283 rfl (by assumption : AKR T15))), by omega, by omega⟩ | exact fun _ => (by obtain ⟨a1, a2, a3, a4, a5, a6, a7, a8, a9, a10, a11, a12, a13⟩ := hI; exact ⟨TXM_FR hFT17 rfl a1, WYM_FR hFT17 rfl a2, LXM_FR hFT17 rfl a3, LCN_FR hFT17 rfl a4, ABV_FR hFT17 rfl a5, DCM_FR hFT17 rfl a6, VTM_FR hFT17 rfl a7, VCN_FR hFT17 rfl a8, WYD_FR hFT17 rfl a9, RDT_FR hH hFT17 rfl rfl rfl a10, AKR_FR hFT17 rfl a11, by omega, by omega⟩)) (by first | assumption | exact (ABV_FR w332 rfl (ABV_FR w283 rfl (by assumption : ABV T15)))) (by first | assumption | exact (WYM_FR w332 rfl (WYM_FR w283 rfl (by assumption : WYM T15)))) (by omega) (by omega) (by first | assumption | exact (PF_FR w332 rfl (by assumption : PF T16))) (by first | assumption | exact (BDA_FR w332 rfl (by assumption : BDA T16))) rfl) (And.intro rfl (True.intro))
      · refine l_aload_n rfl rfl ?_
        refine l_iconst rfl ?_
        refine l_aload_n rfl rfl ?_
        refine l_gfr rfl rfl rfl rfl rfl (hHT16.r 904 5 908 rfl) ?_
        refine l_iload_n rfl rfl ?_
        refine l_iaload (n := 5002) rfl rfl (by omega) (by omega) (by unfold rg; omega) ?_
        have w356 : 0 ≤ (Xi T16 908 ((z264).toNat)) ∧ (Xi T16 908 ((z264).toNat)) ≤ 5000 := hHT16.c _ _
        have w357 : Xi T16 904 105 = Xi T15 904 105 := (show Xi T16 904 105 = Xi T15 904 105 from w283.x _ _ rfl)
        have w358 : 0 ≤ Xi T15 904 105 ∧ Xi T15 904 105 ≤ 5000 := hHT15.c _ _
        have w359 : Xi T16 904 106 = Xi T15 904 106 := (show Xi T16 904 106 = Xi T15 904 106 from w283.x _ _ rfl)
        have w360 : 0 ≤ Xi T15 904 106 ∧ Xi T15 904 106 ≤ 9 := hHT15.c _ _
        have w361 : Xi T16 904 16 = Xi T15 904 16 := (show Xi T16 904 16 = Xi T15 904 16 from w283.x _ _ rfl)
        have w362 : 0 ≤ Xi T15 904 16 ∧ Xi T15 904 16 ≤ 16 := hHT15.c _ _
        have w363 : Xi T16 904 19 = Xi T15 904 19 := (show Xi T16 904 19 = Xi T15 904 19 from w283.x _ _ rfl)
        have w364 : 0 ≤ Xi T15 904 19 ∧ Xi T15 904 19 ≤ 24 := hHT15.c _ _
        have w365 : Xi T16 904 60 = Xi T15 904 60 := (show Xi T16 904 60 = Xi T15 904 60 from w283.x _ _ rfl)
        have w366 : -1 ≤ Xi T15 904 60 ∧ Xi T15 904 60 ≤ 23 := hHT15.c _ _
        have w367 : Xi T16 904 61 = Xi T15 904 61 := (show Xi T16 904 61 = Xi T15 904 61 from w283.x _ _ rfl)
        have w368 : 0 ≤ Xi T15 904 61 ∧ Xi T15 904 61 ≤ 5001 := hHT15.c _ _
        have w369 : Xi T16 904 62 = Xi T15 904 62 := (show Xi T16 904 62 = Xi T15 904 62 from w283.x _ _ rfl)
        have w370 : 0 ≤ Xi T15 904 62 ∧ Xi T15 904 62 ≤ 9 := hHT15.c _ _
        have w371 : 0 ≤ Xi T16 904 65 ∧ Xi T16 904 65 ≤ 1 := hHT16.c _ _
        have w372 : 0 ≤ Xi T16 904 66 ∧ Xi T16 904 66 ≤ 5010 := hHT16.c _ _
        have w373 : 0 ≤ Xi T16 904 70 ∧ Xi T16 904 70 ≤ 20 := hHT16.c _ _
        have w374 : 0 ≤ Xi T16 904 8 ∧ Xi T16 904 8 ≤ 5010 := hHT16.c _ _
        have w375 : 0 ≤ Xi T16 904 94 ∧ Xi T16 904 94 ≤ 1700 := hHT16.c _ _
        refine l_callV rfl rfl rfl (t_mo_failed hHT16 1 (Xi T16 908 ((z264).toNat)) ⟨by omega, by omega⟩ ⟨by omega, by omega⟩ _) ?_
        rintro _ T18 ⟨hHT18, w378, rfl, w376⟩
        have hFT18 : FR md_mo_readStory S T18 := FR.tr hFT16 w378 rfl
        show Rl _ _ _ _ _ [] _ _
        refine l_goto rfl rfl ?_
        refine l_goto rfl rfl ?_
        have w379 : Xi T18 904 105 = Xi T15 904 105 := (show Xi T18 904 105 = Xi T16 904 105 from w378.x _ _ rfl).trans ((show Xi T16 904 105 = Xi T15 904 105 from w283.x _ _ rfl))
        have w380 : 0 ≤ Xi T15 904 105 ∧ Xi T15 904 105 ≤ 5000 := hHT15.c _ _
        have w381 : Xi T18 904 106 = Xi T15 904 106 := (show Xi T18 904 106 = Xi T16 904 106 from w378.x _ _ rfl).trans ((show Xi T16 904 106 = Xi T15 904 106 from w283.x _ _ rfl))
        have w382 : 0 ≤ Xi T15 904 106 ∧ Xi T15 904 106 ≤ 9 := hHT15.c _ _
        have w383 : Xi T18 904 16 = Xi T15 904 16 := (show Xi T18 904 16 = Xi T16 904 16 from w378.x _ _ rfl).trans ((show Xi T16 904 16 = Xi T15 904 16 from w283.x _ _ rfl))
        have w384 : 0 ≤ Xi T15 904 16 ∧ Xi T15 904 16 ≤ 16 := hHT15.c _ _
        have w385 : Xi T18 904 19 = Xi T15 904 19 := (show Xi T18 904 19 = Xi T16 904 19 from w378.x _ _ rfl).trans ((show Xi T16 904 19 = Xi T15 904 19 from w283.x _ _ rfl))
        have w386 : 0 ≤ Xi T15 904 19 ∧ Xi T15 904 19 ≤ 24 := hHT15.c _ _
        have w387 : Xi T18 904 60 = Xi T15 904 60 := (show Xi T18 904 60 = Xi T16 904 60 from w378.x _ _ rfl).trans ((show Xi T16 904 60 = Xi T15 904 60 from w283.x _ _ rfl))
        have w388 : -1 ≤ Xi T15 904 60 ∧ Xi T15 904 60 ≤ 23 := hHT15.c _ _
        have w389 : Xi T18 904 61 = Xi T15 904 61 := (show Xi T18 904 61 = Xi T16 904 61 from w378.x _ _ rfl).trans ((show Xi T16 904 61 = Xi T15 904 61 from w283.x _ _ rfl))
        have w390 : 0 ≤ Xi T15 904 61 ∧ Xi T15 904 61 ≤ 5001 := hHT15.c _ _
        have w391 : 0 ≤ Xi T18 904 62 ∧ Xi T18 904 62 ≤ 9 := hHT18.c _ _
        have w392 : Xi T18 904 65 = Xi T16 904 65 := (show Xi T18 904 65 = Xi T16 904 65 from w378.x _ _ rfl)
        have w393 : 0 ≤ Xi T16 904 65 ∧ Xi T16 904 65 ≤ 1 := hHT16.c _ _
        have w394 : Xi T18 904 66 = Xi T16 904 66 := (show Xi T18 904 66 = Xi T16 904 66 from w378.x _ _ rfl)
        have w395 : 0 ≤ Xi T16 904 66 ∧ Xi T16 904 66 ≤ 5010 := hHT16.c _ _
        have w396 : Xi T18 904 70 = Xi T16 904 70 := (show Xi T18 904 70 = Xi T16 904 70 from w378.x _ _ rfl)
        have w397 : 0 ≤ Xi T16 904 70 ∧ Xi T16 904 70 ≤ 20 := hHT16.c _ _
        have w398 : Xi T18 904 8 = Xi T16 904 8 := (show Xi T18 904 8 = Xi T16 904 8 from w378.x _ _ rfl)
        have w399 : 0 ≤ Xi T16 904 8 ∧ Xi T16 904 8 ≤ 5010 := hHT16.c _ _
        have w400 : Xi T18 904 94 = Xi T16 904 94 := (show Xi T18 904 94 = Xi T16 904 94 from w378.x _ _ rfl)
        have w401 : 0 ≤ Xi T16 904 94 ∧ Xi T16 904 94 ≤ 1700 := hHT16.c _ _
        exact Rl_weak (ih36 _ (by omega) T18 hHT18 hFT18  (by first | exact fun q => absurd q (by omega) | exact fun _ => ⟨by first | assumption | exact (TXM_FR w378 rfl (TXM_FR w283 rfl (by assumption : TXM T15))), by first | assumption | exact (WYM_FR w378 rfl (WYM_FR w283 rfl (by assumption : WYM T15))), by first | assumption | exact (LXM_FR w378 rfl (LXM_FR w283 rfl (by assumption : LXM T15))), by first | assumption | exact (LCN_FR w378 rfl (LCN_FR w283 rfl (by assumption : LCN T15))), by first | assumption | exact (ABV_FR w378 rfl (ABV_FR w283 rfl (by assumption : ABV T15))), by first | assumption | exact (DCM_FR w378 rfl (DCM_FR w283 rfl (by assumption : DCM T15))), by first | assumption | exact (VTM_FR w378 rfl (VTM_FR w283 rfl (by assumption : VTM T15))), by first | assumption | exact (VCN_FR w378 rfl (VCN_FR w283 rfl (by assumption : VCN T15))), by first | assumption | exact (WYD_FR w378 rfl (WYD_FR w283 rfl (by assumption : WYD T15))), by first | assumption | exact (RDT_FR hHT16 w378 rfl rfl rfl (RDT_FR hHT15 w283 rfl rfl rfl (by assumption : RDT T15))), by first | assumption | exact (AKR_FR w378 rfl (AKR_FR w283 rfl (by assumption : AKR T15))), by omega, by omega⟩ | exact fun _ => (by obtain ⟨a1, a2, a3, a4, a5, a6, a7, a8, a9, a10, a11, a12, a13⟩ := hI; exact ⟨TXM_FR hFT18 rfl a1, WYM_FR hFT18 rfl a2, LXM_FR hFT18 rfl a3, LCN_FR hFT18 rfl a4, ABV_FR hFT18 rfl a5, DCM_FR hFT18 rfl a6, VTM_FR hFT18 rfl a7, VCN_FR hFT18 rfl a8, WYD_FR hFT18 rfl a9, RDT_FR hH hFT18 rfl rfl rfl a10, AKR_FR hFT18 rfl a11, by omega, by omega⟩)) (by first | assumption | exact (ABV_FR w378 rfl (ABV_FR w283 rfl (by assumption : ABV T15)))) (by first | assumption | exact (WYM_FR w378 rfl (WYM_FR w283 rfl (by assumption : WYM T15)))) (by omega) (by omega) (by first | assumption | exact (PF_FR w378 rfl (by assumption : PF T16))) (by first | assumption | exact (BDA_FR w378 rfl (by assumption : BDA T16))) rfl) (And.intro rfl (True.intro))
    refine l_aload_n rfl rfl ?_
    refine l_gfi rfl rfl rfl rfl rfl ?_
    refine l_if_ne rfl rfl (by unfold rg; omega) (fun w402 => ?_) (fun w403 => ?_)
    · refine l_return rfl rfl ?_
      have w404 : 0 ≤ Xi T1 904 105 ∧ Xi T1 904 105 ≤ 5000 := hHT1.c _ _
      have w405 : 0 ≤ Xi T1 904 106 ∧ Xi T1 904 106 ≤ 9 := hHT1.c _ _
      have w406 : 0 ≤ Xi T1 904 16 ∧ Xi T1 904 16 ≤ 16 := hHT1.c _ _
      have w407 : 0 ≤ Xi T1 904 19 ∧ Xi T1 904 19 ≤ 24 := hHT1.c _ _
      have w408 : -1 ≤ Xi T1 904 60 ∧ Xi T1 904 60 ≤ 23 := hHT1.c _ _
      have w409 : 0 ≤ Xi T1 904 61 ∧ Xi T1 904 61 ≤ 5001 := hHT1.c _ _
      have w410 : 0 ≤ Xi T1 904 62 ∧ Xi T1 904 62 ≤ 9 := hHT1.c _ _
      have w411 : 0 ≤ Xi T1 904 65 ∧ Xi T1 904 65 ≤ 1 := hHT1.c _ _
      have w412 : 0 ≤ Xi T1 904 66 ∧ Xi T1 904 66 ≤ 5010 := hHT1.c _ _
      have w413 : 0 ≤ Xi T1 904 70 ∧ Xi T1 904 70 ≤ 20 := hHT1.c _ _
      have w414 : 0 ≤ Xi T1 904 8 ∧ Xi T1 904 8 ≤ 5010 := hHT1.c _ _
      have w415 : 0 ≤ Xi T1 904 94 ∧ Xi T1 904 94 ≤ 1700 := hHT1.c _ _
      exact ⟨hHT1, hFT1, rfl, (A36), (B36), (W36), (PF36), (BD36)⟩
    · refine l_aload_n rfl rfl ?_
      have t43 := A36 (by omega)
      have i43a : Xi T1 904 60 < Xi T1 904 19 := t43.2.2.2.2.2.2.2.2.2.2.2.1
      have i43b : 2 ≤ Xi T1 904 16 := t43.2.2.2.2.2.2.2.2.2.2.2.2
      refine l_gfr rfl rfl rfl rfl rfl (hHT1.r 904 4 907 rfl) ?_
      refine l_aload_n rfl rfl ?_
      refine l_gfi rfl rfl rfl rfl rfl ?_
      refine l_iaload (n := 5002) rfl rfl (by omega) (by omega) (by unfold rg; omega) ?_
      have w416 : 0 ≤ (Xi T1 907 (((Xi T1 904 8)).toNat)) ∧ (Xi T1 907 (((Xi T1 904 8)).toNat)) ≤ 154 := hHT1.c _ _
      refine l_iconst rfl ?_
      refine l_icmp_eq rfl rfl (by unfold rg; omega) (by unfold rg; omega) (fun w417 => ?_) (fun w418 => ?_)
      · refine l_return rfl rfl ?_
        have w419 : 0 ≤ Xi T1 904 105 ∧ Xi T1 904 105 ≤ 5000 := hHT1.c _ _
        have w420 : 0 ≤ Xi T1 904 106 ∧ Xi T1 904 106 ≤ 9 := hHT1.c _ _
        have w421 : 0 ≤ Xi T1 904 16 ∧ Xi T1 904 16 ≤ 16 := hHT1.c _ _
        have w422 : 0 ≤ Xi T1 904 19 ∧ Xi T1 904 19 ≤ 24 := hHT1.c _ _
        have w423 : -1 ≤ Xi T1 904 60 ∧ Xi T1 904 60 ≤ 23 := hHT1.c _ _
        have w424 : 0 ≤ Xi T1 904 61 ∧ Xi T1 904 61 ≤ 5001 := hHT1.c _ _
        have w425 : 0 ≤ Xi T1 904 62 ∧ Xi T1 904 62 ≤ 9 := hHT1.c _ _
        have w426 : 0 ≤ Xi T1 904 65 ∧ Xi T1 904 65 ≤ 1 := hHT1.c _ _
        have w427 : 0 ≤ Xi T1 904 66 ∧ Xi T1 904 66 ≤ 5010 := hHT1.c _ _
        have w428 : 0 ≤ Xi T1 904 70 ∧ Xi T1 904 70 ≤ 20 := hHT1.c _ _
        have w429 : 0 ≤ Xi T1 904 8 ∧ Xi T1 904 8 ≤ 5010 := hHT1.c _ _
        have w430 : 0 ≤ Xi T1 904 94 ∧ Xi T1 904 94 ≤ 1700 := hHT1.c _ _
        exact ⟨hHT1, hFT1, rfl, (A36), (B36), (W36), (PF36), (BD36)⟩
      · have w431 : 0 ≤ Xi T1 904 105 ∧ Xi T1 904 105 ≤ 5000 := hHT1.c _ _
        have w432 : 0 ≤ Xi T1 904 106 ∧ Xi T1 904 106 ≤ 9 := hHT1.c _ _
        have w433 : 0 ≤ Xi T1 904 16 ∧ Xi T1 904 16 ≤ 16 := hHT1.c _ _
        have w434 : 0 ≤ Xi T1 904 19 ∧ Xi T1 904 19 ≤ 24 := hHT1.c _ _
        have w435 : -1 ≤ Xi T1 904 60 ∧ Xi T1 904 60 ≤ 23 := hHT1.c _ _
        have w436 : 0 ≤ Xi T1 904 61 ∧ Xi T1 904 61 ≤ 5001 := hHT1.c _ _
        have w437 : 0 ≤ Xi T1 904 62 ∧ Xi T1 904 62 ≤ 9 := hHT1.c _ _
        have w438 : 0 ≤ Xi T1 904 65 ∧ Xi T1 904 65 ≤ 1 := hHT1.c _ _
        have w439 : 0 ≤ Xi T1 904 66 ∧ Xi T1 904 66 ≤ 5010 := hHT1.c _ _
        have w440 : 0 ≤ Xi T1 904 70 ∧ Xi T1 904 70 ≤ 20 := hHT1.c _ _
        have w441 : 0 ≤ Xi T1 904 8 ∧ Xi T1 904 8 ≤ 5010 := hHT1.c _ _
        have w442 : 0 ≤ Xi T1 904 94 ∧ Xi T1 904 94 ≤ 1700 := hHT1.c _ _
        exact Rl_weak (C56 T1 hHT1 hFT1  ((A36 (by omega)).1) ((A36 (by omega)).2.1) ((A36 (by omega)).2.2.1) ((A36 (by omega)).2.2.2.1) ((A36 (by omega)).2.2.2.2.1) ((A36 (by omega)).2.2.2.2.2.1) ((A36 (by omega)).2.2.2.2.2.2.1) ((A36 (by omega)).2.2.2.2.2.2.2.1) ((A36 (by omega)).2.2.2.2.2.2.2.2.1) ((A36 (by omega)).2.2.2.2.2.2.2.2.2.1) ((A36 (by omega)).2.2.2.2.2.2.2.2.2.2.1) (by omega) (by omega) (by omega) (by omega) (by omega) (by omega) (by first | assumption | exact (by assumption : PF T1)) (by first | assumption | exact (by assumption : BDA T1)) (by omega)) (And.intro rfl (True.intro))
set_option maxRecDepth 100000 in
set_option maxHeartbeats 8000000 in
theorem t_mo_readStory {S : sS} (hH : HI S) (n : Nat) (hT : TK S n) (hK : TXK S n) (hI : TIX S) (hPF : PF S) (hBDA : BDA S) (d : Nat) : Mt lay0 (d + 14) m_mo_readStory [.ref 904] S (Q_mo_readStory S n) := by
  refine Mt_R rfl rfl ?_
  have C36 := c36_mo_readStory hH n hT hK hI hPF hBDA d 
  have hF : FR md_mo_readStory S S := FR.rf
  have w1 : 0 ≤ Xi S 904 16 ∧ Xi S 904 16 ≤ 16 := hH.c _ _
  have w2 : 0 ≤ Xi S 904 19 ∧ Xi S 904 19 ≤ 24 := hH.c _ _
  have w3 : -1 ≤ Xi S 904 60 ∧ Xi S 904 60 ≤ 23 := hH.c _ _
  have w4 : 0 ≤ Xi S 904 61 ∧ Xi S 904 61 ≤ 5001 := hH.c _ _
  have w5 : 0 ≤ Xi S 904 62 ∧ Xi S 904 62 ≤ 9 := hH.c _ _
  have w6 : 0 ≤ Xi S 904 65 ∧ Xi S 904 65 ≤ 1 := hH.c _ _
  have w7 : 0 ≤ Xi S 904 70 ∧ Xi S 904 70 ≤ 20 := hH.c _ _
  have w8 : 0 ≤ Xi S 904 8 ∧ Xi S 904 8 ≤ 5010 := hH.c _ _
  have w9 : 0 ≤ Xi S 904 94 ∧ Xi S 904 94 ≤ 1700 := hH.c _ _
  have hn5 := hT.1
  have h_TXM : TXM S := hI.1
  have h_WYM : WYM S := hI.2.1
  have h_LXM : LXM S := hI.2.2.1
  have h_LCN : LCN S := hI.2.2.2.1
  have h_ABV : ABV S := hI.2.2.2.2.1
  have h_DCM : DCM S := hI.2.2.2.2.2.1
  have h_VTM : VTM S := hI.2.2.2.2.2.2.1
  have h_VCN : VCN S := hI.2.2.2.2.2.2.2.1
  have h_WYD : WYD S := hI.2.2.2.2.2.2.2.2.1
  have h_RDT : RDT S := hI.2.2.2.2.2.2.2.2.2.1
  have h_AKR : AKR S := hI.2.2.2.2.2.2.2.2.2.2.1
  have hi12 : Xi S 904 60 < Xi S 904 19 := hI.2.2.2.2.2.2.2.2.2.2.2.1
  have hi13 : 2 ≤ Xi S 904 16 := hI.2.2.2.2.2.2.2.2.2.2.2.2
  refine l_aload_n rfl rfl ?_
  refine l_iconst rfl ?_
  refine l_pfi rfl rfl rfl rfl ?_
  obtain ⟨U19, eU19⟩ : ∃ T : sS, T = uI S 904 62 (Int32.ofInt 0) := ⟨_, rfl⟩
  rw [← eU19]
  have hHU19 : HI U19 := by rw [eU19]; exact HI_w hH (show 0 ≤ 0 by omega) (show 0 ≤ 9 by omega)
  have hFU19 : FR md_mo_readStory S U19 := by rw [eU19]; exact FR.wI hF (mdf_i (r := (904, 905, 62, 63)) (List.mem_of_getElem? (i := 15) rfl) (inR_i (by omega) (by omega) (by omega) (by omega)))
  have w443 : Xi U19 904 62 = 0 := by rw [eU19]; exact Xi_same (by unfold rg; omega)
  refine l_aload_n rfl rfl ?_
  refine l_iconst rfl ?_
  refine l_pfi rfl rfl rfl rfl ?_
  obtain ⟨U20, eU20⟩ : ∃ T : sS, T = uI U19 904 61 (Int32.ofInt 0) := ⟨_, rfl⟩
  rw [← eU20]
  have hHU20 : HI U20 := by rw [eU20]; exact HI_w hHU19 (show 0 ≤ 0 by omega) (show 0 ≤ 5001 by omega)
  have hFU20 : FR md_mo_readStory S U20 := by rw [eU20]; exact FR.wI hFU19 (mdf_i (r := (904, 905, 61, 62)) (List.mem_of_getElem? (i := 14) rfl) (inR_i (by omega) (by omega) (by omega) (by omega)))
  have w444 : Xi U20 904 61 = 0 := by rw [eU20]; exact Xi_same (by unfold rg; omega)
  refine l_aload_n rfl rfl ?_
  refine l_iconst rfl ?_
  refine l_pfi rfl rfl rfl rfl ?_
  obtain ⟨U21, eU21⟩ : ∃ T : sS, T = uI U20 904 8 (Int32.ofInt 0) := ⟨_, rfl⟩
  rw [← eU21]
  have hHU21 : HI U21 := by rw [eU21]; exact HI_w hHU20 (show 0 ≤ 0 by omega) (show 0 ≤ 5010 by omega)
  have hFU21 : FR md_mo_readStory S U21 := by rw [eU21]; exact FR.wI hFU20 (mdf_i (r := (904, 905, 8, 9)) (List.mem_of_getElem? (i := 0) rfl) (inR_i (by omega) (by omega) (by omega) (by omega)))
  have w445 : Xi U21 904 8 = 0 := by rw [eU21]; exact Xi_same (by unfold rg; omega)
  refine l_aload_n rfl rfl ?_
  refine l_gfr rfl rfl rfl rfl rfl (hHU21.r 904 4 907 rfl) ?_
  refine l_iconst rfl ?_
  refine l_iaload (n := 5002) rfl rfl (by omega) (by omega) (by unfold rg; omega) ?_
  have w446 : 0 ≤ (Xi U21 907 ((0 : Int).toNat)) ∧ (Xi U21 907 ((0 : Int).toNat)) ≤ 154 := hHU21.c _ _
  have w447 : (Xi U21 907 ((0 : Int).toNat)) = Xi U21 907 0 := rfl
  refine l_iconst rfl ?_
  refine l_icmp_ne rfl rfl (by unfold rg; omega) (by unfold rg; omega) (fun w448 => ?_) (fun w449 => ?_)
  · have w450 : Xi U21 904 105 = Xi S 904 105 := (show Xi U21 904 105 = Xi U20 904 105 from by rw [eU21]; exact Xi_ne (by omega)).trans ( (show Xi U20 904 105 = Xi U19 904 105 from by rw [eU20]; exact Xi_ne (by omega)).trans ((show Xi U19 904 105 = Xi S 904 105 from by rw [eU19]; exact Xi_ne (by omega))))
    have w451 : 0 ≤ Xi S 904 105 ∧ Xi S 904 105 ≤ 5000 := hH.c _ _
    have w452 : Xi U21 904 106 = Xi S 904 106 := (show Xi U21 904 106 = Xi U20 904 106 from by rw [eU21]; exact Xi_ne (by omega)).trans ( (show Xi U20 904 106 = Xi U19 904 106 from by rw [eU20]; exact Xi_ne (by omega)).trans ((show Xi U19 904 106 = Xi S 904 106 from by rw [eU19]; exact Xi_ne (by omega))))
    have w453 : 0 ≤ Xi S 904 106 ∧ Xi S 904 106 ≤ 9 := hH.c _ _
    have w454 : Xi U21 904 16 = Xi S 904 16 := (show Xi U21 904 16 = Xi U20 904 16 from by rw [eU21]; exact Xi_ne (by omega)).trans ( (show Xi U20 904 16 = Xi U19 904 16 from by rw [eU20]; exact Xi_ne (by omega)).trans ((show Xi U19 904 16 = Xi S 904 16 from by rw [eU19]; exact Xi_ne (by omega))))
    have w455 : 0 ≤ Xi S 904 16 ∧ Xi S 904 16 ≤ 16 := hH.c _ _
    have w456 : Xi U21 904 19 = Xi S 904 19 := (show Xi U21 904 19 = Xi U20 904 19 from by rw [eU21]; exact Xi_ne (by omega)).trans ( (show Xi U20 904 19 = Xi U19 904 19 from by rw [eU20]; exact Xi_ne (by omega)).trans ((show Xi U19 904 19 = Xi S 904 19 from by rw [eU19]; exact Xi_ne (by omega))))
    have w457 : 0 ≤ Xi S 904 19 ∧ Xi S 904 19 ≤ 24 := hH.c _ _
    have w458 : Xi U21 904 60 = Xi S 904 60 := (show Xi U21 904 60 = Xi U20 904 60 from by rw [eU21]; exact Xi_ne (by omega)).trans ( (show Xi U20 904 60 = Xi U19 904 60 from by rw [eU20]; exact Xi_ne (by omega)).trans ((show Xi U19 904 60 = Xi S 904 60 from by rw [eU19]; exact Xi_ne (by omega))))
    have w459 : -1 ≤ Xi S 904 60 ∧ Xi S 904 60 ≤ 23 := hH.c _ _
    have w460 : Xi U21 904 61 = Xi U20 904 61 := (show Xi U21 904 61 = Xi U20 904 61 from by rw [eU21]; exact Xi_ne (by omega))
    have w461 : 0 ≤ Xi U20 904 61 ∧ Xi U20 904 61 ≤ 5001 := hHU20.c _ _
    have w462 : Xi U21 904 62 = Xi U19 904 62 := (show Xi U21 904 62 = Xi U20 904 62 from by rw [eU21]; exact Xi_ne (by omega)).trans ((show Xi U20 904 62 = Xi U19 904 62 from by rw [eU20]; exact Xi_ne (by omega)))
    have w463 : 0 ≤ Xi U19 904 62 ∧ Xi U19 904 62 ≤ 9 := hHU19.c _ _
    have w464 : Xi U21 904 65 = Xi S 904 65 := (show Xi U21 904 65 = Xi U20 904 65 from by rw [eU21]; exact Xi_ne (by omega)).trans ( (show Xi U20 904 65 = Xi U19 904 65 from by rw [eU20]; exact Xi_ne (by omega)).trans ((show Xi U19 904 65 = Xi S 904 65 from by rw [eU19]; exact Xi_ne (by omega))))
    have w465 : 0 ≤ Xi S 904 65 ∧ Xi S 904 65 ≤ 1 := hH.c _ _
    have w466 : Xi U21 904 66 = Xi S 904 66 := (show Xi U21 904 66 = Xi U20 904 66 from by rw [eU21]; exact Xi_ne (by omega)).trans ( (show Xi U20 904 66 = Xi U19 904 66 from by rw [eU20]; exact Xi_ne (by omega)).trans ((show Xi U19 904 66 = Xi S 904 66 from by rw [eU19]; exact Xi_ne (by omega))))
    have w467 : 0 ≤ Xi S 904 66 ∧ Xi S 904 66 ≤ 5010 := hH.c _ _
    have w468 : Xi U21 904 70 = Xi S 904 70 := (show Xi U21 904 70 = Xi U20 904 70 from by rw [eU21]; exact Xi_ne (by omega)).trans ( (show Xi U20 904 70 = Xi U19 904 70 from by rw [eU20]; exact Xi_ne (by omega)).trans ((show Xi U19 904 70 = Xi S 904 70 from by rw [eU19]; exact Xi_ne (by omega))))
    have w469 : 0 ≤ Xi S 904 70 ∧ Xi S 904 70 ≤ 20 := hH.c _ _
    have w470 : 0 ≤ Xi U21 904 8 ∧ Xi U21 904 8 ≤ 5010 := hHU21.c _ _
    have w471 : Xi U21 904 94 = Xi S 904 94 := (show Xi U21 904 94 = Xi U20 904 94 from by rw [eU21]; exact Xi_ne (by omega)).trans ( (show Xi U20 904 94 = Xi U19 904 94 from by rw [eU20]; exact Xi_ne (by omega)).trans ((show Xi U19 904 94 = Xi S 904 94 from by rw [eU19]; exact Xi_ne (by omega))))
    have w472 : 0 ≤ Xi S 904 94 ∧ Xi S 904 94 ≤ 1700 := hH.c _ _
    exact Rl_weak (C36 _ U21 hHU21 hFU21  (by first | exact fun q => absurd q (by omega) | exact fun _ => ⟨by first | assumption | exact (TXM_FR (FR_e eU21) rfl (TXM_FR (FR_e eU20) rfl (TXM_FR (FR_e eU19) rfl (by assumption : TXM S)))), by first | assumption | exact (WYM_FR (FR_e eU21) rfl (WYM_FR (FR_e eU20) rfl (WYM_FR (FR_e eU19) rfl (by assumption : WYM S)))), by first | assumption | exact (LXM_FR (FR_e eU21) rfl (LXM_FR (FR_e eU20) rfl (LXM_FR (FR_e eU19) rfl (by assumption : LXM S)))), by first | assumption | exact (LCN_FR (FR_e eU21) rfl (LCN_FR (FR_e eU20) rfl (LCN_FR (FR_e eU19) rfl (by assumption : LCN S)))), by first | assumption | exact (ABV_FR (FR_e eU21) rfl (ABV_FR (FR_e eU20) rfl (ABV_FR (FR_e eU19) rfl (by assumption : ABV S)))), by first | assumption | exact (DCM_FR (FR_e eU21) rfl (DCM_FR (FR_e eU20) rfl (DCM_FR (FR_e eU19) rfl (by assumption : DCM S)))), by first | assumption | exact (VTM_FR (FR_e eU21) rfl (VTM_FR (FR_e eU20) rfl (VTM_FR (FR_e eU19) rfl (by assumption : VTM S)))), by first | assumption | exact (VCN_FR (FR_e eU21) rfl (VCN_FR (FR_e eU20) rfl (VCN_FR (FR_e eU19) rfl (by assumption : VCN S)))), by first | assumption | exact (WYD_FR (FR_e eU21) rfl (WYD_FR (FR_e eU20) rfl (WYD_FR (FR_e eU19) rfl (by assumption : WYD S)))), by first | assumption | exact (RDT_FR hHU20 (FR_e eU21) rfl rfl rfl (RDT_FR hHU19 (FR_e eU20) rfl rfl rfl (RDT_FR hH (FR_e eU19) rfl rfl rfl (by assumption : RDT S)))), by first | assumption | exact (AKR_FR (FR_e eU21) rfl (AKR_FR (FR_e eU20) rfl (AKR_FR (FR_e eU19) rfl (by assumption : AKR S)))), by omega, by omega⟩ | exact fun _ => (by obtain ⟨a1, a2, a3, a4, a5, a6, a7, a8, a9, a10, a11, a12, a13⟩ := hI; exact ⟨TXM_FR hFU21 rfl a1, WYM_FR hFU21 rfl a2, LXM_FR hFU21 rfl a3, LCN_FR hFU21 rfl a4, ABV_FR hFU21 rfl a5, DCM_FR hFU21 rfl a6, VTM_FR hFU21 rfl a7, VCN_FR hFU21 rfl a8, WYD_FR hFU21 rfl a9, RDT_FR hH hFU21 rfl rfl rfl a10, AKR_FR hFU21 rfl a11, by omega, by omega⟩)) (by first | assumption | exact (ABV_FR (FR_e eU21) rfl (ABV_FR (FR_e eU20) rfl (ABV_FR (FR_e eU19) rfl (by assumption : ABV S))))) (by first | assumption | exact (WYM_FR (FR_e eU21) rfl (WYM_FR (FR_e eU20) rfl (WYM_FR (FR_e eU19) rfl (by assumption : WYM S))))) (by omega) (by omega) (by first | assumption | exact (PF_FR (FR_e eU21) rfl (PF_FR (FR_e eU20) rfl (PF_FR (FR_e eU19) rfl (by assumption : PF S))))) (by first | assumption | exact (BDA_FR (FR_e eU21) rfl (BDA_FR (FR_e eU20) rfl (BDA_FR (FR_e eU19) rfl (by assumption : BDA S))))) rfl) (And.intro rfl (True.intro))
  · refine l_aload_n rfl rfl ?_
    refine l_iconst rfl ?_
    refine l_aload_n rfl rfl ?_
    refine l_gfr rfl rfl rfl rfl rfl (hHU21.r 904 5 908 rfl) ?_
    refine l_iconst rfl ?_
    refine l_iaload (n := 5002) rfl rfl (by omega) (by omega) (by unfold rg; omega) ?_
    have w473 : 0 ≤ (Xi U21 908 ((0 : Int).toNat)) ∧ (Xi U21 908 ((0 : Int).toNat)) ≤ 5000 := hHU21.c _ _
    have w474 : (Xi U21 908 ((0 : Int).toNat)) = Xi U21 908 0 := rfl
    have w475 : Xi U21 904 105 = Xi S 904 105 := (show Xi U21 904 105 = Xi U20 904 105 from by rw [eU21]; exact Xi_ne (by omega)).trans ( (show Xi U20 904 105 = Xi U19 904 105 from by rw [eU20]; exact Xi_ne (by omega)).trans ((show Xi U19 904 105 = Xi S 904 105 from by rw [eU19]; exact Xi_ne (by omega))))
    have w476 : 0 ≤ Xi S 904 105 ∧ Xi S 904 105 ≤ 5000 := hH.c _ _
    have w477 : Xi U21 904 106 = Xi S 904 106 := (show Xi U21 904 106 = Xi U20 904 106 from by rw [eU21]; exact Xi_ne (by omega)).trans ( (show Xi U20 904 106 = Xi U19 904 106 from by rw [eU20]; exact Xi_ne (by omega)).trans ((show Xi U19 904 106 = Xi S 904 106 from by rw [eU19]; exact Xi_ne (by omega))))
    have w478 : 0 ≤ Xi S 904 106 ∧ Xi S 904 106 ≤ 9 := hH.c _ _
    have w479 : Xi U21 904 16 = Xi S 904 16 := (show Xi U21 904 16 = Xi U20 904 16 from by rw [eU21]; exact Xi_ne (by omega)).trans ( (show Xi U20 904 16 = Xi U19 904 16 from by rw [eU20]; exact Xi_ne (by omega)).trans ((show Xi U19 904 16 = Xi S 904 16 from by rw [eU19]; exact Xi_ne (by omega))))
    have w480 : 0 ≤ Xi S 904 16 ∧ Xi S 904 16 ≤ 16 := hH.c _ _
    have w481 : Xi U21 904 19 = Xi S 904 19 := (show Xi U21 904 19 = Xi U20 904 19 from by rw [eU21]; exact Xi_ne (by omega)).trans ( (show Xi U20 904 19 = Xi U19 904 19 from by rw [eU20]; exact Xi_ne (by omega)).trans ((show Xi U19 904 19 = Xi S 904 19 from by rw [eU19]; exact Xi_ne (by omega))))
    have w482 : 0 ≤ Xi S 904 19 ∧ Xi S 904 19 ≤ 24 := hH.c _ _
    have w483 : Xi U21 904 60 = Xi S 904 60 := (show Xi U21 904 60 = Xi U20 904 60 from by rw [eU21]; exact Xi_ne (by omega)).trans ( (show Xi U20 904 60 = Xi U19 904 60 from by rw [eU20]; exact Xi_ne (by omega)).trans ((show Xi U19 904 60 = Xi S 904 60 from by rw [eU19]; exact Xi_ne (by omega))))
    have w484 : -1 ≤ Xi S 904 60 ∧ Xi S 904 60 ≤ 23 := hH.c _ _
    have w485 : Xi U21 904 61 = Xi U20 904 61 := (show Xi U21 904 61 = Xi U20 904 61 from by rw [eU21]; exact Xi_ne (by omega))
    have w486 : 0 ≤ Xi U20 904 61 ∧ Xi U20 904 61 ≤ 5001 := hHU20.c _ _
    have w487 : Xi U21 904 62 = Xi U19 904 62 := (show Xi U21 904 62 = Xi U20 904 62 from by rw [eU21]; exact Xi_ne (by omega)).trans ((show Xi U20 904 62 = Xi U19 904 62 from by rw [eU20]; exact Xi_ne (by omega)))
    have w488 : 0 ≤ Xi U19 904 62 ∧ Xi U19 904 62 ≤ 9 := hHU19.c _ _
    have w489 : Xi U21 904 65 = Xi S 904 65 := (show Xi U21 904 65 = Xi U20 904 65 from by rw [eU21]; exact Xi_ne (by omega)).trans ( (show Xi U20 904 65 = Xi U19 904 65 from by rw [eU20]; exact Xi_ne (by omega)).trans ((show Xi U19 904 65 = Xi S 904 65 from by rw [eU19]; exact Xi_ne (by omega))))
    have w490 : 0 ≤ Xi S 904 65 ∧ Xi S 904 65 ≤ 1 := hH.c _ _
    have w491 : Xi U21 904 66 = Xi S 904 66 := (show Xi U21 904 66 = Xi U20 904 66 from by rw [eU21]; exact Xi_ne (by omega)).trans ( (show Xi U20 904 66 = Xi U19 904 66 from by rw [eU20]; exact Xi_ne (by omega)).trans ((show Xi U19 904 66 = Xi S 904 66 from by rw [eU19]; exact Xi_ne (by omega))))
    have w492 : 0 ≤ Xi S 904 66 ∧ Xi S 904 66 ≤ 5010 := hH.c _ _
    have w493 : Xi U21 904 70 = Xi S 904 70 := (show Xi U21 904 70 = Xi U20 904 70 from by rw [eU21]; exact Xi_ne (by omega)).trans ( (show Xi U20 904 70 = Xi U19 904 70 from by rw [eU20]; exact Xi_ne (by omega)).trans ((show Xi U19 904 70 = Xi S 904 70 from by rw [eU19]; exact Xi_ne (by omega))))
    have w494 : 0 ≤ Xi S 904 70 ∧ Xi S 904 70 ≤ 20 := hH.c _ _
    have w495 : 0 ≤ Xi U21 904 8 ∧ Xi U21 904 8 ≤ 5010 := hHU21.c _ _
    have w496 : Xi U21 904 94 = Xi S 904 94 := (show Xi U21 904 94 = Xi U20 904 94 from by rw [eU21]; exact Xi_ne (by omega)).trans ( (show Xi U20 904 94 = Xi U19 904 94 from by rw [eU20]; exact Xi_ne (by omega)).trans ((show Xi U19 904 94 = Xi S 904 94 from by rw [eU19]; exact Xi_ne (by omega))))
    have w497 : 0 ≤ Xi S 904 94 ∧ Xi S 904 94 ≤ 1700 := hH.c _ _
    refine l_callV rfl rfl rfl (t_mo_failed hHU21 2 (Xi U21 908 ((0 : Int).toNat)) ⟨by omega, by omega⟩ ⟨by omega, by omega⟩ _) ?_
    rintro _ T22 ⟨hHT22, w500, rfl, w498⟩
    have hFT22 : FR md_mo_readStory S T22 := FR.tr hFU21 w500 rfl
    show Rl _ _ _ _ _ [] _ _
    have w501 : Xi T22 904 105 = Xi S 904 105 := (show Xi T22 904 105 = Xi U21 904 105 from w500.x _ _ rfl).trans ( (show Xi U21 904 105 = Xi U20 904 105 from by rw [eU21]; exact Xi_ne (by omega)).trans ( (show Xi U20 904 105 = Xi U19 904 105 from by rw [eU20]; exact Xi_ne (by omega)).trans ((show Xi U19 904 105 = Xi S 904 105 from by rw [eU19]; exact Xi_ne (by omega)))))
    have w502 : 0 ≤ Xi S 904 105 ∧ Xi S 904 105 ≤ 5000 := hH.c _ _
    have w503 : Xi T22 904 106 = Xi S 904 106 := (show Xi T22 904 106 = Xi U21 904 106 from w500.x _ _ rfl).trans ( (show Xi U21 904 106 = Xi U20 904 106 from by rw [eU21]; exact Xi_ne (by omega)).trans ( (show Xi U20 904 106 = Xi U19 904 106 from by rw [eU20]; exact Xi_ne (by omega)).trans ((show Xi U19 904 106 = Xi S 904 106 from by rw [eU19]; exact Xi_ne (by omega)))))
    have w504 : 0 ≤ Xi S 904 106 ∧ Xi S 904 106 ≤ 9 := hH.c _ _
    have w505 : Xi T22 904 16 = Xi S 904 16 := (show Xi T22 904 16 = Xi U21 904 16 from w500.x _ _ rfl).trans ( (show Xi U21 904 16 = Xi U20 904 16 from by rw [eU21]; exact Xi_ne (by omega)).trans ( (show Xi U20 904 16 = Xi U19 904 16 from by rw [eU20]; exact Xi_ne (by omega)).trans ((show Xi U19 904 16 = Xi S 904 16 from by rw [eU19]; exact Xi_ne (by omega)))))
    have w506 : 0 ≤ Xi S 904 16 ∧ Xi S 904 16 ≤ 16 := hH.c _ _
    have w507 : Xi T22 904 19 = Xi S 904 19 := (show Xi T22 904 19 = Xi U21 904 19 from w500.x _ _ rfl).trans ( (show Xi U21 904 19 = Xi U20 904 19 from by rw [eU21]; exact Xi_ne (by omega)).trans ( (show Xi U20 904 19 = Xi U19 904 19 from by rw [eU20]; exact Xi_ne (by omega)).trans ((show Xi U19 904 19 = Xi S 904 19 from by rw [eU19]; exact Xi_ne (by omega)))))
    have w508 : 0 ≤ Xi S 904 19 ∧ Xi S 904 19 ≤ 24 := hH.c _ _
    have w509 : Xi T22 904 60 = Xi S 904 60 := (show Xi T22 904 60 = Xi U21 904 60 from w500.x _ _ rfl).trans ( (show Xi U21 904 60 = Xi U20 904 60 from by rw [eU21]; exact Xi_ne (by omega)).trans ( (show Xi U20 904 60 = Xi U19 904 60 from by rw [eU20]; exact Xi_ne (by omega)).trans ((show Xi U19 904 60 = Xi S 904 60 from by rw [eU19]; exact Xi_ne (by omega)))))
    have w510 : -1 ≤ Xi S 904 60 ∧ Xi S 904 60 ≤ 23 := hH.c _ _
    have w511 : Xi T22 904 61 = Xi U20 904 61 := (show Xi T22 904 61 = Xi U21 904 61 from w500.x _ _ rfl).trans ((show Xi U21 904 61 = Xi U20 904 61 from by rw [eU21]; exact Xi_ne (by omega)))
    have w512 : 0 ≤ Xi U20 904 61 ∧ Xi U20 904 61 ≤ 5001 := hHU20.c _ _
    have w513 : 0 ≤ Xi T22 904 62 ∧ Xi T22 904 62 ≤ 9 := hHT22.c _ _
    have w514 : Xi T22 904 65 = Xi S 904 65 := (show Xi T22 904 65 = Xi U21 904 65 from w500.x _ _ rfl).trans ( (show Xi U21 904 65 = Xi U20 904 65 from by rw [eU21]; exact Xi_ne (by omega)).trans ( (show Xi U20 904 65 = Xi U19 904 65 from by rw [eU20]; exact Xi_ne (by omega)).trans ((show Xi U19 904 65 = Xi S 904 65 from by rw [eU19]; exact Xi_ne (by omega)))))
    have w515 : 0 ≤ Xi S 904 65 ∧ Xi S 904 65 ≤ 1 := hH.c _ _
    have w516 : Xi T22 904 66 = Xi S 904 66 := (show Xi T22 904 66 = Xi U21 904 66 from w500.x _ _ rfl).trans ( (show Xi U21 904 66 = Xi U20 904 66 from by rw [eU21]; exact Xi_ne (by omega)).trans ( (show Xi U20 904 66 = Xi U19 904 66 from by rw [eU20]; exact Xi_ne (by omega)).trans ((show Xi U19 904 66 = Xi S 904 66 from by rw [eU19]; exact Xi_ne (by omega)))))
    have w517 : 0 ≤ Xi S 904 66 ∧ Xi S 904 66 ≤ 5010 := hH.c _ _
    have w518 : Xi T22 904 70 = Xi S 904 70 := (show Xi T22 904 70 = Xi U21 904 70 from w500.x _ _ rfl).trans ( (show Xi U21 904 70 = Xi U20 904 70 from by rw [eU21]; exact Xi_ne (by omega)).trans ( (show Xi U20 904 70 = Xi U19 904 70 from by rw [eU20]; exact Xi_ne (by omega)).trans ((show Xi U19 904 70 = Xi S 904 70 from by rw [eU19]; exact Xi_ne (by omega)))))
    have w519 : 0 ≤ Xi S 904 70 ∧ Xi S 904 70 ≤ 20 := hH.c _ _
    have w520 : Xi T22 904 8 = Xi U21 904 8 := (show Xi T22 904 8 = Xi U21 904 8 from w500.x _ _ rfl)
    have w521 : 0 ≤ Xi U21 904 8 ∧ Xi U21 904 8 ≤ 5010 := hHU21.c _ _
    have w522 : Xi T22 904 94 = Xi S 904 94 := (show Xi T22 904 94 = Xi U21 904 94 from w500.x _ _ rfl).trans ( (show Xi U21 904 94 = Xi U20 904 94 from by rw [eU21]; exact Xi_ne (by omega)).trans ( (show Xi U20 904 94 = Xi U19 904 94 from by rw [eU20]; exact Xi_ne (by omega)).trans ((show Xi U19 904 94 = Xi S 904 94 from by rw [eU19]; exact Xi_ne (by omega)))))
    have w523 : 0 ≤ Xi S 904 94 ∧ Xi S 904 94 ≤ 1700 := hH.c _ _
    exact Rl_weak (C36 _ T22 hHT22 hFT22  (by first | exact fun q => absurd q (by omega) | exact fun _ => ⟨by first | assumption | exact (TXM_FR w500 rfl (TXM_FR (FR_e eU21) rfl (TXM_FR (FR_e eU20) rfl (TXM_FR (FR_e eU19) rfl (by assumption : TXM S))))), by first | assumption | exact (WYM_FR w500 rfl (WYM_FR (FR_e eU21) rfl (WYM_FR (FR_e eU20) rfl (WYM_FR (FR_e eU19) rfl (by assumption : WYM S))))), by first | assumption | exact (LXM_FR w500 rfl (LXM_FR (FR_e eU21) rfl (LXM_FR (FR_e eU20) rfl (LXM_FR (FR_e eU19) rfl (by assumption : LXM S))))), by first | assumption | exact (LCN_FR w500 rfl (LCN_FR (FR_e eU21) rfl (LCN_FR (FR_e eU20) rfl (LCN_FR (FR_e eU19) rfl (by assumption : LCN S))))), by first | assumption | exact (ABV_FR w500 rfl (ABV_FR (FR_e eU21) rfl (ABV_FR (FR_e eU20) rfl (ABV_FR (FR_e eU19) rfl (by assumption : ABV S))))), by first | assumption | exact (DCM_FR w500 rfl (DCM_FR (FR_e eU21) rfl (DCM_FR (FR_e eU20) rfl (DCM_FR (FR_e eU19) rfl (by assumption : DCM S))))), by first | assumption | exact (VTM_FR w500 rfl (VTM_FR (FR_e eU21) rfl (VTM_FR (FR_e eU20) rfl (VTM_FR (FR_e eU19) rfl (by assumption : VTM S))))), by first | assumption | exact (VCN_FR w500 rfl (VCN_FR (FR_e eU21) rfl (VCN_FR (FR_e eU20) rfl (VCN_FR (FR_e eU19) rfl (by assumption : VCN S))))), by first | assumption | exact (WYD_FR w500 rfl (WYD_FR (FR_e eU21) rfl (WYD_FR (FR_e eU20) rfl (WYD_FR (FR_e eU19) rfl (by assumption : WYD S))))), by first | assumption | exact (RDT_FR hHU21 w500 rfl rfl rfl (RDT_FR hHU20 (FR_e eU21) rfl rfl rfl (RDT_FR hHU19 (FR_e eU20) rfl rfl rfl (RDT_FR hH (FR_e eU19) rfl rfl rfl (by assumption : RDT S))))), by first | assumption | exact (AKR_FR w500 rfl (AKR_FR (FR_e eU21) rfl (AKR_FR (FR_e eU20) rfl (AKR_FR (FR_e eU19) rfl (by assumption : AKR S))))), by omega, by omega⟩ | exact fun _ => (by obtain ⟨a1, a2, a3, a4, a5, a6, a7, a8, a9, a10, a11, a12, a13⟩ := hI; exact ⟨TXM_FR hFT22 rfl a1, WYM_FR hFT22 rfl a2, LXM_FR hFT22 rfl a3, LCN_FR hFT22 rfl a4, ABV_FR hFT22 rfl a5, DCM_FR hFT22 rfl a6, VTM_FR hFT22 rfl a7, VCN_FR hFT22 rfl a8, WYD_FR hFT22 rfl a9, RDT_FR hH hFT22 rfl rfl rfl a10, AKR_FR hFT22 rfl a11, by omega, by omega⟩)) (by first | assumption | exact (ABV_FR w500 rfl (ABV_FR (FR_e eU21) rfl (ABV_FR (FR_e eU20) rfl (ABV_FR (FR_e eU19) rfl (by assumption : ABV S)))))) (by first | assumption | exact (WYM_FR w500 rfl (WYM_FR (FR_e eU21) rfl (WYM_FR (FR_e eU20) rfl (WYM_FR (FR_e eU19) rfl (by assumption : WYM S)))))) (by omega) (by omega) (by first | assumption | exact (PF_FR w500 rfl (PF_FR (FR_e eU21) rfl (PF_FR (FR_e eU20) rfl (PF_FR (FR_e eU19) rfl (by assumption : PF S)))))) (by first | assumption | exact (BDA_FR w500 rfl (BDA_FR (FR_e eU21) rfl (BDA_FR (FR_e eU20) rfl (BDA_FR (FR_e eU19) rfl (by assumption : BDA S)))))) rfl) (And.intro rfl (True.intro))

