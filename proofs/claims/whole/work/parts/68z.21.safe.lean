/-! SAFETY of methods: printed by wip/safe (vc.py, decl.py) -/
theorem fitsB {v : Int32} (h : -128 ≤ v.toInt ∧ v.toInt ≤ 127) : Jvm.fits .byte (.int v) = true := by
  show (decide (-128 ≤ v) && decide (v ≤ 127)) = true
  rw [Bool.and_eq_true, decide_eq_true_eq, decide_eq_true_eq, Int32.le_iff_toInt_le, Int32.le_iff_toInt_le]
  exact h
theorem KWM_FR {l : List rec} {S T : sS} (h : FR l S T) (e : kdis l [(911, 912)] = true) (hK : KWM S) : KWM T := fun k a b c => by
  rw [(h.smk e).xj 911 rfl]
  exact hK k a b c
section
variable {lay : Nat → Nat × Nat} {S : sS}
theorem acpB {x y z : Int} {a b A B : Nat} (ha : lay a = (3, A)) (hb : lay b = (3, B)) (hx : 0 ≤ x) (hy : 0 ≤ y) (hz : 0 ≤ z) (h1 : x + z ≤ A) (h2 : y + z ≤ B) (hA : A ≤ 10000) (hB : B ≤ 10000) (hf : ∀ j, -128 ≤ Xi S a j ∧ Xi S a j ≤ 127) : acp lay S a (Int32.ofInt x) b (Int32.ofInt y) (Int32.ofInt z) = some (cpI S a b x.toNat y.toNat z.toNat) := by
  unfold acp
  rw [ix_i (x := x) ⟨by omega, by omega⟩, ix_i (x := y) ⟨by omega, by omega⟩, ix_i (x := z) ⟨by omega, by omega⟩, ha, hb]
  have c := acp_c hx hy hz h1 h2 hA hB
  show (bif ((decide (¬ Int32.ofInt x < 0) && (decide (¬ Int32.ofInt y < 0) && decide (¬ Int32.ofInt z < 0))) && (Nat.ble (x.toNat + z.toNat) A && Nat.ble (y.toNat + z.toNat) B)) then _ else none) = _
  rw [c]
  have f : (List.range z.toNat).all (fun i => Jvm.fits .byte (.int (S.1 a (x.toNat + i)))) = true := List.all_eq_true.mpr (fun i _ => fitsB (hf (x.toNat + i)))
  show (bif true && (List.range z.toNat).all (fun i => Jvm.fits .byte (.int (S.1 a (x.toNat + i)))) then _ else none) = _
  rw [f]
  rfl
end
theorem rdt_0 {S : sS} (h23 : 0 ≤ Xi S 904 23) (h : Xi S 904 117 = 0 ∧ Xi S 904 125 = 0 ∧ Xi S 904 130 = 0) (d : ∀ a : Nat, (a : Int) < Xi S 904 23 → Xi S 924 a = 0) : RDT S :=
  ⟨fun r hr => absurd hr (by omega), fun a ha hp => absurd (d a ha) (by omega), ⟨⟨by omega, by omega⟩, fun a ha hp => absurd (d a ha) (by omega), fun r hr => absurd hr (by omega)⟩⟩
def md_mo_read : List rec := [(904, 905, 1, 2), (904, 905, 3, 4), (904, 905, 8, 9), (904, 905, 15, 16), (904, 905, 16, 17), (904, 905, 18, 19), (904, 905, 19, 20), (904, 905, 23, 24), (904, 905, 30, 31), (904, 905, 32, 33), (904, 905, 41, 42), (904, 905, 47, 48), (904, 905, 49, 50), (904, 905, 51, 52), (904, 905, 55, 56), (904, 905, 60, 61), (904, 905, 61, 62), (904, 905, 62, 63), (904, 905, 63, 64), (904, 905, 64, 65), (904, 905, 65, 66), (904, 905, 66, 67), (904, 905, 69, 70), (904, 905, 70, 71), (904, 905, 71, 72), (904, 905, 72, 73), (904, 905, 73, 74), (904, 905, 74, 75), (904, 905, 75, 76), (904, 905, 76, 77), (904, 905, 77, 78), (904, 905, 78, 79), (904, 905, 79, 80), (904, 905, 80, 81), (904, 905, 81, 82), (904, 905, 93, 94), (904, 905, 94, 95), (904, 905, 98, 99), (904, 905, 99, 100), (904, 905, 100, 101), (904, 905, 101, 102), (904, 905, 102, 103), (904, 905, 103, 104), (904, 905, 104, 105), (904, 905, 105, 106), (904, 905, 106, 107), (904, 905, 108, 109), (904, 905, 109, 110), (904, 905, 110, 111), (904, 905, 112, 113), (904, 905, 113, 114), (904, 905, 115, 116), (904, 905, 116, 117), (904, 905, 117, 118), (904, 905, 125, 126), (904, 905, 128, 129), (904, 905, 129, 130), (904, 905, 130, 131), (904, 905, 142, 143), (904, 905, 144, 145), (904, 905, 146, 147), (904, 905, 147, 148), (904, 905, 150, 151), (904, 905, 151, 152), (904, 905, 153, 154), (904, 905, 154, 155), (904, 905, 156, 157), (904, 905, 157, 158), (904, 905, 158, 159), (904, 905, 160, 161), (906, 907, 0, 100000), (907, 908, 0, 100000), (908, 909, 0, 100000), (909, 910, 0, 100000), (910, 911, 0, 100000), (912, 913, 0, 100000), (913, 914, 0, 100000), (914, 915, 0, 100000), (915, 916, 0, 100000), (916, 917, 0, 100000), (917, 918, 0, 100000), (918, 919, 0, 100000), (919, 920, 0, 100000), (920, 921, 0, 100000), (921, 922, 0, 100000), (922, 923, 0, 100000), (923, 924, 0, 100000), (924, 925, 0, 100000), (925, 926, 0, 100000), (926, 927, 0, 100000), (927, 928, 0, 100000), (928, 929, 0, 100000), (929, 930, 0, 100000), (930, 931, 0, 100000), (931, 932, 0, 100000), (932, 933, 0, 100000), (933, 934, 0, 100000), (934, 935, 0, 100000), (935, 936, 0, 100000), (936, 937, 0, 100000), (937, 938, 0, 100000), (938, 939, 0, 100000), (939, 940, 0, 100000), (940, 941, 0, 100000), (941, 942, 0, 100000), (942, 943, 0, 100000), (943, 944, 0, 100000), (944, 945, 0, 100000), (945, 946, 0, 100000), (946, 947, 0, 100000), (947, 948, 0, 100000), (948, 949, 0, 100000), (949, 950, 0, 100000), (950, 951, 0, 100000), (951, 952, 0, 100000), (952, 953, 0, 100000), (953, 954, 0, 100000), (954, 955, 0, 100000), (955, 956, 0, 100000), (956, 957, 0, 100000), (957, 958, 0, 100000), (958, 959, 0, 100000), (959, 960, 0, 100000), (960, 961, 0, 100000), (961, 962, 0, 100000), (962, 963, 0, 100000), (963, 964, 0, 100000), (964, 965, 0, 100000), (965, 966, 0, 100000), (966, 967, 0, 100000), (967, 968, 0, 100000), (968, 969, 0, 100000), (969, 970, 0, 100000), (970, 971, 0, 100000), (971, 972, 0, 100000), (972, 973, 0, 100000), (973, 974, 0, 100000), (974, 975, 0, 100000), (975, 976, 0, 100000), (976, 977, 0, 100000), (977, 978, 0, 100000), (978, 979, 0, 100000), (979, 980, 0, 100000), (980, 981, 0, 100000), (981, 982, 0, 100000), (982, 983, 0, 100000), (983, 984, 0, 100000), (984, 985, 0, 100000), (985, 986, 0, 100000), (986, 987, 0, 100000), (987, 988, 0, 100000), (988, 989, 0, 100000), (989, 990, 0, 100000), (990, 991, 0, 100000), (991, 992, 0, 100000), (992, 993, 0, 100000), (993, 994, 0, 100000), (994, 995, 0, 100000)]
abbrev Q_mo_read (S : sS) : pst := fun r S1 => HI S1 ∧ FR md_mo_read S S1 ∧ (∃ z : Int, r = some (iv z) ∧ (-5010 ≤ z ∧ z ≤ 5001) ∧ (TIX S1) ∧ (PF S1) ∧ (BDA S1))
set_option maxRecDepth 100000 in
set_option maxHeartbeats 4000000 in
theorem c63_mo_read {S : sS} (hH : HI S) (hB : ABV S) (hW : WYM S) (hK : KWM S) (hPF : PF S) (hBDA : BDA S) (d : Nat) : ∀ (n63 : Nat) (T1 : sS) (_ : HI T1) (_ : FR md_mo_read S T1) (v1 : Int), (0 ≤ v1 ∧ v1 ≤ 24) → (TXM T1) → (WYM T1) → (LXM T1) → (LCN T1) → (ABV T1) → (DCM T1) → (VTM T1) → (VCN T1) → (WYD T1) → (RDT T1) → (AKR T1) → (Xi T1 904 60 < Xi T1 904 19) → (2 ≤ Xi T1 904 16) → (v1 ≤ Xi T1 904 19) → (PF T1) → (BDA T1) → n63 = (25 - v1).toNat → Rl lay0 (d + 14) m_mo_read 63 [(0, .ref 904), (1, iv v1)] [] T1 (Q_mo_read S) := by
  have hF : FR md_mo_read S S := FR.rf
  have w1 : 0 ≤ Xi S 904 16 ∧ Xi S 904 16 ≤ 16 := hH.c _ _
  have w2 : 0 ≤ Xi S 904 19 ∧ Xi S 904 19 ≤ 24 := hH.c _ _
  have w3 : -1 ≤ Xi S 904 60 ∧ Xi S 904 60 ≤ 23 := hH.c _ _
  have hc1 : 0 ≤ Xi S 904 1 ∧ Xi S 904 1 ≤ 5000 := hH.c _ _
  intro n63
  induction n63 using Nat.strongRecOn with
  | ind n63 ih63 =>
    intro T1 hHT1 hFT1 v1 w4 TXM63 WYM63 LXM63 LCN63 ABV63 DCM63 VTM63 VCN63 WYD63 RDT63 AKR63 w5 w6 w7 PF63 BD63 hm63
    have w8 : 0 ≤ Xi T1 904 16 ∧ Xi T1 904 16 ≤ 16 := hHT1.c _ _
    have w9 : 0 ≤ Xi T1 904 19 ∧ Xi T1 904 19 ≤ 24 := hHT1.c _ _
    have w10 : -1 ≤ Xi T1 904 60 ∧ Xi T1 904 60 ≤ 23 := hHT1.c _ _
    refine l_iload_n rfl rfl ?_
    refine l_aload_n rfl rfl ?_
    refine l_gfi rfl rfl rfl rfl rfl ?_
    refine l_icmp_ge rfl rfl (by unfold rg; omega) (by unfold rg; omega) (fun w11 => ?_) (fun w12 => ?_)
    · refine l_aload_n rfl rfl ?_
      refine l_gfi rfl rfl rfl rfl rfl ?_
      have w13 : 0 ≤ (Xi T1 904 61) ∧ (Xi T1 904 61) ≤ 5001 := hHT1.c _ _
      refine l_ireturn rfl rfl ?_
      have w14 : 0 ≤ Xi T1 904 16 ∧ Xi T1 904 16 ≤ 16 := hHT1.c _ _
      have w15 : 0 ≤ Xi T1 904 19 ∧ Xi T1 904 19 ≤ 24 := hHT1.c _ _
      have w16 : -1 ≤ Xi T1 904 60 ∧ Xi T1 904 60 ≤ 23 := hHT1.c _ _
      have w17 : 0 ≤ Xi T1 904 61 ∧ Xi T1 904 61 ≤ 5001 := hHT1.c _ _
      have w18 : 0 ≤ Xi T1 904 62 ∧ Xi T1 904 62 ≤ 9 := hHT1.c _ _
      have w19 : 0 ≤ Xi T1 904 63 ∧ Xi T1 904 63 ≤ 5000 := hHT1.c _ _
      exact ⟨hHT1, hFT1, _, rfl, ⟨by omega, by omega⟩, (by first | exact I50 | exact (⟨by first | assumption | exact (by assumption : TXM T1), by first | assumption | exact (by assumption : WYM T1), by first | assumption | exact (by assumption : LXM T1), by first | assumption | exact (by assumption : LCN T1), by first | assumption | exact (by assumption : ABV T1), by first | assumption | exact (by assumption : DCM T1), by first | assumption | exact (by assumption : VTM T1), by first | assumption | exact (by assumption : VCN T1), by first | assumption | exact (by assumption : WYD T1), by first | assumption | exact (by assumption : RDT T1), by first | assumption | exact (by assumption : AKR T1), by omega, by omega⟩)), (by first | assumption | exact (by assumption : PF T1)), (by first | assumption | exact (by assumption : BDA T1))⟩
    · refine l_aload_n rfl rfl ?_
      refine l_gfr rfl rfl rfl rfl rfl (hHT1.r 904 21 919 rfl) ?_
      refine l_iconst rfl ?_
      refine l_iaload (n := 24) rfl rfl (by omega) (by omega) (by unfold rg; omega) ?_
      have w20 : 0 ≤ (Xi T1 919 ((0 : Int).toNat)) ∧ (Xi T1 919 ((0 : Int).toNat)) ≤ 5 := hHT1.c _ _
      have w21 : (Xi T1 919 ((0 : Int).toNat)) = Xi T1 919 0 := rfl
      refine l_if_ne rfl rfl (by unfold rg; omega) (fun w22 => ?_) (fun w23 => ?_)
      · refine l_aload_n rfl rfl ?_
        refine l_gfi rfl rfl rfl rfl rfl ?_
        have w24 : 0 ≤ (Xi T1 904 61) ∧ (Xi T1 904 61) ≤ 5001 := hHT1.c _ _
        refine l_ireturn rfl rfl ?_
        have w25 : 0 ≤ Xi T1 904 16 ∧ Xi T1 904 16 ≤ 16 := hHT1.c _ _
        have w26 : 0 ≤ Xi T1 904 19 ∧ Xi T1 904 19 ≤ 24 := hHT1.c _ _
        have w27 : -1 ≤ Xi T1 904 60 ∧ Xi T1 904 60 ≤ 23 := hHT1.c _ _
        have w28 : 0 ≤ Xi T1 904 61 ∧ Xi T1 904 61 ≤ 5001 := hHT1.c _ _
        have w29 : 0 ≤ Xi T1 904 62 ∧ Xi T1 904 62 ≤ 9 := hHT1.c _ _
        have w30 : 0 ≤ Xi T1 904 63 ∧ Xi T1 904 63 ≤ 5000 := hHT1.c _ _
        exact ⟨hHT1, hFT1, _, rfl, ⟨by omega, by omega⟩, (by first | exact I50 | exact (⟨by first | assumption | exact (by assumption : TXM T1), by first | assumption | exact (by assumption : WYM T1), by first | assumption | exact (by assumption : LXM T1), by first | assumption | exact (by assumption : LCN T1), by first | assumption | exact (by assumption : ABV T1), by first | assumption | exact (by assumption : DCM T1), by first | assumption | exact (by assumption : VTM T1), by first | assumption | exact (by assumption : VCN T1), by first | assumption | exact (by assumption : WYD T1), by first | assumption | exact (by assumption : RDT T1), by first | assumption | exact (by assumption : AKR T1), by omega, by omega⟩)), (by first | assumption | exact (by assumption : PF T1)), (by first | assumption | exact (by assumption : BDA T1))⟩
      · refine l_aload_n rfl rfl ?_
        refine l_aload_n rfl rfl ?_
        refine l_gfr rfl rfl rfl rfl rfl (hHT1.r 904 20 918 rfl) ?_
        refine l_iload_n rfl rfl ?_
        refine l_iaload (n := 24) rfl rfl (by omega) (by omega) (by unfold rg; omega) ?_
        have w31 : 0 ≤ (Xi T1 918 ((v1).toNat)) ∧ (Xi T1 918 ((v1).toNat)) ≤ 15 := hHT1.c _ _
        refine l_iconst rfl ?_
        have w32 : 0 ≤ Xi T1 904 16 ∧ Xi T1 904 16 ≤ 16 := hHT1.c _ _
        have w33 : 0 ≤ Xi T1 904 19 ∧ Xi T1 904 19 ≤ 24 := hHT1.c _ _
        have w34 : -1 ≤ Xi T1 904 60 ∧ Xi T1 904 60 ≤ 23 := hHT1.c _ _
        have w35 : 0 ≤ Xi T1 904 61 ∧ Xi T1 904 61 ≤ 5001 := hHT1.c _ _
        have w36 : 0 ≤ Xi T1 904 62 ∧ Xi T1 904 62 ≤ 9 := hHT1.c _ _
        have w37 : 0 ≤ Xi T1 904 63 ∧ Xi T1 904 63 ≤ 5000 := hHT1.c _ _
        refine l_callV rfl rfl rfl (t_mo_isBelow hHT1 (Xi T1 918 ((v1).toNat)) 1 ⟨by omega, by omega⟩ ⟨by omega, by omega⟩ (by first | assumption | exact (by assumption : ABV T1)) _) ?_
        rintro _ _ ⟨rfl, z39, rfl, w39, w38⟩
        show Rl _ _ _ _ _ [iv z39] _ _
        refine l_if_eq rfl rfl (by unfold rg; omega) (fun w40 => ?_) (fun w41 => ?_)
        · refine l_iinc rfl rfl rfl rfl ?_
          refine l_goto rfl rfl ?_
          have w42 : 0 ≤ Xi T1 904 16 ∧ Xi T1 904 16 ≤ 16 := hHT1.c _ _
          have w43 : 0 ≤ Xi T1 904 19 ∧ Xi T1 904 19 ≤ 24 := hHT1.c _ _
          have w44 : -1 ≤ Xi T1 904 60 ∧ Xi T1 904 60 ≤ 23 := hHT1.c _ _
          have w45 : 0 ≤ Xi T1 904 61 ∧ Xi T1 904 61 ≤ 5001 := hHT1.c _ _
          have w46 : 0 ≤ Xi T1 904 62 ∧ Xi T1 904 62 ≤ 9 := hHT1.c _ _
          have w47 : 0 ≤ Xi T1 904 63 ∧ Xi T1 904 63 ≤ 5000 := hHT1.c _ _
          exact Rl_weak (ih63 _ (by omega) T1 hHT1 hFT1 ((v1 + 1)) (by omega) (by first | assumption | exact (by assumption : TXM T1)) (by first | assumption | exact (by assumption : WYM T1)) (by first | assumption | exact (by assumption : LXM T1)) (by first | assumption | exact (by assumption : LCN T1)) (by first | assumption | exact (by assumption : ABV T1)) (by first | assumption | exact (by assumption : DCM T1)) (by first | assumption | exact (by assumption : VTM T1)) (by first | assumption | exact (by assumption : VCN T1)) (by first | assumption | exact (by assumption : WYD T1)) (by first | assumption | exact (by assumption : RDT T1)) (by first | assumption | exact (by assumption : AKR T1)) (by omega) (by omega) (by omega) (by first | assumption | exact (by assumption : PF T1)) (by first | assumption | exact (by assumption : BDA T1)) rfl) (And.intro rfl (And.intro rfl (True.intro)))
        · refine l_aload_n rfl rfl ?_
          refine l_gfr rfl rfl rfl rfl rfl (hHT1.r 904 21 919 rfl) ?_
          refine l_iconst rfl ?_
          refine l_iconst rfl ?_
          refine l_iastore (n := 24) rfl rfl (by omega) (by omega) (by unfold rg; omega) ?_
          obtain ⟨U2, eU2⟩ : ∃ T : sS, T = uI T1 919 ((0 : Int).toNat) (Int32.ofInt 1) := ⟨_, rfl⟩
          rw [← eU2]
          have hHU2 : HI U2 := by rw [eU2]; exact HI_w hHT1 (show 0 ≤ 1 by omega) (show 1 ≤ 5 by omega)
          have hFU2 : FR md_mo_read S U2 := by rw [eU2]; exact FR.wI hFT1 (mdf_i (r := (919, 920, 0, 100000)) (List.mem_of_getElem? (i := 82) rfl) (inR_i (by omega) (by omega) (by omega) (by omega)))
          have w48 : Xi U2 919 ((0 : Int).toNat) = 1 := by rw [eU2]; exact Xi_same (by unfold rg; omega)
          refine l_aload_n rfl rfl ?_
          refine l_gfr rfl rfl rfl rfl rfl (hHU2.r 904 22 920 rfl) ?_
          refine l_iconst rfl ?_
          refine l_iload_n rfl rfl ?_
          refine l_iastore (n := 24) rfl rfl (by omega) (by omega) (by unfold rg; omega) ?_
          obtain ⟨U3, eU3⟩ : ∃ T : sS, T = uI U2 920 ((0 : Int).toNat) (Int32.ofInt v1) := ⟨_, rfl⟩
          rw [← eU3]
          have hHU3 : HI U3 := by rw [eU3]; exact HI_w hHU2 (show -1 ≤ v1 by omega) (show v1 ≤ 23 by omega)
          have hFU3 : FR md_mo_read S U3 := by rw [eU3]; exact FR.wI hFU2 (mdf_i (r := (920, 921, 0, 100000)) (List.mem_of_getElem? (i := 83) rfl) (inR_i (by omega) (by omega) (by omega) (by omega)))
          have w49 : Xi U3 920 ((0 : Int).toNat) = v1 := by rw [eU3]; exact Xi_same (by unfold rg; omega)
          have W107 : WYM U3 := wym_w eU2 eU3 (fun _ => by rw [eU3]; first | (rw [Xi_same (by unfold rg; omega)]; omega) | omega) WYM63
          refine l_iinc rfl rfl rfl rfl ?_
          refine l_goto rfl rfl ?_
          have w50 : Xi U3 904 16 = Xi T1 904 16 := (show Xi U3 904 16 = Xi U2 904 16 from by rw [eU3]; exact Xi_ne (by omega)).trans ((show Xi U2 904 16 = Xi T1 904 16 from by rw [eU2]; exact Xi_ne (by omega)))
          have w51 : 0 ≤ Xi T1 904 16 ∧ Xi T1 904 16 ≤ 16 := hHT1.c _ _
          have w52 : Xi U3 904 19 = Xi T1 904 19 := (show Xi U3 904 19 = Xi U2 904 19 from by rw [eU3]; exact Xi_ne (by omega)).trans ((show Xi U2 904 19 = Xi T1 904 19 from by rw [eU2]; exact Xi_ne (by omega)))
          have w53 : 0 ≤ Xi T1 904 19 ∧ Xi T1 904 19 ≤ 24 := hHT1.c _ _
          have w54 : Xi U3 904 60 = Xi T1 904 60 := (show Xi U3 904 60 = Xi U2 904 60 from by rw [eU3]; exact Xi_ne (by omega)).trans ((show Xi U2 904 60 = Xi T1 904 60 from by rw [eU2]; exact Xi_ne (by omega)))
          have w55 : -1 ≤ Xi T1 904 60 ∧ Xi T1 904 60 ≤ 23 := hHT1.c _ _
          have w56 : Xi U3 904 61 = Xi T1 904 61 := (show Xi U3 904 61 = Xi U2 904 61 from by rw [eU3]; exact Xi_ne (by omega)).trans ((show Xi U2 904 61 = Xi T1 904 61 from by rw [eU2]; exact Xi_ne (by omega)))
          have w57 : 0 ≤ Xi T1 904 61 ∧ Xi T1 904 61 ≤ 5001 := hHT1.c _ _
          have w58 : Xi U3 904 62 = Xi T1 904 62 := (show Xi U3 904 62 = Xi U2 904 62 from by rw [eU3]; exact Xi_ne (by omega)).trans ((show Xi U2 904 62 = Xi T1 904 62 from by rw [eU2]; exact Xi_ne (by omega)))
          have w59 : 0 ≤ Xi T1 904 62 ∧ Xi T1 904 62 ≤ 9 := hHT1.c _ _
          have w60 : Xi U3 904 63 = Xi T1 904 63 := (show Xi U3 904 63 = Xi U2 904 63 from by rw [eU3]; exact Xi_ne (by omega)).trans ((show Xi U2 904 63 = Xi T1 904 63 from by rw [eU2]; exact Xi_ne (by omega)))
          have w61 : 0 ≤ Xi T1 904 63 ∧ Xi T1 904 63 ≤ 5000 := hHT1.c _ _
          exact Rl_weak (ih63 _ (by omega) U3 hHU3 hFU3 ((v1 + 1)) (by omega) (by first | assumption | exact (TXM_FR (FR_e eU3) rfl (TXM_FR (FR_e eU2) rfl (by assumption : TXM T1)))) (by first | assumption | exact (by assumption : WYM U3)) (by first | assumption | exact (LXM_FR (FR_e eU3) rfl (LXM_FR (FR_e eU2) rfl (by assumption : LXM T1)))) (by first | assumption | exact (LCN_FR (FR_e eU3) rfl (LCN_FR (FR_e eU2) rfl (by assumption : LCN T1)))) (by first | assumption | exact (ABV_FR (FR_e eU3) rfl (ABV_FR (FR_e eU2) rfl (by assumption : ABV T1)))) (by first | assumption | exact (DCM_FR (FR_e eU3) rfl (DCM_FR (FR_e eU2) rfl (by assumption : DCM T1)))) (by first | assumption | exact (VTM_FR (FR_e eU3) rfl (VTM_FR (FR_e eU2) rfl (by assumption : VTM T1)))) (by first | assumption | exact (VCN_FR (FR_e eU3) rfl (VCN_FR (FR_e eU2) rfl (by assumption : VCN T1)))) (by first | assumption | exact (WYD_FR (FR_e eU3) rfl (WYD_FR (FR_e eU2) rfl (by assumption : WYD T1)))) (by first | assumption | exact (RDT_FR hHU2 (FR_e eU3) rfl rfl rfl (RDT_FR hHT1 (FR_e eU2) rfl rfl rfl (by assumption : RDT T1)))) (by first | assumption | exact (AKR_FR (FR_e eU3) rfl (AKR_FR (FR_e eU2) rfl (by assumption : AKR T1)))) (by omega) (by omega) (by omega) (by first | assumption | exact (PF_FR (FR_e eU3) rfl (PF_FR (FR_e eU2) rfl (by assumption : PF T1)))) (by first | assumption | exact (BDA_FR (FR_e eU3) rfl (BDA_FR (FR_e eU2) rfl (by assumption : BDA T1)))) rfl) (And.intro rfl (And.intro rfl (True.intro)))
set_option maxRecDepth 100000 in
set_option maxHeartbeats 4000000 in
theorem t_mo_read {S : sS} (hH : HI S) (hB : ABV S) (hW : WYM S) (hK : KWM S) (hPF : PF S) (hBDA : BDA S) (d : Nat) : Mt lay0 (d + 15) m_mo_read [.ref 904] S (Q_mo_read S) := by
  refine Mt_R rfl rfl ?_
  have C63 := c63_mo_read hH hB hW hK hPF hBDA d 
  have hF : FR md_mo_read S S := FR.rf
  have w1 : 0 ≤ Xi S 904 16 ∧ Xi S 904 16 ≤ 16 := hH.c _ _
  have w2 : 0 ≤ Xi S 904 19 ∧ Xi S 904 19 ≤ 24 := hH.c _ _
  have w3 : -1 ≤ Xi S 904 60 ∧ Xi S 904 60 ≤ 23 := hH.c _ _
  have hc1 : 0 ≤ Xi S 904 1 ∧ Xi S 904 1 ≤ 5000 := hH.c _ _
  refine l_aload_n rfl rfl ?_
  refine l_aload_n rfl rfl ?_
  refine l_gfi rfl rfl rfl rfl rfl ?_
  have w62 : 0 ≤ (Xi S 904 1) ∧ (Xi S 904 1) ≤ 5000 := hH.c _ _
  refine l_pfi rfl rfl rfl rfl ?_
  obtain ⟨U4, eU4⟩ : ∃ T : sS, T = uI S 904 3 (Int32.ofInt (Xi S 904 1)) := ⟨_, rfl⟩
  rw [← eU4]
  have hHU4 : HI U4 := by rw [eU4]; exact HI_w hH (show 0 ≤ (Xi S 904 1) by omega) (show (Xi S 904 1) ≤ 5000 by omega)
  have hFU4 : FR md_mo_read S U4 := by rw [eU4]; exact FR.wI hF (mdf_i (r := (904, 905, 3, 4)) (List.mem_of_getElem? (i := 1) rfl) (inR_i (by omega) (by omega) (by omega) (by omega)))
  have w63 : Xi U4 904 3 = (Xi S 904 1) := by rw [eU4]; exact Xi_same (by unfold rg; omega)
  refine l_aload_n rfl rfl ?_
  refine l_gfr rfl rfl rfl rfl rfl (hHU4.r 904 0 905 rfl) ?_
  refine l_iconst rfl ?_
  refine l_aload_n rfl rfl ?_
  refine l_gfr rfl rfl rfl rfl rfl (hHU4.r 904 2 906 rfl) ?_
  refine l_iconst rfl ?_
  refine l_aload_n rfl rfl ?_
  refine l_gfi rfl rfl rfl rfl rfl ?_
  have w64 : (Xi U4 904 1) = (Xi S 904 1) := (show Xi U4 904 1 = Xi S 904 1 from by rw [eU4]; exact Xi_ne (by omega))
  rw [w64]
  refine l_acp rfl rfl rfl (acpB (A := 5000) (B := 5000) rfl rfl (by omega) (by omega) (by omega) (by omega) (by omega) (by omega) (by omega) (fun j => hHU4.c 905 j)) ?_
  obtain ⟨T5, eT5⟩ : ∃ T : sS, T = cpI U4 905 906 (0 : Int).toNat (0 : Int).toNat ((Xi S 904 1) : Int).toNat := ⟨_, rfl⟩
  rw [← eT5]
  have hHT5 : HI T5 := by rw [eT5]; exact HI_cpI hHU4 (fun j _ _ => hHU4.c 905 _)
  have w65 : FR [(906, 907, 0, 100000)] U4 T5 := by rw [eT5]; exact FR_cpI (by omega)
  have hFT5 : FR md_mo_read S T5 := FR.tr hFU4 w65 rfl
  refine l_aload_n rfl rfl ?_
  refine l_iconst rfl ?_
  refine l_pfi rfl rfl rfl rfl ?_
  obtain ⟨U6, eU6⟩ : ∃ T : sS, T = uI T5 904 1 (Int32.ofInt 0) := ⟨_, rfl⟩
  rw [← eU6]
  have hHU6 : HI U6 := by rw [eU6]; exact HI_w hHT5 (show 0 ≤ 0 by omega) (show 0 ≤ 5000 by omega)
  have hFU6 : FR md_mo_read S U6 := by rw [eU6]; exact FR.wI hFT5 (mdf_i (r := (904, 905, 1, 2)) (List.mem_of_getElem? (i := 0) rfl) (inR_i (by omega) (by omega) (by omega) (by omega)))
  have w66 : Xi U6 904 1 = 0 := by rw [eU6]; exact Xi_same (by unfold rg; omega)
  refine l_aload_n rfl rfl ?_
  have w67 : Xi U6 904 16 = Xi S 904 16 := (show Xi U6 904 16 = Xi T5 904 16 from by rw [eU6]; exact Xi_ne (by omega)).trans ( (show Xi T5 904 16 = Xi U4 904 16 from w65.x _ _ rfl).trans ((show Xi U4 904 16 = Xi S 904 16 from by rw [eU4]; exact Xi_ne (by omega))))
  have w68 : 0 ≤ Xi S 904 16 ∧ Xi S 904 16 ≤ 16 := hH.c _ _
  have w69 : Xi U6 904 19 = Xi S 904 19 := (show Xi U6 904 19 = Xi T5 904 19 from by rw [eU6]; exact Xi_ne (by omega)).trans ( (show Xi T5 904 19 = Xi U4 904 19 from w65.x _ _ rfl).trans ((show Xi U4 904 19 = Xi S 904 19 from by rw [eU4]; exact Xi_ne (by omega))))
  have w70 : 0 ≤ Xi S 904 19 ∧ Xi S 904 19 ≤ 24 := hH.c _ _
  have w71 : Xi U6 904 60 = Xi S 904 60 := (show Xi U6 904 60 = Xi T5 904 60 from by rw [eU6]; exact Xi_ne (by omega)).trans ( (show Xi T5 904 60 = Xi U4 904 60 from w65.x _ _ rfl).trans ((show Xi U4 904 60 = Xi S 904 60 from by rw [eU4]; exact Xi_ne (by omega))))
  have w72 : -1 ≤ Xi S 904 60 ∧ Xi S 904 60 ≤ 23 := hH.c _ _
  have w73 : Xi U6 904 61 = Xi S 904 61 := (show Xi U6 904 61 = Xi T5 904 61 from by rw [eU6]; exact Xi_ne (by omega)).trans ( (show Xi T5 904 61 = Xi U4 904 61 from w65.x _ _ rfl).trans ((show Xi U4 904 61 = Xi S 904 61 from by rw [eU4]; exact Xi_ne (by omega))))
  have w74 : 0 ≤ Xi S 904 61 ∧ Xi S 904 61 ≤ 5001 := hH.c _ _
  have w75 : Xi U6 904 62 = Xi S 904 62 := (show Xi U6 904 62 = Xi T5 904 62 from by rw [eU6]; exact Xi_ne (by omega)).trans ( (show Xi T5 904 62 = Xi U4 904 62 from w65.x _ _ rfl).trans ((show Xi U4 904 62 = Xi S 904 62 from by rw [eU4]; exact Xi_ne (by omega))))
  have w76 : 0 ≤ Xi S 904 62 ∧ Xi S 904 62 ≤ 9 := hH.c _ _
  have w77 : Xi U6 904 63 = Xi S 904 63 := (show Xi U6 904 63 = Xi T5 904 63 from by rw [eU6]; exact Xi_ne (by omega)).trans ( (show Xi T5 904 63 = Xi U4 904 63 from w65.x _ _ rfl).trans ((show Xi U4 904 63 = Xi S 904 63 from by rw [eU4]; exact Xi_ne (by omega))))
  have w78 : 0 ≤ Xi S 904 63 ∧ Xi S 904 63 ≤ 5000 := hH.c _ _
  refine l_callV rfl rfl rfl (t_mo_cut hHU6 (by first | assumption | exact (KWM_FR hFU6 rfl (by assumption : KWM S))) _) ?_
  rintro _ T7 ⟨hHT7, w80, rfl, tk31_⟩
  have hFT7 : FR md_mo_read S T7 := FR.tr hFU6 w80 rfl
  show Rl _ _ _ _ _ [] _ _
  obtain ⟨n, tk31, tx31⟩ := tk31_
  refine l_aload_n rfl rfl ?_
  have w81 : Xi T7 904 16 = Xi S 904 16 := (show Xi T7 904 16 = Xi U6 904 16 from w80.x _ _ rfl).trans ( (show Xi U6 904 16 = Xi T5 904 16 from by rw [eU6]; exact Xi_ne (by omega)).trans ( (show Xi T5 904 16 = Xi U4 904 16 from w65.x _ _ rfl).trans ((show Xi U4 904 16 = Xi S 904 16 from by rw [eU4]; exact Xi_ne (by omega)))))
  have w82 : 0 ≤ Xi S 904 16 ∧ Xi S 904 16 ≤ 16 := hH.c _ _
  have w83 : Xi T7 904 19 = Xi S 904 19 := (show Xi T7 904 19 = Xi U6 904 19 from w80.x _ _ rfl).trans ( (show Xi U6 904 19 = Xi T5 904 19 from by rw [eU6]; exact Xi_ne (by omega)).trans ( (show Xi T5 904 19 = Xi U4 904 19 from w65.x _ _ rfl).trans ((show Xi U4 904 19 = Xi S 904 19 from by rw [eU4]; exact Xi_ne (by omega)))))
  have w84 : 0 ≤ Xi S 904 19 ∧ Xi S 904 19 ≤ 24 := hH.c _ _
  have w85 : Xi T7 904 60 = Xi S 904 60 := (show Xi T7 904 60 = Xi U6 904 60 from w80.x _ _ rfl).trans ( (show Xi U6 904 60 = Xi T5 904 60 from by rw [eU6]; exact Xi_ne (by omega)).trans ( (show Xi T5 904 60 = Xi U4 904 60 from w65.x _ _ rfl).trans ((show Xi U4 904 60 = Xi S 904 60 from by rw [eU4]; exact Xi_ne (by omega)))))
  have w86 : -1 ≤ Xi S 904 60 ∧ Xi S 904 60 ≤ 23 := hH.c _ _
  have w87 : Xi T7 904 61 = Xi S 904 61 := (show Xi T7 904 61 = Xi U6 904 61 from w80.x _ _ rfl).trans ( (show Xi U6 904 61 = Xi T5 904 61 from by rw [eU6]; exact Xi_ne (by omega)).trans ( (show Xi T5 904 61 = Xi U4 904 61 from w65.x _ _ rfl).trans ((show Xi U4 904 61 = Xi S 904 61 from by rw [eU4]; exact Xi_ne (by omega)))))
  have w88 : 0 ≤ Xi S 904 61 ∧ Xi S 904 61 ≤ 5001 := hH.c _ _
  have w89 : Xi T7 904 62 = Xi S 904 62 := (show Xi T7 904 62 = Xi U6 904 62 from w80.x _ _ rfl).trans ( (show Xi U6 904 62 = Xi T5 904 62 from by rw [eU6]; exact Xi_ne (by omega)).trans ( (show Xi T5 904 62 = Xi U4 904 62 from w65.x _ _ rfl).trans ((show Xi U4 904 62 = Xi S 904 62 from by rw [eU4]; exact Xi_ne (by omega)))))
  have w90 : 0 ≤ Xi S 904 62 ∧ Xi S 904 62 ≤ 9 := hH.c _ _
  have w91 : Xi T7 904 63 = Xi S 904 63 := (show Xi T7 904 63 = Xi U6 904 63 from w80.x _ _ rfl).trans ( (show Xi U6 904 63 = Xi T5 904 63 from by rw [eU6]; exact Xi_ne (by omega)).trans ( (show Xi T5 904 63 = Xi U4 904 63 from w65.x _ _ rfl).trans ((show Xi U4 904 63 = Xi S 904 63 from by rw [eU4]; exact Xi_ne (by omega)))))
  have w92 : 0 ≤ Xi S 904 63 ∧ Xi S 904 63 ≤ 5000 := hH.c _ _
  refine l_callV rfl rfl rfl (t_mo_begin hHT7 (by first | assumption | exact (ABV_FR w80 rfl (ABV_FR (FR_e eU6) rfl (ABV_FR w65 rfl (ABV_FR (FR_e eU4) rfl (by assumption : ABV S)))))) (by first | assumption | exact (WYM_FR w80 rfl (WYM_FR (FR_e eU6) rfl (WYM_FR w65 rfl (WYM_FR (FR_e eU4) rfl (by assumption : WYM S)))))) _) ?_
  rintro _ T8 ⟨hHT8, w106, rfl, w93, w94, w95, w96, w97, w98, w99, w100, w101, w102, n35, d35, w103, w104⟩
  have hFT8 : FR md_mo_read S T8 := FR.tr hFT7 w106 rfl
  show Rl _ _ _ _ _ [] _ _
  have R35 : RDT T8 := rdt_0 (hHT8.c 904 23).1 n35 d35
  have I35 : TIX T8 := ⟨by first | assumption | exact (by assumption : TXM T8), by first | assumption | exact (by assumption : WYM T8), by first | assumption | exact (by assumption : LXM T8), by first | assumption | exact (by assumption : LCN T8), by first | assumption | exact (by assumption : ABV T8), by first | assumption | exact (by assumption : DCM T8), by first | assumption | exact (by assumption : VTM T8), by first | assumption | exact (by assumption : VCN T8), by first | assumption | exact (by assumption : WYD T8), R35, by first | assumption | exact (by assumption : AKR T8), by omega, by omega⟩
  have tk35 : TK T8 n := TK_FR (by assumption : FR md_mo_begin T7 T8) rfl tk31
  have tx35 : TXK T8 n := TXK_FR (by assumption : FR md_mo_begin T7 T8) rfl tx31
  refine l_aload_n rfl rfl ?_
  have w107 : 0 ≤ Xi T8 904 16 ∧ Xi T8 904 16 ≤ 16 := hHT8.c _ _
  have w108 : 0 ≤ Xi T8 904 19 ∧ Xi T8 904 19 ≤ 24 := hHT8.c _ _
  have w109 : -1 ≤ Xi T8 904 60 ∧ Xi T8 904 60 ≤ 23 := hHT8.c _ _
  have w110 : Xi T8 904 61 = Xi S 904 61 := (show Xi T8 904 61 = Xi T7 904 61 from w106.x _ _ rfl).trans ( (show Xi T7 904 61 = Xi U6 904 61 from w80.x _ _ rfl).trans ( (show Xi U6 904 61 = Xi T5 904 61 from by rw [eU6]; exact Xi_ne (by omega)).trans ( (show Xi T5 904 61 = Xi U4 904 61 from w65.x _ _ rfl).trans ((show Xi U4 904 61 = Xi S 904 61 from by rw [eU4]; exact Xi_ne (by omega))))))
  have w111 : 0 ≤ Xi S 904 61 ∧ Xi S 904 61 ≤ 5001 := hH.c _ _
  have w112 : Xi T8 904 62 = Xi S 904 62 := (show Xi T8 904 62 = Xi T7 904 62 from w106.x _ _ rfl).trans ( (show Xi T7 904 62 = Xi U6 904 62 from w80.x _ _ rfl).trans ( (show Xi U6 904 62 = Xi T5 904 62 from by rw [eU6]; exact Xi_ne (by omega)).trans ( (show Xi T5 904 62 = Xi U4 904 62 from w65.x _ _ rfl).trans ((show Xi U4 904 62 = Xi S 904 62 from by rw [eU4]; exact Xi_ne (by omega))))))
  have w113 : 0 ≤ Xi S 904 62 ∧ Xi S 904 62 ≤ 9 := hH.c _ _
  have w114 : Xi T8 904 63 = Xi S 904 63 := (show Xi T8 904 63 = Xi T7 904 63 from w106.x _ _ rfl).trans ( (show Xi T7 904 63 = Xi U6 904 63 from w80.x _ _ rfl).trans ( (show Xi U6 904 63 = Xi T5 904 63 from by rw [eU6]; exact Xi_ne (by omega)).trans ( (show Xi T5 904 63 = Xi U4 904 63 from w65.x _ _ rfl).trans ((show Xi U4 904 63 = Xi S 904 63 from by rw [eU4]; exact Xi_ne (by omega))))))
  have w115 : 0 ≤ Xi S 904 63 ∧ Xi S 904 63 ≤ 5000 := hH.c _ _
  refine l_callV rfl rfl rfl (t_mo_readStory hHT8 n (by first | assumption | exact (TK_FR w106 rfl (by assumption : TK T7 _))) (by first | assumption | exact (TXK_FR w106 rfl (by assumption : TXK T7 _))) (by first | assumption | omega) (by first | assumption | exact (PF_FR w106 rfl (PF_FR w80 rfl (PF_FR (FR_e eU6) rfl (PF_FR w65 rfl (PF_FR (FR_e eU4) rfl (by assumption : PF S))))))) (by first | assumption | exact (BDA_FR w106 rfl (BDA_FR w80 rfl (BDA_FR (FR_e eU6) rfl (BDA_FR w65 rfl (BDA_FR (FR_e eU4) rfl (by assumption : BDA S))))))) _) ?_
  rintro _ T9 ⟨hHT9, w121, rfl, t39, w116, w117, w118, w119⟩
  have hFT9 : FR md_mo_read S T9 := FR.tr hFT8 w121 rfl
  show Rl _ _ _ _ _ [] _ _
  refine l_aload_n rfl rfl ?_
  refine l_gfi rfl rfl rfl rfl rfl ?_
  have w122 : 0 ≤ (Xi T9 904 62) ∧ (Xi T9 904 62) ≤ 9 := hHT9.c _ _
  refine l_if_eq rfl rfl (by unfold rg; omega) (fun w123 => ?_) (fun w124 => ?_)
  · refine l_iconst rfl ?_
    have I61 : TIX T9 := t39 (by omega)
    have txm61 : TXM T9 := I61.1
    have wym61 : WYM T9 := I61.2.1
    have lxm61 : LXM T9 := I61.2.2.1
    have lcn61 : LCN T9 := I61.2.2.2.1
    have abv61 : ABV T9 := I61.2.2.2.2.1
    have dcm61 : DCM T9 := I61.2.2.2.2.2.1
    have vtm61 : VTM T9 := I61.2.2.2.2.2.2.1
    have vcn61 : VCN T9 := I61.2.2.2.2.2.2.2.1
    have wyd61 : WYD T9 := I61.2.2.2.2.2.2.2.2.1
    have rdt61 : RDT T9 := I61.2.2.2.2.2.2.2.2.2.1
    have akr61 : AKR T9 := I61.2.2.2.2.2.2.2.2.2.2.1
    have i61a : Xi T9 904 60 < Xi T9 904 19 := I61.2.2.2.2.2.2.2.2.2.2.2.1
    have i61b : 2 ≤ Xi T9 904 16 := I61.2.2.2.2.2.2.2.2.2.2.2.2
    refine l_istore_n rfl rfl rfl ?_
    have w125 : 0 ≤ Xi T9 904 16 ∧ Xi T9 904 16 ≤ 16 := hHT9.c _ _
    have w126 : 0 ≤ Xi T9 904 19 ∧ Xi T9 904 19 ≤ 24 := hHT9.c _ _
    have w127 : -1 ≤ Xi T9 904 60 ∧ Xi T9 904 60 ≤ 23 := hHT9.c _ _
    have w128 : 0 ≤ Xi T9 904 61 ∧ Xi T9 904 61 ≤ 5001 := hHT9.c _ _
    have w129 : 0 ≤ Xi T9 904 62 ∧ Xi T9 904 62 ≤ 9 := hHT9.c _ _
    have w130 : 0 ≤ Xi T9 904 63 ∧ Xi T9 904 63 ≤ 5000 := hHT9.c _ _
    exact Rl_weak (C63 _ T9 hHT9 hFT9 (0) (by omega) (by first | assumption | exact (by assumption : TXM T9)) (by first | assumption | exact (by assumption : WYM T9)) (by first | assumption | exact (by assumption : LXM T9)) (by first | assumption | exact (by assumption : LCN T9)) (by first | assumption | exact (by assumption : ABV T9)) (by first | assumption | exact (by assumption : DCM T9)) (by first | assumption | exact (by assumption : VTM T9)) (by first | assumption | exact (by assumption : VCN T9)) (by first | assumption | exact (by assumption : WYD T9)) (by first | assumption | exact (by assumption : RDT T9)) (by first | assumption | exact (by assumption : AKR T9)) (by omega) (by omega) (by omega) (by first | assumption | exact (by assumption : PF T9)) (by first | assumption | exact (by assumption : BDA T9)) rfl) (And.intro rfl (And.intro rfl (True.intro)))
  · refine l_aload_n rfl rfl ?_
    have w131 : 0 ≤ Xi T9 904 16 ∧ Xi T9 904 16 ≤ 16 := hHT9.c _ _
    have w132 : 0 ≤ Xi T9 904 19 ∧ Xi T9 904 19 ≤ 24 := hHT9.c _ _
    have w133 : -1 ≤ Xi T9 904 60 ∧ Xi T9 904 60 ≤ 23 := hHT9.c _ _
    have w134 : 0 ≤ Xi T9 904 61 ∧ Xi T9 904 61 ≤ 5001 := hHT9.c _ _
    have w135 : 0 ≤ Xi T9 904 62 ∧ Xi T9 904 62 ≤ 9 := hHT9.c _ _
    have w136 : 0 ≤ Xi T9 904 63 ∧ Xi T9 904 63 ≤ 5000 := hHT9.c _ _
    refine l_callV rfl rfl rfl (t_mo_begin hHT9 (by first | assumption | exact (by assumption : ABV T9)) (by first | assumption | exact (by assumption : WYM T9)) _) ?_
    rintro _ T10 ⟨hHT10, w150, rfl, w137, w138, w139, w140, w141, w142, w143, w144, w145, w146, n50, d50, w147, w148⟩
    have hFT10 : FR md_mo_read S T10 := FR.tr hFT9 w150 rfl
    show Rl _ _ _ _ _ [] _ _
    have R50 : RDT T10 := rdt_0 (hHT10.c 904 23).1 n50 d50
    have I50 : TIX T10 := ⟨by first | assumption | exact (by assumption : TXM T10), by first | assumption | exact (by assumption : WYM T10), by first | assumption | exact (by assumption : LXM T10), by first | assumption | exact (by assumption : LCN T10), by first | assumption | exact (by assumption : ABV T10), by first | assumption | exact (by assumption : DCM T10), by first | assumption | exact (by assumption : VTM T10), by first | assumption | exact (by assumption : VCN T10), by first | assumption | exact (by assumption : WYD T10), R50, by first | assumption | exact (by assumption : AKR T10), by omega, by omega⟩
    refine l_bipush rfl rfl ?_
    refine l_aload_n rfl rfl ?_
    refine l_gfi rfl rfl rfl rfl rfl ?_
    have w151 : 0 ≤ (Xi T10 904 63) ∧ (Xi T10 904 63) ≤ 5000 := hHT10.c _ _
    refine l_isub rfl ?_
    refine l_ireturn rfl rfl ?_
    have w152 : 0 ≤ Xi T10 904 16 ∧ Xi T10 904 16 ≤ 16 := hHT10.c _ _
    have w153 : 0 ≤ Xi T10 904 19 ∧ Xi T10 904 19 ≤ 24 := hHT10.c _ _
    have w154 : -1 ≤ Xi T10 904 60 ∧ Xi T10 904 60 ≤ 23 := hHT10.c _ _
    have w155 : Xi T10 904 61 = Xi T9 904 61 := (show Xi T10 904 61 = Xi T9 904 61 from w150.x _ _ rfl)
    have w156 : 0 ≤ Xi T9 904 61 ∧ Xi T9 904 61 ≤ 5001 := hHT9.c _ _
    have w157 : Xi T10 904 62 = Xi T9 904 62 := (show Xi T10 904 62 = Xi T9 904 62 from w150.x _ _ rfl)
    have w158 : 0 ≤ Xi T9 904 62 ∧ Xi T9 904 62 ≤ 9 := hHT9.c _ _
    have w159 : Xi T10 904 63 = Xi T9 904 63 := (show Xi T10 904 63 = Xi T9 904 63 from w150.x _ _ rfl)
    have w160 : 0 ≤ Xi T9 904 63 ∧ Xi T9 904 63 ≤ 5000 := hHT9.c _ _
    exact ⟨hHT10, hFT10, _, rfl, ⟨by omega, by omega⟩, (by first | exact I50 | exact (⟨by first | assumption | exact (by assumption : TXM T10), by first | assumption | exact (by assumption : WYM T10), by first | assumption | exact (by assumption : LXM T10), by first | assumption | exact (by assumption : LCN T10), by first | assumption | exact (by assumption : ABV T10), by first | assumption | exact (by assumption : DCM T10), by first | assumption | exact (by assumption : VTM T10), by first | assumption | exact (by assumption : VCN T10), by first | assumption | exact (by assumption : WYD T10), by first | assumption | exact (by assumption : RDT T10), by first | assumption | exact (by assumption : AKR T10), by omega, by omega⟩)), (by first | assumption | exact (PF_FR w150 rfl (by assumption : PF T9))), (by first | assumption | exact (BDA_FR w150 rfl (by assumption : BDA T9)))⟩
