section
def md_mo_does__g : List rec := [(904, 905, 15, 16), (904, 905, 16, 17), (904, 905, 18, 19), (904, 905, 19, 20), (904, 905, 23, 24), (904, 905, 30, 31), (904, 905, 32, 33), (904, 905, 41, 42), (904, 905, 47, 48), (904, 905, 49, 50), (904, 905, 51, 52), (904, 905, 55, 56), (904, 905, 60, 61), (904, 905, 64, 65), (904, 905, 73, 74), (904, 905, 105, 106), (904, 905, 106, 107), (904, 905, 113, 114), (904, 905, 117, 118), (912, 913, 0, 100000), (913, 914, 0, 100000), (914, 915, 0, 100000), (915, 916, 0, 100000), (916, 917, 0, 100000), (917, 918, 0, 100000), (918, 919, 0, 100000), (919, 920, 0, 100000), (920, 921, 0, 100000), (921, 922, 0, 100000), (922, 923, 0, 100000), (923, 924, 0, 100000), (924, 925, 0, 100000), (925, 926, 0, 100000), (926, 927, 0, 100000), (927, 928, 0, 100000), (928, 929, 0, 100000), (929, 930, 0, 100000), (930, 931, 0, 100000), (931, 932, 0, 100000), (932, 933, 0, 100000), (933, 934, 0, 100000), (934, 935, 0, 100000), (935, 936, 0, 100000), (936, 937, 0, 100000), (937, 938, 0, 100000), (938, 939, 0, 100000), (939, 940, 0, 100000), (940, 941, 0, 100000), (941, 942, 0, 100000), (942, 943, 0, 100000), (943, 944, 0, 100000), (944, 945, 0, 100000), (945, 946, 0, 100000), (946, 947, 0, 100000), (947, 948, 0, 100000), (948, 949, 0, 100000), (949, 950, 0, 100000)]
abbrev Q_mo_does__g (S : sS) (n : Nat) (first : Int) : pst := fun r S1 => HI S1 ∧ FR md_mo_does__g S S1 ∧ (r = none ∧ (TIX S1) ∧ (GR S1 S))
set_option maxRecDepth 100000 in
set_option maxHeartbeats 1000000 in
theorem c104_mo_does__g {S : sS} (hH : HI S) (n : Nat) (first : Int) (hfirst : 0 ≤ first ∧ first ≤ 5001) (hT : TK S n) (hv : RNV S n) (hK : TXK S n) (hI : TIX S) (hq : SNQ S n) (hk : DOK S) (h11 : Xi S 904 70 = 11 → -1 ≤ Xi S 904 78) (d : Nat) : (Xi S 904 70 = 0) → Rl lay0 (d + 7) m_mo_does 104 [(0, .ref 904), (1, iv first)] [] S (Q_mo_does__g S n first) := by
  have hF : FR md_mo_does__g S S := FR.rf
  have w1 : 0 ≤ Xi S 904 117 ∧ Xi S 904 117 ≤ 480 := hH.c _ _
  have w2 : 0 ≤ Xi S 904 15 ∧ Xi S 904 15 ≤ 300 := hH.c _ _
  have w3 : 0 ≤ Xi S 904 16 ∧ Xi S 904 16 ≤ 16 := hH.c _ _
  have w4 : 0 ≤ Xi S 904 18 ∧ Xi S 904 18 ≤ 8 := hH.c _ _
  have w5 : 0 ≤ Xi S 904 19 ∧ Xi S 904 19 ≤ 24 := hH.c _ _
  have w6 : 0 ≤ Xi S 904 23 ∧ Xi S 904 23 ≤ 24 := hH.c _ _
  have w7 : 0 ≤ Xi S 904 30 ∧ Xi S 904 30 ≤ 64 := hH.c _ _
  have w8 : 0 ≤ Xi S 904 32 ∧ Xi S 904 32 ≤ 12 := hH.c _ _
  have w9 : 0 ≤ Xi S 904 41 ∧ Xi S 904 41 ≤ 6 := hH.c _ _
  have w10 : 0 ≤ Xi S 904 47 ∧ Xi S 904 47 ≤ 8 := hH.c _ _
  have w11 : 0 ≤ Xi S 904 49 ∧ Xi S 904 49 ≤ 12 := hH.c _ _
  have w12 : -1 ≤ Xi S 904 60 ∧ Xi S 904 60 ≤ 23 := hH.c _ _
  have w13 : 0 ≤ Xi S 904 69 ∧ Xi S 904 69 ≤ 2600 := hH.c _ _
  have w14 : 0 ≤ Xi S 904 70 ∧ Xi S 904 70 ≤ 20 := hH.c _ _
  have w15 : 0 ≤ Xi S 904 71 ∧ Xi S 904 71 ≤ 2600 := hH.c _ _
  have w16 : 0 ≤ Xi S 904 72 ∧ Xi S 904 72 ≤ 2600 := hH.c _ _
  have w17 : -2 ≤ Xi S 904 78 ∧ Xi S 904 78 ≤ 5010 := hH.c _ _
  have hX : TXM S := hI.1
  have hW : WYM S := hI.2.1
  have hM : LXM S := hI.2.2.1
  have hLC : LCN S := hI.2.2.2.1
  have hB : ABV S := hI.2.2.2.2.1
  have hC : DCM S := hI.2.2.2.2.2.1
  have hV : VTM S := hI.2.2.2.2.2.2.1
  have hVC : VCN S := hI.2.2.2.2.2.2.2.1
  have hWD : WYD S := hI.2.2.2.2.2.2.2.2.1
  have hRD : RDT S := hI.2.2.2.2.2.2.2.2.2.1
  have hAK : AKR S := hI.2.2.2.2.2.2.2.2.2.2.1
  have hd6 : Xi S 904 60 < Xi S 904 19 := hI.2.2.2.2.2.2.2.2.2.2.2.1
  have h16 : 2 ≤ Xi S 904 16 := hI.2.2.2.2.2.2.2.2.2.2.2.2
  have h32 : 1 ≤ Xi S 904 32 := hAK.2.2.2.2.2.2.2
  have hn5 := hT.1
  have hc69 : 0 ≤ Xi S 904 69 ∧ Xi S 904 69 ≤ 2600 := hH.c _ _
  have hc70 : 0 ≤ Xi S 904 70 ∧ Xi S 904 70 ≤ 20 := hH.c _ _
  have hc16 : 0 ≤ Xi S 904 16 ∧ Xi S 904 16 ≤ 16 := hH.c _ _
  have hc18 : 0 ≤ Xi S 904 18 ∧ Xi S 904 18 ≤ 8 := hH.c _ _
  have hc19 : 0 ≤ Xi S 904 19 ∧ Xi S 904 19 ≤ 24 := hH.c _ _
  have hc23 : 0 ≤ Xi S 904 23 ∧ Xi S 904 23 ≤ 24 := hH.c _ _
  have hc30 : 0 ≤ Xi S 904 30 ∧ Xi S 904 30 ≤ 64 := hH.c _ _
  have hc32 : 0 ≤ Xi S 904 32 ∧ Xi S 904 32 ≤ 12 := hH.c _ _
  have hc41 : 0 ≤ Xi S 904 41 ∧ Xi S 904 41 ≤ 6 := hH.c _ _
  have hc47 : 0 ≤ Xi S 904 47 ∧ Xi S 904 47 ≤ 8 := hH.c _ _
  have hc49 : 0 ≤ Xi S 904 49 ∧ Xi S 904 49 ≤ 12 := hH.c _ _
  have hc15 : 0 ≤ Xi S 904 15 ∧ Xi S 904 15 ≤ 300 := hH.c _ _
  have hc117 : 0 ≤ Xi S 904 117 ∧ Xi S 904 117 ≤ 480 := hH.c _ _
  have hc125 : 0 ≤ Xi S 904 125 ∧ Xi S 904 125 ≤ 192 := hH.c _ _
  have hc130 : 0 ≤ Xi S 904 130 ∧ Xi S 904 130 ≤ 24 := hH.c _ _
  have hl9 := lcn_le hH hLC
  intro w18
  refine l_aload_n rfl rfl ?_
  have d104 : 0 ≤ Xi S 904 60 := hk.1 (by omega)
  have s104 := hq.1 (by omega)
  have c104 : 0 ≤ Xi S 904 81 := (hH.c 904 81).1
  have l104 : Xi S 904 81 < n := tk_lt hT (by omega) s104.1 (by have t := s104.2; omega)
  have o104 : Xi S 908 (Xi S 904 81).toNat + 1 + Xi S 909 (Xi S 904 81).toNat ≤ 5000 := hK (Xi S 904 81).toNat (by omega) s104.2
  have g104 : 0 ≤ Xi S 908 (Xi S 904 81).toNat ∧ 0 ≤ Xi S 909 (Xi S 904 81).toNat := ⟨(hH.c 908 _).1, (hH.c 909 _).1⟩
  refine l_aload_n rfl rfl ?_
  refine l_gfi rfl rfl rfl rfl rfl ?_
  refine l_iconst rfl ?_
  refine l_aload_n rfl rfl ?_
  refine l_gfr rfl rfl rfl rfl rfl (hH.r 904 5 908 rfl) ?_
  refine l_aload_n rfl rfl ?_
  refine l_gfi rfl rfl rfl rfl rfl ?_
  have w19 : 0 ≤ (Xi S 904 81) ∧ (Xi S 904 81) ≤ 5010 := hH.c _ _
  refine l_iaload (n := 5002) rfl rfl (by omega) (by omega) (by unfold rg; omega) ?_
  have w20 : 0 ≤ (Xi S 908 (((Xi S 904 81)).toNat)) ∧ (Xi S 908 (((Xi S 904 81)).toNat)) ≤ 5000 := hH.c _ _
  refine l_iconst rfl ?_
  refine l_iadd rfl ?_
  refine l_aload_n rfl rfl ?_
  refine l_gfr rfl rfl rfl rfl rfl (hH.r 904 6 909 rfl) ?_
  refine l_aload_n rfl rfl ?_
  refine l_gfi rfl rfl rfl rfl rfl ?_
  refine l_iaload (n := 5002) rfl rfl (by omega) (by omega) (by unfold rg; omega) ?_
  have w21 : 0 ≤ (Xi S 909 (((Xi S 904 81)).toNat)) ∧ (Xi S 909 (((Xi S 904 81)).toNat)) ≤ 5000 := hH.c _ _
  refine l_callV rfl rfl rfl (t_mo_tellObject hH (Xi S 904 60) 0 ((Xi S 908 (((Xi S 904 81)).toNat)) + 1) (Xi S 909 (((Xi S 904 81)).toNat)) ⟨by omega, by omega⟩ ⟨by omega, by omega⟩ ⟨by omega, by omega⟩ ⟨by omega, by omega⟩ (by first | assumption | exact (by assumption : TXM S)) (by omega) (by omega) (fun _ => by unfold OKT; omega) _) ?_
  rintro _ T1 ⟨hHT1, w31, z30, rfl, w30, w29⟩
  have hFT1 : FR md_mo_does__g S T1 := FR.tr hF w31 rfl
  show Rl _ _ _ _ _ [iv z30] _ _
  refine l_if_ne rfl rfl (by unfold rg; omega) (fun w32 => ?_) (fun w33 => ?_)
  · refine l_return rfl rfl ?_
    have w34 : Xi T1 904 117 = Xi S 904 117 := (show Xi T1 904 117 = Xi S 904 117 from w31.x _ _ rfl)
    have w36 : Xi T1 904 15 = Xi S 904 15 := (show Xi T1 904 15 = Xi S 904 15 from w31.x _ _ rfl)
    have w38 : Xi T1 904 16 = Xi S 904 16 := (show Xi T1 904 16 = Xi S 904 16 from w31.x _ _ rfl)
    have w40 : Xi T1 904 19 = Xi S 904 19 := (show Xi T1 904 19 = Xi S 904 19 from w31.x _ _ rfl)
    have w42 : Xi T1 904 23 = Xi S 904 23 := (show Xi T1 904 23 = Xi S 904 23 from w31.x _ _ rfl)
    have w44 : Xi T1 904 60 = Xi S 904 60 := (show Xi T1 904 60 = Xi S 904 60 from w31.x _ _ rfl)
    exact ⟨hHT1, hFT1, rfl, (⟨by first | assumption | exact (by assumption : TXM T1), by first | assumption | exact (WYM_FR w31 rfl (by assumption : WYM S)), by first | assumption | exact (LXM_FR w31 rfl (by assumption : LXM S)), by first | assumption | exact (LCN_FR w31 rfl (by assumption : LCN S)), by first | assumption | exact (ABV_FR w31 rfl (by assumption : ABV S)), by first | assumption | exact (DCM_FR w31 rfl (by assumption : DCM S)), by first | assumption | exact (VTM_FR w31 rfl (by assumption : VTM S)), by first | assumption | exact (VCN_FR w31 rfl (by assumption : VCN S)), by first | assumption | exact (WYD_FR w31 rfl (by assumption : WYD S)), by first | assumption | exact (RDT_FR hH w31 rfl rfl rfl (by assumption : RDT S)) | exact rdt_df hRD (GR_FR w31 rfl GR.rf) df153 (by omega) (by omega) (by omega) (hFT1.x 904 125 rfl) (hFT1.x 904 130 rfl) (smk_q9 hFT1 rfl) dn153 | exact rdt_gr hRD (by first | assumption | exact (GR_FR w31 rfl GR.rf)) (by omega) (hFT1.x 904 125 rfl) (hFT1.x 904 130 rfl) (smk_q9 hFT1 rfl) (fun a x y => absurd y (by omega)), akr_gr hAK (by first | assumption | exact (GR_FR w31 rfl GR.rf)), by first | omega | (have g := (by first | assumption | exact (GR_FR w31 rfl GR.rf) : GR T1 S); have t := g.1; omega), by first | omega | (have g := (by first | assumption | exact (GR_FR w31 rfl GR.rf) : GR T1 S); have t := g.1; omega)⟩), (by first | assumption | exact (GR_FR w31 rfl GR.rf))⟩
  · refine l_aload_n rfl rfl ?_
    refine l_iconst rfl ?_
    refine l_iload_n rfl rfl ?_
    refine l_callV rfl rfl rfl (t_mo_wrong hHT1 5 first ⟨by omega, by omega⟩ ⟨by omega, by omega⟩ _) ?_
    rintro _ T2 ⟨hHT2, w60, rfl, w58⟩
    have hFT2 : FR md_mo_does__g S T2 := FR.tr hFT1 w60 rfl
    show Rl _ _ _ _ _ [] _ _
    refine l_goto rfl rfl ?_
    refine l_return rfl rfl ?_
    have w61 : Xi T2 904 117 = Xi S 904 117 := (show Xi T2 904 117 = Xi T1 904 117 from w60.x _ _ rfl).trans ((show Xi T1 904 117 = Xi S 904 117 from w31.x _ _ rfl))
    have w63 : Xi T2 904 15 = Xi S 904 15 := (show Xi T2 904 15 = Xi T1 904 15 from w60.x _ _ rfl).trans ((show Xi T1 904 15 = Xi S 904 15 from w31.x _ _ rfl))
    have w65 : Xi T2 904 16 = Xi S 904 16 := (show Xi T2 904 16 = Xi T1 904 16 from w60.x _ _ rfl).trans ((show Xi T1 904 16 = Xi S 904 16 from w31.x _ _ rfl))
    have w67 : Xi T2 904 19 = Xi S 904 19 := (show Xi T2 904 19 = Xi T1 904 19 from w60.x _ _ rfl).trans ((show Xi T1 904 19 = Xi S 904 19 from w31.x _ _ rfl))
    have w69 : Xi T2 904 23 = Xi S 904 23 := (show Xi T2 904 23 = Xi T1 904 23 from w60.x _ _ rfl).trans ((show Xi T1 904 23 = Xi S 904 23 from w31.x _ _ rfl))
    have w71 : Xi T2 904 60 = Xi S 904 60 := (show Xi T2 904 60 = Xi T1 904 60 from w60.x _ _ rfl).trans ((show Xi T1 904 60 = Xi S 904 60 from w31.x _ _ rfl))
    exact ⟨hHT2, hFT2, rfl, (⟨by first | assumption | exact (TXM_FR w60 rfl (by assumption : TXM T1)), by first | assumption | exact (WYM_FR w60 rfl (WYM_FR w31 rfl (by assumption : WYM S))), by first | assumption | exact (LXM_FR w60 rfl (LXM_FR w31 rfl (by assumption : LXM S))), by first | assumption | exact (LCN_FR w60 rfl (LCN_FR w31 rfl (by assumption : LCN S))), by first | assumption | exact (ABV_FR w60 rfl (ABV_FR w31 rfl (by assumption : ABV S))), by first | assumption | exact (DCM_FR w60 rfl (DCM_FR w31 rfl (by assumption : DCM S))), by first | assumption | exact (VTM_FR w60 rfl (VTM_FR w31 rfl (by assumption : VTM S))), by first | assumption | exact (VCN_FR w60 rfl (VCN_FR w31 rfl (by assumption : VCN S))), by first | assumption | exact (WYD_FR w60 rfl (WYD_FR w31 rfl (by assumption : WYD S))), by first | assumption | exact (RDT_FR hHT1 w60 rfl rfl rfl (RDT_FR hH w31 rfl rfl rfl (by assumption : RDT S))) | exact rdt_df hRD (GR_FR w60 rfl (GR_FR w31 rfl GR.rf)) df153 (by omega) (by omega) (by omega) (hFT2.x 904 125 rfl) (hFT2.x 904 130 rfl) (smk_q9 hFT2 rfl) dn153 | exact rdt_gr hRD (by first | assumption | exact (GR_FR w60 rfl (GR_FR w31 rfl GR.rf))) (by omega) (hFT2.x 904 125 rfl) (hFT2.x 904 130 rfl) (smk_q9 hFT2 rfl) (fun a x y => absurd y (by omega)), akr_gr hAK (by first | assumption | exact (GR_FR w60 rfl (GR_FR w31 rfl GR.rf))), by first | omega | (have g := (by first | assumption | exact (GR_FR w60 rfl (GR_FR w31 rfl GR.rf)) : GR T2 S); have t := g.1; omega), by first | omega | (have g := (by first | assumption | exact (GR_FR w60 rfl (GR_FR w31 rfl GR.rf)) : GR T2 S); have t := g.1; omega)⟩), (by first | assumption | exact (GR_FR w60 rfl (GR_FR w31 rfl GR.rf)))⟩
set_option maxRecDepth 100000 in
set_option maxHeartbeats 1000000 in
theorem c145_mo_does__g {S : sS} (hH : HI S) (n : Nat) (first : Int) (hfirst : 0 ≤ first ∧ first ≤ 5001) (hT : TK S n) (hv : RNV S n) (hK : TXK S n) (hI : TIX S) (hq : SNQ S n) (hk : DOK S) (h11 : Xi S 904 70 = 11 → -1 ≤ Xi S 904 78) (d : Nat) : (Xi S 904 70 = 1) → Rl lay0 (d + 7) m_mo_does 145 [(0, .ref 904)] [] S (Q_mo_does__g S n first) := by
  have hF : FR md_mo_does__g S S := FR.rf
  have w1 : 0 ≤ Xi S 904 117 ∧ Xi S 904 117 ≤ 480 := hH.c _ _
  have w2 : 0 ≤ Xi S 904 15 ∧ Xi S 904 15 ≤ 300 := hH.c _ _
  have w3 : 0 ≤ Xi S 904 16 ∧ Xi S 904 16 ≤ 16 := hH.c _ _
  have w4 : 0 ≤ Xi S 904 18 ∧ Xi S 904 18 ≤ 8 := hH.c _ _
  have w5 : 0 ≤ Xi S 904 19 ∧ Xi S 904 19 ≤ 24 := hH.c _ _
  have w6 : 0 ≤ Xi S 904 23 ∧ Xi S 904 23 ≤ 24 := hH.c _ _
  have w7 : 0 ≤ Xi S 904 30 ∧ Xi S 904 30 ≤ 64 := hH.c _ _
  have w8 : 0 ≤ Xi S 904 32 ∧ Xi S 904 32 ≤ 12 := hH.c _ _
  have w9 : 0 ≤ Xi S 904 41 ∧ Xi S 904 41 ≤ 6 := hH.c _ _
  have w10 : 0 ≤ Xi S 904 47 ∧ Xi S 904 47 ≤ 8 := hH.c _ _
  have w11 : 0 ≤ Xi S 904 49 ∧ Xi S 904 49 ≤ 12 := hH.c _ _
  have w12 : -1 ≤ Xi S 904 60 ∧ Xi S 904 60 ≤ 23 := hH.c _ _
  have w13 : 0 ≤ Xi S 904 69 ∧ Xi S 904 69 ≤ 2600 := hH.c _ _
  have w14 : 0 ≤ Xi S 904 70 ∧ Xi S 904 70 ≤ 20 := hH.c _ _
  have w15 : 0 ≤ Xi S 904 71 ∧ Xi S 904 71 ≤ 2600 := hH.c _ _
  have w16 : 0 ≤ Xi S 904 72 ∧ Xi S 904 72 ≤ 2600 := hH.c _ _
  have w17 : -2 ≤ Xi S 904 78 ∧ Xi S 904 78 ≤ 5010 := hH.c _ _
  have hX : TXM S := hI.1
  have hW : WYM S := hI.2.1
  have hM : LXM S := hI.2.2.1
  have hLC : LCN S := hI.2.2.2.1
  have hB : ABV S := hI.2.2.2.2.1
  have hC : DCM S := hI.2.2.2.2.2.1
  have hV : VTM S := hI.2.2.2.2.2.2.1
  have hVC : VCN S := hI.2.2.2.2.2.2.2.1
  have hWD : WYD S := hI.2.2.2.2.2.2.2.2.1
  have hRD : RDT S := hI.2.2.2.2.2.2.2.2.2.1
  have hAK : AKR S := hI.2.2.2.2.2.2.2.2.2.2.1
  have hd6 : Xi S 904 60 < Xi S 904 19 := hI.2.2.2.2.2.2.2.2.2.2.2.1
  have h16 : 2 ≤ Xi S 904 16 := hI.2.2.2.2.2.2.2.2.2.2.2.2
  have h32 : 1 ≤ Xi S 904 32 := hAK.2.2.2.2.2.2.2
  have hn5 := hT.1
  have hc69 : 0 ≤ Xi S 904 69 ∧ Xi S 904 69 ≤ 2600 := hH.c _ _
  have hc70 : 0 ≤ Xi S 904 70 ∧ Xi S 904 70 ≤ 20 := hH.c _ _
  have hc16 : 0 ≤ Xi S 904 16 ∧ Xi S 904 16 ≤ 16 := hH.c _ _
  have hc18 : 0 ≤ Xi S 904 18 ∧ Xi S 904 18 ≤ 8 := hH.c _ _
  have hc19 : 0 ≤ Xi S 904 19 ∧ Xi S 904 19 ≤ 24 := hH.c _ _
  have hc23 : 0 ≤ Xi S 904 23 ∧ Xi S 904 23 ≤ 24 := hH.c _ _
  have hc30 : 0 ≤ Xi S 904 30 ∧ Xi S 904 30 ≤ 64 := hH.c _ _
  have hc32 : 0 ≤ Xi S 904 32 ∧ Xi S 904 32 ≤ 12 := hH.c _ _
  have hc41 : 0 ≤ Xi S 904 41 ∧ Xi S 904 41 ≤ 6 := hH.c _ _
  have hc47 : 0 ≤ Xi S 904 47 ∧ Xi S 904 47 ≤ 8 := hH.c _ _
  have hc49 : 0 ≤ Xi S 904 49 ∧ Xi S 904 49 ≤ 12 := hH.c _ _
  have hc15 : 0 ≤ Xi S 904 15 ∧ Xi S 904 15 ≤ 300 := hH.c _ _
  have hc117 : 0 ≤ Xi S 904 117 ∧ Xi S 904 117 ≤ 480 := hH.c _ _
  have hc125 : 0 ≤ Xi S 904 125 ∧ Xi S 904 125 ≤ 192 := hH.c _ _
  have hc130 : 0 ≤ Xi S 904 130 ∧ Xi S 904 130 ≤ 24 := hH.c _ _
  have hl9 := lcn_le hH hLC
  intro w73
  refine l_aload_n rfl rfl ?_
  have d145 : Xi S 904 55 ≤ 19 ∧ rnR S 0 11 ≠ -1 := hk.2.1 (by omega)
  have s145 := hq.2.1 (by omega)
  have w79 : 0 ≤ Xi S 904 55 ∧ Xi S 904 55 ≤ 20 := hH.c _ _
  refine l_callV rfl rfl rfl (t_mo_doCommand hH n (by first | assumption | exact (TK_FR hF rfl (by assumption : TK S _))) (by first | assumption | exact (RNV_FR hF rfl (by assumption : RNV S _))) (by first | assumption | exact (by assumption : LXM S)) (d145.1) (s145) (d145.2) _) ?_
  rintro _ T3 ⟨hHT3, w83, rfl⟩
  have hFT3 : FR md_mo_does__g S T3 := FR.tr hF w83 rfl
  show Rl _ _ _ _ _ [] _ _
  refine l_goto rfl rfl ?_
  refine l_return rfl rfl ?_
  have w84 : Xi T3 904 117 = Xi S 904 117 := (show Xi T3 904 117 = Xi S 904 117 from w83.x _ _ rfl)
  have w86 : Xi T3 904 15 = Xi S 904 15 := (show Xi T3 904 15 = Xi S 904 15 from w83.x _ _ rfl)
  have w88 : Xi T3 904 16 = Xi S 904 16 := (show Xi T3 904 16 = Xi S 904 16 from w83.x _ _ rfl)
  have w90 : Xi T3 904 19 = Xi S 904 19 := (show Xi T3 904 19 = Xi S 904 19 from w83.x _ _ rfl)
  have w92 : Xi T3 904 23 = Xi S 904 23 := (show Xi T3 904 23 = Xi S 904 23 from w83.x _ _ rfl)
  have w94 : Xi T3 904 60 = Xi S 904 60 := (show Xi T3 904 60 = Xi S 904 60 from w83.x _ _ rfl)
  exact ⟨hHT3, hFT3, rfl, (⟨by first | assumption | exact (TXM_FR w83 rfl (by assumption : TXM S)), by first | assumption | exact (WYM_FR w83 rfl (by assumption : WYM S)), by first | assumption | exact (LXM_FR w83 rfl (by assumption : LXM S)), by first | assumption | exact (LCN_FR w83 rfl (by assumption : LCN S)), by first | assumption | exact (ABV_FR w83 rfl (by assumption : ABV S)), by first | assumption | exact (DCM_FR w83 rfl (by assumption : DCM S)), by first | assumption | exact (VTM_FR w83 rfl (by assumption : VTM S)), by first | assumption | exact (VCN_FR w83 rfl (by assumption : VCN S)), by first | assumption | exact (WYD_FR w83 rfl (by assumption : WYD S)), by first | assumption | exact (RDT_FR hH w83 rfl rfl rfl (by assumption : RDT S)) | exact rdt_df hRD (GR_FR w83 rfl GR.rf) df153 (by omega) (by omega) (by omega) (hFT3.x 904 125 rfl) (hFT3.x 904 130 rfl) (smk_q9 hFT3 rfl) dn153 | exact rdt_gr hRD (by first | assumption | exact (GR_FR w83 rfl GR.rf)) (by omega) (hFT3.x 904 125 rfl) (hFT3.x 904 130 rfl) (smk_q9 hFT3 rfl) (fun a x y => absurd y (by omega)), akr_gr hAK (by first | assumption | exact (GR_FR w83 rfl GR.rf)), by first | omega | (have g := (by first | assumption | exact (GR_FR w83 rfl GR.rf) : GR T3 S); have t := g.1; omega), by first | omega | (have g := (by first | assumption | exact (GR_FR w83 rfl GR.rf) : GR T3 S); have t := g.1; omega)⟩), (by first | assumption | exact (GR_FR w83 rfl GR.rf))⟩
set_option maxRecDepth 100000 in
set_option maxHeartbeats 1000000 in
theorem c152_mo_does__g {S : sS} (hH : HI S) (n : Nat) (first : Int) (hfirst : 0 ≤ first ∧ first ≤ 5001) (hT : TK S n) (hv : RNV S n) (hK : TXK S n) (hI : TIX S) (hq : SNQ S n) (hk : DOK S) (h11 : Xi S 904 70 = 11 → -1 ≤ Xi S 904 78) (d : Nat) : (Xi S 904 70 = 2) → Rl lay0 (d + 7) m_mo_does 152 [(0, .ref 904)] [] S (Q_mo_does__g S n first) := by
  have hF : FR md_mo_does__g S S := FR.rf
  have w1 : 0 ≤ Xi S 904 117 ∧ Xi S 904 117 ≤ 480 := hH.c _ _
  have w2 : 0 ≤ Xi S 904 15 ∧ Xi S 904 15 ≤ 300 := hH.c _ _
  have w3 : 0 ≤ Xi S 904 16 ∧ Xi S 904 16 ≤ 16 := hH.c _ _
  have w4 : 0 ≤ Xi S 904 18 ∧ Xi S 904 18 ≤ 8 := hH.c _ _
  have w5 : 0 ≤ Xi S 904 19 ∧ Xi S 904 19 ≤ 24 := hH.c _ _
  have w6 : 0 ≤ Xi S 904 23 ∧ Xi S 904 23 ≤ 24 := hH.c _ _
  have w7 : 0 ≤ Xi S 904 30 ∧ Xi S 904 30 ≤ 64 := hH.c _ _
  have w8 : 0 ≤ Xi S 904 32 ∧ Xi S 904 32 ≤ 12 := hH.c _ _
  have w9 : 0 ≤ Xi S 904 41 ∧ Xi S 904 41 ≤ 6 := hH.c _ _
  have w10 : 0 ≤ Xi S 904 47 ∧ Xi S 904 47 ≤ 8 := hH.c _ _
  have w11 : 0 ≤ Xi S 904 49 ∧ Xi S 904 49 ≤ 12 := hH.c _ _
  have w12 : -1 ≤ Xi S 904 60 ∧ Xi S 904 60 ≤ 23 := hH.c _ _
  have w13 : 0 ≤ Xi S 904 69 ∧ Xi S 904 69 ≤ 2600 := hH.c _ _
  have w14 : 0 ≤ Xi S 904 70 ∧ Xi S 904 70 ≤ 20 := hH.c _ _
  have w15 : 0 ≤ Xi S 904 71 ∧ Xi S 904 71 ≤ 2600 := hH.c _ _
  have w16 : 0 ≤ Xi S 904 72 ∧ Xi S 904 72 ≤ 2600 := hH.c _ _
  have w17 : -2 ≤ Xi S 904 78 ∧ Xi S 904 78 ≤ 5010 := hH.c _ _
  have hX : TXM S := hI.1
  have hW : WYM S := hI.2.1
  have hM : LXM S := hI.2.2.1
  have hLC : LCN S := hI.2.2.2.1
  have hB : ABV S := hI.2.2.2.2.1
  have hC : DCM S := hI.2.2.2.2.2.1
  have hV : VTM S := hI.2.2.2.2.2.2.1
  have hVC : VCN S := hI.2.2.2.2.2.2.2.1
  have hWD : WYD S := hI.2.2.2.2.2.2.2.2.1
  have hRD : RDT S := hI.2.2.2.2.2.2.2.2.2.1
  have hAK : AKR S := hI.2.2.2.2.2.2.2.2.2.2.1
  have hd6 : Xi S 904 60 < Xi S 904 19 := hI.2.2.2.2.2.2.2.2.2.2.2.1
  have h16 : 2 ≤ Xi S 904 16 := hI.2.2.2.2.2.2.2.2.2.2.2.2
  have h32 : 1 ≤ Xi S 904 32 := hAK.2.2.2.2.2.2.2
  have hn5 := hT.1
  have hc69 : 0 ≤ Xi S 904 69 ∧ Xi S 904 69 ≤ 2600 := hH.c _ _
  have hc70 : 0 ≤ Xi S 904 70 ∧ Xi S 904 70 ≤ 20 := hH.c _ _
  have hc16 : 0 ≤ Xi S 904 16 ∧ Xi S 904 16 ≤ 16 := hH.c _ _
  have hc18 : 0 ≤ Xi S 904 18 ∧ Xi S 904 18 ≤ 8 := hH.c _ _
  have hc19 : 0 ≤ Xi S 904 19 ∧ Xi S 904 19 ≤ 24 := hH.c _ _
  have hc23 : 0 ≤ Xi S 904 23 ∧ Xi S 904 23 ≤ 24 := hH.c _ _
  have hc30 : 0 ≤ Xi S 904 30 ∧ Xi S 904 30 ≤ 64 := hH.c _ _
  have hc32 : 0 ≤ Xi S 904 32 ∧ Xi S 904 32 ≤ 12 := hH.c _ _
  have hc41 : 0 ≤ Xi S 904 41 ∧ Xi S 904 41 ≤ 6 := hH.c _ _
  have hc47 : 0 ≤ Xi S 904 47 ∧ Xi S 904 47 ≤ 8 := hH.c _ _
  have hc49 : 0 ≤ Xi S 904 49 ∧ Xi S 904 49 ≤ 12 := hH.c _ _
  have hc15 : 0 ≤ Xi S 904 15 ∧ Xi S 904 15 ≤ 300 := hH.c _ _
  have hc117 : 0 ≤ Xi S 904 117 ∧ Xi S 904 117 ≤ 480 := hH.c _ _
  have hc125 : 0 ≤ Xi S 904 125 ∧ Xi S 904 125 ≤ 192 := hH.c _ _
  have hc130 : 0 ≤ Xi S 904 130 ∧ Xi S 904 130 ≤ 24 := hH.c _ _
  have hl9 := lcn_le hH hLC
  intro w96
  refine l_aload_n rfl rfl ?_
  have d152 := hk.2.2.1 (by omega)
  have s152 := hq.2.2.1 (by omega)
  have b152 := hRD.2.2.1
  have c152 := d152.1
  have t152 := d152.2.2.2.1
  have w104 : 0 ≤ Xi S 904 94 ∧ Xi S 904 94 ≤ 1700 := hH.c _ _
  have w105 : 0 ≤ Xi S 951 1 ∧ Xi S 951 1 ≤ 5010 := hH.c _ _
  refine l_callV rfl rfl rfl (t_mo_doDefined hH n (by first | assumption | exact (TK_FR hF rfl (by assumption : TK S _))) (by first | assumption | exact (RNV_FR hF rfl (by assumption : RNV S _))) (by first | assumption | exact (by assumption : LXM S)) (by first | assumption | exact (by assumption : LCN S)) (by first | assumption | exact (by assumption : DCM S)) (hRD.2.1) (d152.1) (s152) (d152.2.1) (d152.2.2.1) (d152.2.2.2.1) (d152.2.2.2.2) (by have t := b152.1; omega) _) ?_
  rintro _ T4 ⟨hHT4, w113, rfl, w106, w107, w108, df153, w109, w110, w111, dn153⟩
  have hFT4 : FR md_mo_does__g S T4 := FR.tr hF w113 rfl
  show Rl _ _ _ _ _ [] _ _
  refine l_goto rfl rfl ?_
  refine l_return rfl rfl ?_
  have w114 : 0 ≤ Xi T4 904 117 ∧ Xi T4 904 117 ≤ 480 := hHT4.c _ _
  have w115 : 0 ≤ Xi T4 904 15 ∧ Xi T4 904 15 ≤ 300 := hHT4.c _ _
  have w116 : Xi T4 904 16 = Xi S 904 16 := (show Xi T4 904 16 = Xi S 904 16 from w113.x _ _ rfl)
  have w118 : Xi T4 904 19 = Xi S 904 19 := (show Xi T4 904 19 = Xi S 904 19 from w113.x _ _ rfl)
  have w120 : 0 ≤ Xi T4 904 23 ∧ Xi T4 904 23 ≤ 24 := hHT4.c _ _
  have w121 : Xi T4 904 60 = Xi S 904 60 := (show Xi T4 904 60 = Xi S 904 60 from w113.x _ _ rfl)
  exact ⟨hHT4, hFT4, rfl, (⟨by first | assumption | exact (TXM_FR w113 rfl (by assumption : TXM S)), by first | assumption | exact (WYM_FR w113 rfl (by assumption : WYM S)), by first | assumption | exact (by assumption : LXM T4), by first | assumption | exact (by assumption : LCN T4), by first | assumption | exact (ABV_FR w113 rfl (by assumption : ABV S)), by first | assumption | exact (by assumption : DCM T4), by first | assumption | exact (VTM_FR w113 rfl (by assumption : VTM S)), by first | assumption | exact (VCN_FR w113 rfl (by assumption : VCN S)), by first | assumption | exact (WYD_FR w113 rfl (by assumption : WYD S)), by first | assumption | exact (by assumption : RDT T4) | exact rdt_df hRD (GR.tr GR.rf (by assumption : GR T4 S)) df153 (by omega) (by omega) (by omega) (hFT4.x 904 125 rfl) (hFT4.x 904 130 rfl) (smk_q9 hFT4 rfl) dn153 | exact rdt_gr hRD (by first | assumption | exact (GR.tr GR.rf (by assumption : GR T4 S))) (by omega) (hFT4.x 904 125 rfl) (hFT4.x 904 130 rfl) (smk_q9 hFT4 rfl) (fun a x y => absurd y (by omega)), akr_gr hAK (by first | assumption | exact (GR.tr GR.rf (by assumption : GR T4 S))), by first | omega | (have g := (by first | assumption | exact (GR.tr GR.rf (by assumption : GR T4 S)) : GR T4 S); have t := g.1; omega), by first | omega | (have g := (by first | assumption | exact (GR.tr GR.rf (by assumption : GR T4 S)) : GR T4 S); have t := g.1; omega)⟩), (by first | assumption | exact (GR.tr GR.rf (by assumption : GR T4 S)))⟩
set_option maxRecDepth 100000 in
set_option maxHeartbeats 1000000 in
theorem c159_mo_does__g {S : sS} (hH : HI S) (n : Nat) (first : Int) (hfirst : 0 ≤ first ∧ first ≤ 5001) (hT : TK S n) (hv : RNV S n) (hK : TXK S n) (hI : TIX S) (hq : SNQ S n) (hk : DOK S) (h11 : Xi S 904 70 = 11 → -1 ≤ Xi S 904 78) (d : Nat) : (Xi S 904 70 = 7) → Rl lay0 (d + 7) m_mo_does 159 [(0, .ref 904)] [] S (Q_mo_does__g S n first) := by
  have hF : FR md_mo_does__g S S := FR.rf
  have w1 : 0 ≤ Xi S 904 117 ∧ Xi S 904 117 ≤ 480 := hH.c _ _
  have w2 : 0 ≤ Xi S 904 15 ∧ Xi S 904 15 ≤ 300 := hH.c _ _
  have w3 : 0 ≤ Xi S 904 16 ∧ Xi S 904 16 ≤ 16 := hH.c _ _
  have w4 : 0 ≤ Xi S 904 18 ∧ Xi S 904 18 ≤ 8 := hH.c _ _
  have w5 : 0 ≤ Xi S 904 19 ∧ Xi S 904 19 ≤ 24 := hH.c _ _
  have w6 : 0 ≤ Xi S 904 23 ∧ Xi S 904 23 ≤ 24 := hH.c _ _
  have w7 : 0 ≤ Xi S 904 30 ∧ Xi S 904 30 ≤ 64 := hH.c _ _
  have w8 : 0 ≤ Xi S 904 32 ∧ Xi S 904 32 ≤ 12 := hH.c _ _
  have w9 : 0 ≤ Xi S 904 41 ∧ Xi S 904 41 ≤ 6 := hH.c _ _
  have w10 : 0 ≤ Xi S 904 47 ∧ Xi S 904 47 ≤ 8 := hH.c _ _
  have w11 : 0 ≤ Xi S 904 49 ∧ Xi S 904 49 ≤ 12 := hH.c _ _
  have w12 : -1 ≤ Xi S 904 60 ∧ Xi S 904 60 ≤ 23 := hH.c _ _
  have w13 : 0 ≤ Xi S 904 69 ∧ Xi S 904 69 ≤ 2600 := hH.c _ _
  have w14 : 0 ≤ Xi S 904 70 ∧ Xi S 904 70 ≤ 20 := hH.c _ _
  have w15 : 0 ≤ Xi S 904 71 ∧ Xi S 904 71 ≤ 2600 := hH.c _ _
  have w16 : 0 ≤ Xi S 904 72 ∧ Xi S 904 72 ≤ 2600 := hH.c _ _
  have w17 : -2 ≤ Xi S 904 78 ∧ Xi S 904 78 ≤ 5010 := hH.c _ _
  have hX : TXM S := hI.1
  have hW : WYM S := hI.2.1
  have hM : LXM S := hI.2.2.1
  have hLC : LCN S := hI.2.2.2.1
  have hB : ABV S := hI.2.2.2.2.1
  have hC : DCM S := hI.2.2.2.2.2.1
  have hV : VTM S := hI.2.2.2.2.2.2.1
  have hVC : VCN S := hI.2.2.2.2.2.2.2.1
  have hWD : WYD S := hI.2.2.2.2.2.2.2.2.1
  have hRD : RDT S := hI.2.2.2.2.2.2.2.2.2.1
  have hAK : AKR S := hI.2.2.2.2.2.2.2.2.2.2.1
  have hd6 : Xi S 904 60 < Xi S 904 19 := hI.2.2.2.2.2.2.2.2.2.2.2.1
  have h16 : 2 ≤ Xi S 904 16 := hI.2.2.2.2.2.2.2.2.2.2.2.2
  have h32 : 1 ≤ Xi S 904 32 := hAK.2.2.2.2.2.2.2
  have hn5 := hT.1
  have hc69 : 0 ≤ Xi S 904 69 ∧ Xi S 904 69 ≤ 2600 := hH.c _ _
  have hc70 : 0 ≤ Xi S 904 70 ∧ Xi S 904 70 ≤ 20 := hH.c _ _
  have hc16 : 0 ≤ Xi S 904 16 ∧ Xi S 904 16 ≤ 16 := hH.c _ _
  have hc18 : 0 ≤ Xi S 904 18 ∧ Xi S 904 18 ≤ 8 := hH.c _ _
  have hc19 : 0 ≤ Xi S 904 19 ∧ Xi S 904 19 ≤ 24 := hH.c _ _
  have hc23 : 0 ≤ Xi S 904 23 ∧ Xi S 904 23 ≤ 24 := hH.c _ _
  have hc30 : 0 ≤ Xi S 904 30 ∧ Xi S 904 30 ≤ 64 := hH.c _ _
  have hc32 : 0 ≤ Xi S 904 32 ∧ Xi S 904 32 ≤ 12 := hH.c _ _
  have hc41 : 0 ≤ Xi S 904 41 ∧ Xi S 904 41 ≤ 6 := hH.c _ _
  have hc47 : 0 ≤ Xi S 904 47 ∧ Xi S 904 47 ≤ 8 := hH.c _ _
  have hc49 : 0 ≤ Xi S 904 49 ∧ Xi S 904 49 ≤ 12 := hH.c _ _
  have hc15 : 0 ≤ Xi S 904 15 ∧ Xi S 904 15 ≤ 300 := hH.c _ _
  have hc117 : 0 ≤ Xi S 904 117 ∧ Xi S 904 117 ≤ 480 := hH.c _ _
  have hc125 : 0 ≤ Xi S 904 125 ∧ Xi S 904 125 ≤ 192 := hH.c _ _
  have hc130 : 0 ≤ Xi S 904 130 ∧ Xi S 904 130 ≤ 24 := hH.c _ _
  have hl9 := lcn_le hH hLC
  intro w123
  refine l_aload_n rfl rfl ?_
  have d159 := hk.2.2.2.1 (by omega)
  have s159 := hq.2.2.1 (by omega)
  have z159 := hv 0 (by omega)
  have a159 := d159.1
  have b159 := d159.2.2
  have n159 := d159.2.1
  refine l_gfr rfl rfl rfl rfl rfl (hH.r 904 48 941 rfl) ?_
  refine l_aload_n rfl rfl ?_
  refine l_gfi rfl rfl rfl rfl rfl ?_
  refine l_aload_n rfl rfl ?_
  refine l_iconst rfl ?_
  refine l_bipush rfl rfl ?_
  refine l_callV rfl rfl rfl (t_mo_meansRun__2 hH n 1 8 ⟨by omega, by omega⟩ ⟨by omega, by omega⟩ (by first | assumption | exact (TK_FR hF rfl (by assumption : TK S _))) (by first | assumption | exact (RNV_FR hF rfl (by assumption : RNV S _))) (by first | assumption | omega) (by first | assumption | exact (by assumption : LXM S)) _) ?_
  rintro _ _ ⟨rfl, z133, rfl, w133, w131, w132⟩
  show Rl _ _ _ _ _ [iv z133, iv (Xi S 904 47), .ref 941] _ _
  have x171 : z133 ≠ -1 → z133 < Xi S 904 41 := fun q => by have t := (by assumption : z133 ≠ -1 → z133 < cM S 8) q; rw [cM8] at t; exact t
  have r171 : z133 = rnR S 1 8 := by assumption
  refine l_iastore (n := 8) rfl rfl (by omega) (by omega) (by unfold rg; omega) ?_
  obtain ⟨U5, eU5⟩ : ∃ T : sS, T = uI S 941 (((Xi S 904 47)).toNat) (Int32.ofInt z133) := ⟨_, rfl⟩
  rw [← eU5]
  have hHU5 : HI U5 := by rw [eU5]; exact HI_w hH (show 0 ≤ z133 by omega) (show z133 ≤ 5 by omega)
  have hFU5 : FR md_mo_does__g S U5 := by rw [eU5]; exact FR.wI hF (mdf_i (r := (941, 942, 0, 100000)) (List.mem_of_getElem? (i := 48) rfl) (inR_i (by omega) (by omega) (by omega) (by omega)))
  have w134 : Xi U5 941 (((Xi S 904 47)).toNat) = z133 := by rw [eU5]; exact Xi_same (by unfold rg; omega)
  have y174_15 : Xi U5 904 15 = Xi S 904 15 := ((show Xi U5 904 15 = Xi S 904 15 from by rw [eU5]; exact Xi_ne (by omega)))
  have y174_47 : Xi U5 904 47 = Xi S 904 47 := ((show Xi U5 904 47 = Xi S 904 47 from by rw [eU5]; exact Xi_ne (by omega)))
  refine l_aload_n rfl rfl ?_
  refine l_bipush rfl rfl ?_
  refine l_aload_n rfl rfl ?_
  refine l_gfi rfl rfl rfl rfl rfl ?_
  have w135 : (Xi U5 904 47) = (Xi S 904 47) := (show Xi U5 904 47 = Xi S 904 47 from by rw [eU5]; exact Xi_ne (by omega))
  rw [w135]
  refine l_aload_n rfl rfl ?_
  refine l_gfr rfl rfl rfl rfl rfl (hHU5.r 904 7 910 rfl) ?_
  refine l_aload_n rfl rfl ?_
  refine l_gfr rfl rfl rfl rfl rfl (hHU5.r 904 67 950 rfl) ?_
  refine l_iconst rfl ?_
  refine l_iaload (n := 2600) rfl rfl (by omega) (by omega) (by unfold rg; omega) ?_
  have w136 : 0 ≤ (Xi U5 950 ((0 : Int).toNat)) ∧ (Xi U5 950 ((0 : Int).toNat)) ≤ 5010 := hHU5.c _ _
  have w137 : (Xi U5 950 ((0 : Int).toNat)) = Xi U5 950 0 := rfl
  have e191 : (Xi U5 950 ((0 : Int).toNat)) = Xi S 950 0 := by first | rfl | exact (hFU5.cx 950 rfl _).1 | exact (hFU5.cx 950 rfl _).1
  refine l_laload (n := 5002) rfl rfl (by omega) (by omega) (by unfold rg; omega) ?_
  have w138 : -9223372036854775808 ≤ (Xj U5 910 (((Xi U5 950 ((0 : Int).toNat))).toNat)) ∧ (Xj U5 910 (((Xi U5 950 ((0 : Int).toNat))).toNat)) < 9223372036854775808 := Xj_rg
  refine l_lconst (z := 0) rfl rfl ?_
  refine l_lconst (z := 0) rfl rfl ?_
  refine l_iconst rfl ?_
  have w139 : Xi U5 904 117 = Xi S 904 117 := (show Xi U5 904 117 = Xi S 904 117 from by rw [eU5]; exact Xi_ne (by omega))
  have w141 : Xi U5 904 15 = Xi S 904 15 := (show Xi U5 904 15 = Xi S 904 15 from by rw [eU5]; exact Xi_ne (by omega))
  have w143 : Xi U5 904 16 = Xi S 904 16 := (show Xi U5 904 16 = Xi S 904 16 from by rw [eU5]; exact Xi_ne (by omega))
  have w145 : Xi U5 904 19 = Xi S 904 19 := (show Xi U5 904 19 = Xi S 904 19 from by rw [eU5]; exact Xi_ne (by omega))
  have w147 : Xi U5 904 23 = Xi S 904 23 := (show Xi U5 904 23 = Xi S 904 23 from by rw [eU5]; exact Xi_ne (by omega))
  have w149 : Xi U5 904 60 = Xi S 904 60 := (show Xi U5 904 60 = Xi S 904 60 from by rw [eU5]; exact Xi_ne (by omega))
  refine l_callV rfl rfl rfl (t_mo_tell hHU5 9 (Xi S 904 47) (Xj U5 910 (((Xi U5 950 ((0 : Int).toNat))).toNat)) 0 0 1 ⟨by omega, by omega⟩ ⟨by omega, by omega⟩ ⟨by omega, by omega⟩ (by omega) _) ?_
  rintro _ T6 ⟨hHT6, w153, rfl, w151, e196, k196⟩
  have hFT6 : FR md_mo_does__g S T6 := FR.tr hFU5 w153 rfl
  show Rl _ _ _ _ _ [] _ _
  have x196 : LXK T6 S (Xi S 904 15) := (LXK.tr (LXK.fr LXK.rf (FR_e eU5) rfl) (by assumption : LXK T6 U5 _) (by omega))
  have y196_47 : Xi T6 904 47 = Xi S 904 47 := ((show Xi T6 904 47 = Xi U5 904 47 from w153.x _ _ rfl).trans ((show Xi U5 904 47 = Xi S 904 47 from by rw [eU5]; exact Xi_ne (by omega))))
  have d196 : Xi T6 914 (Xi S 904 15).toNat = 9 ∧ Xi T6 915 (Xi S 904 15).toNat = Xi S 904 47 := by have t := e196; rw [show Xi U5 904 15 = Xi S 904 15 by omega] at t; first | exact t | (rw [show Xi U5 904 47 = Xi S 904 47 by omega] at t; exact t)
  refine l_aload_n rfl rfl ?_
  refine l_bipush rfl rfl ?_
  refine l_aload_n rfl rfl ?_
  refine l_gfi rfl rfl rfl rfl rfl ?_
  have w154 : (Xi T6 904 47) = (Xi S 904 47) := (show Xi T6 904 47 = Xi U5 904 47 from w153.x _ _ rfl).trans ((show Xi U5 904 47 = Xi S 904 47 from by rw [eU5]; exact Xi_ne (by omega)))
  rw [w154]
  refine l_aload_n rfl rfl ?_
  refine l_gfr rfl rfl rfl rfl rfl (hHT6.r 904 7 910 rfl) ?_
  refine l_aload_n rfl rfl ?_
  refine l_gfr rfl rfl rfl rfl rfl (hHT6.r 904 67 950 rfl) ?_
  refine l_iconst rfl ?_
  refine l_iaload (n := 2600) rfl rfl (by omega) (by omega) (by unfold rg; omega) ?_
  have w155 : (Xi T6 950 ((0 : Int).toNat)) = (Xi U5 950 ((0 : Int).toNat)) := (show Xi T6 950 ((0 : Int).toNat) = Xi U5 950 ((0 : Int).toNat) from w153.x _ _ rfl)
  rw [w155]
  have e215 : (Xi U5 950 ((0 : Int).toNat)) = Xi S 950 0 := by first | rfl | exact (hFT6.cx 950 rfl _).1 | exact (hFU5.cx 950 rfl _).1
  refine l_laload (n := 5002) rfl rfl (by omega) (by omega) (by unfold rg; omega) ?_
  have w156 : -9223372036854775808 ≤ (Xj T6 910 (((Xi U5 950 ((0 : Int).toNat))).toNat)) ∧ (Xj T6 910 (((Xi U5 950 ((0 : Int).toNat))).toNat)) < 9223372036854775808 := Xj_rg
  refine l_iconst rfl ?_
  refine l_lshlF rfl ?_
  have w157 : rgL (lshlF (Xj T6 910 (((Xi U5 950 ((0 : Int).toNat))).toNat)) 5) := lshlF_rg
  refine l_ldc2 (z := 19) rfl rfl ?_
  refine l_lorF rfl ?_
  have w158 : rgL (lorF (lshlF (Xj T6 910 (((Xi U5 950 ((0 : Int).toNat))).toNat)) 5) 19) := lorF_rg
  refine l_lconst (z := 0) rfl rfl ?_
  refine l_lconst (z := 0) rfl rfl ?_
  refine l_iconst rfl ?_
  have w159 : Xi T6 904 117 = Xi S 904 117 := (show Xi T6 904 117 = Xi U5 904 117 from w153.x _ _ rfl).trans ((show Xi U5 904 117 = Xi S 904 117 from by rw [eU5]; exact Xi_ne (by omega)))
  have w161 : 0 ≤ Xi T6 904 15 ∧ Xi T6 904 15 ≤ 300 := hHT6.c _ _
  have w162 : Xi T6 904 16 = Xi S 904 16 := (show Xi T6 904 16 = Xi U5 904 16 from w153.x _ _ rfl).trans ((show Xi U5 904 16 = Xi S 904 16 from by rw [eU5]; exact Xi_ne (by omega)))
  have w164 : Xi T6 904 19 = Xi S 904 19 := (show Xi T6 904 19 = Xi U5 904 19 from w153.x _ _ rfl).trans ((show Xi U5 904 19 = Xi S 904 19 from by rw [eU5]; exact Xi_ne (by omega)))
  have w166 : Xi T6 904 23 = Xi S 904 23 := (show Xi T6 904 23 = Xi U5 904 23 from w153.x _ _ rfl).trans ((show Xi U5 904 23 = Xi S 904 23 from by rw [eU5]; exact Xi_ne (by omega)))
  have w168 : Xi T6 904 60 = Xi S 904 60 := (show Xi T6 904 60 = Xi U5 904 60 from w153.x _ _ rfl).trans ((show Xi U5 904 60 = Xi S 904 60 from by rw [eU5]; exact Xi_ne (by omega)))
  refine l_callV rfl rfl rfl (t_mo_tell hHT6 10 (Xi S 904 47) (lorF (lshlF (Xj T6 910 (((Xi U5 950 ((0 : Int).toNat))).toNat)) 5) 19) 0 0 1 ⟨by omega, by omega⟩ ⟨by omega, by omega⟩ ⟨by omega, by omega⟩ (by omega) _) ?_
  rintro _ T7 ⟨hHT7, w172, rfl, w170, e226, k226⟩
  have hFT7 : FR md_mo_does__g S T7 := FR.tr hFT6 w172 rfl
  show Rl _ _ _ _ _ [] _ _
  have x226 : LXK T7 S (Xi S 904 15) := x196.tr k226 (by omega)
  have y226_47 : Xi T7 904 47 = Xi S 904 47 := ((show Xi T7 904 47 = Xi T6 904 47 from w172.x _ _ rfl).trans ((show Xi T6 904 47 = Xi U5 904 47 from w153.x _ _ rfl).trans ((show Xi U5 904 47 = Xi S 904 47 from by rw [eU5]; exact Xi_ne (by omega)))))
  have d226 : Xi T7 914 (Xi S 904 15 + 1).toNat = 10 ∧ Xi T7 915 (Xi S 904 15 + 1).toNat = Xi S 904 47 := by have t := e226; rw [show Xi T6 904 15 = Xi S 904 15 + 1 by omega] at t; first | exact t | (rw [show Xi T6 904 47 = Xi S 904 47 by omega] at t; exact t)
  have c226 : Xi T7 914 (Xi S 904 15).toNat = 9 ∧ Xi T7 915 (Xi S 904 15).toNat = Xi S 904 47 := by have t := k226 (Xi S 904 15) (by omega) (by omega); exact ⟨t.2.2.2.2.2.1.trans d196.1, t.2.2.2.2.2.2.trans d196.2⟩
  refine l_aload_n rfl rfl ?_
  refine l_gfr rfl rfl rfl rfl rfl (hHT7.r 904 14 916 rfl) ?_
  refine l_aload_n rfl rfl ?_
  refine l_gfi rfl rfl rfl rfl rfl ?_
  have w173 : 0 ≤ (Xi T7 904 15) ∧ (Xi T7 904 15) ≤ 300 := hHT7.c _ _
  refine l_iconst rfl ?_
  refine l_isub rfl ?_
  refine l_aload_n rfl rfl ?_
  refine l_gfr rfl rfl rfl rfl rfl (hHT7.r 904 7 910 rfl) ?_
  refine l_aload_n rfl rfl ?_
  refine l_gfr rfl rfl rfl rfl rfl (hHT7.r 904 67 950 rfl) ?_
  refine l_iconst rfl ?_
  refine l_iaload (n := 2600) rfl rfl (by omega) (by omega) (by unfold rg; omega) ?_
  have w174 : (Xi T7 950 ((0 : Int).toNat)) = (Xi U5 950 ((0 : Int).toNat)) := (show Xi T7 950 ((0 : Int).toNat) = Xi T6 950 ((0 : Int).toNat) from w172.x _ _ rfl).trans ((show Xi T6 950 ((0 : Int).toNat) = Xi U5 950 ((0 : Int).toNat) from w153.x _ _ rfl))
  rw [w174]
  have e248 : (Xi U5 950 ((0 : Int).toNat)) = Xi S 950 0 := by first | rfl | exact (hFT7.cx 950 rfl _).1 | exact (hFU5.cx 950 rfl _).1
  refine l_laload (n := 5002) rfl rfl (by omega) (by omega) (by unfold rg; omega) ?_
  have w175 : -9223372036854775808 ≤ (Xj T7 910 (((Xi U5 950 ((0 : Int).toNat))).toNat)) ∧ (Xj T7 910 (((Xi U5 950 ((0 : Int).toNat))).toNat)) < 9223372036854775808 := Xj_rg
  refine l_bipush rfl rfl ?_
  refine l_lshrF rfl ?_
  have w176 : rgL (lshrF (Xj T7 910 (((Xi U5 950 ((0 : Int).toNat))).toNat)) 55) := lshrF_rg
  refine l_lconst (z := 0) rfl rfl ?_
  refine l_lcmpA rfl (fun c177 w177 => ?_)
  refine l_if_eq rfl rfl (by unfold rg; omega) (fun w178 => ?_) (fun w179 => ?_)
  · refine l_iconst rfl ?_
    refine l_bastoreZ1 (n := 300) rfl rfl (by omega) (by omega) (by unfold rg; omega) ⟨by omega, by omega⟩ ?_
    obtain ⟨U8, eU8⟩ : ∃ T : sS, T = uI T7 916 ((((Xi T7 904 15) - 1)).toNat) (Int32.ofInt 0) := ⟨_, rfl⟩
    rw [← eU8]
    have hHU8 : HI U8 := by rw [eU8]; exact HI_w hHT7 (show 0 ≤ 0 by omega) (show 0 ≤ 1 by omega)
    have hFU8 : FR md_mo_does__g S U8 := by rw [eU8]; exact FR.wI hFT7 (mdf_i (r := (916, 917, 0, 100000)) (List.mem_of_getElem? (i := 23) rfl) (inR_i (by omega) (by omega) (by omega) (by omega)))
    have w180 : Xi U8 916 ((((Xi T7 904 15) - 1)).toNat) = 0 := by rw [eU8]; exact Xi_same (by unfold rg; omega)
    have x263 : LXK U8 S (Xi S 904 15) := x226.wl eU8 (by omega)
    have w263 : Xi U8 904 15 = Xi S 904 15 + 2 := by have t : Xi U8 904 15 = Xi T7 904 15 := (by rw [eU8, Xi_ne (by omega)]); omega
    refine l_aload_n rfl rfl ?_
    refine l_dup rfl rfl ?_
    refine l_gfi rfl rfl rfl rfl rfl ?_
    have w181 : (Xi U8 904 47) = (Xi S 904 47) := (show Xi U8 904 47 = Xi T7 904 47 from by rw [eU8]; exact Xi_ne (by omega)).trans ( (show Xi T7 904 47 = Xi T6 904 47 from w172.x _ _ rfl).trans ( (show Xi T6 904 47 = Xi U5 904 47 from w153.x _ _ rfl).trans ((show Xi U5 904 47 = Xi S 904 47 from by rw [eU5]; exact Xi_ne (by omega)))))
    rw [w181]
    refine l_iconst rfl ?_
    refine l_iadd rfl ?_
    refine l_pfi rfl rfl rfl rfl ?_
    obtain ⟨U9, eU9⟩ : ∃ T : sS, T = uI U8 904 47 (Int32.ofInt ((Xi S 904 47) + 1)) := ⟨_, rfl⟩
    rw [← eU9]
    have hHU9 : HI U9 := by rw [eU9]; exact HI_w hHU8 (show 0 ≤ ((Xi S 904 47) + 1) by omega) (show ((Xi S 904 47) + 1) ≤ 8 by omega)
    have hFU9 : FR md_mo_does__g S U9 := by rw [eU9]; exact FR.wI hFU8 (mdf_i (r := (904, 905, 47, 48)) (List.mem_of_getElem? (i := 8) rfl) (inR_i (by omega) (by omega) (by omega) (by omega)))
    have w182 : Xi U9 904 47 = ((Xi S 904 47) + 1) := by rw [eU9]; exact Xi_same (by unfold rg; omega)
    have x271 : LXK U9 S (Xi S 904 15) := x263.fr (FR_e eU9) rfl
    have G271 : GR U9 S := (GR.w (GR_FR (FR_e eU8) rfl (GR_FR w172 rfl (GR_FR w153 rfl (GR_FR (FR_e eU5) rfl GR.rf)))) eU9 (by unfold rg; omega) (by omega))
    have w271 : Xi U9 904 15 = Xi S 904 15 + 2 := by have t : Xi U9 904 15 = Xi U8 904 15 := (by rw [eU9, Xi_ne (by omega)]); omega
    have v271 : Xi U9 904 47 = Xi S 904 47 + 1 := by omega
    have c271 : Xi U9 914 (Xi S 904 15).toNat = 9 ∧ Xi U9 915 (Xi S 904 15).toNat = Xi S 904 47 := ⟨by rw [eU9, Xi_ne (by omega), eU8, Xi_ne (by omega)]; exact c226.1, by rw [eU9, Xi_ne (by omega), eU8, Xi_ne (by omega)]; exact c226.2⟩
    have d271 : Xi U9 914 (Xi S 904 15 + 1).toNat = 10 ∧ Xi U9 915 (Xi S 904 15 + 1).toNat = Xi S 904 47 := ⟨by rw [eU9, Xi_ne (by omega), eU8, Xi_ne (by omega)]; exact d226.1, by rw [eU9, Xi_ne (by omega), eU8, Xi_ne (by omega)]; exact d226.2⟩
    have M271 : LXM U9 := lxm_two hM x271 G271 (by omega) (by omega) (by rw [c271.1, c271.2, cM9]; omega) (by rw [d271.1, d271.2, cM10]; omega)
    have y271_16 : Xi U9 904 16 = Xi S 904 16 := ((show Xi U9 904 16 = Xi U8 904 16 from by rw [eU9]; exact Xi_ne (by omega)).trans ((show Xi U8 904 16 = Xi T7 904 16 from by rw [eU8]; exact Xi_ne (by omega)).trans ((show Xi T7 904 16 = Xi T6 904 16 from w172.x _ _ rfl).trans ((show Xi T6 904 16 = Xi U5 904 16 from w153.x _ _ rfl).trans ((show Xi U5 904 16 = Xi S 904 16 from by rw [eU5]; exact Xi_ne (by omega)))))))
    have y271_18 : Xi U9 904 18 = Xi S 904 18 := ((show Xi U9 904 18 = Xi U8 904 18 from by rw [eU9]; exact Xi_ne (by omega)).trans ((show Xi U8 904 18 = Xi T7 904 18 from by rw [eU8]; exact Xi_ne (by omega)).trans ((show Xi T7 904 18 = Xi T6 904 18 from w172.x _ _ rfl).trans ((show Xi T6 904 18 = Xi U5 904 18 from w153.x _ _ rfl).trans ((show Xi U5 904 18 = Xi S 904 18 from by rw [eU5]; exact Xi_ne (by omega)))))))
    have y271_19 : Xi U9 904 19 = Xi S 904 19 := ((show Xi U9 904 19 = Xi U8 904 19 from by rw [eU9]; exact Xi_ne (by omega)).trans ((show Xi U8 904 19 = Xi T7 904 19 from by rw [eU8]; exact Xi_ne (by omega)).trans ((show Xi T7 904 19 = Xi T6 904 19 from w172.x _ _ rfl).trans ((show Xi T6 904 19 = Xi U5 904 19 from w153.x _ _ rfl).trans ((show Xi U5 904 19 = Xi S 904 19 from by rw [eU5]; exact Xi_ne (by omega)))))))
    have y271_23 : Xi U9 904 23 = Xi S 904 23 := ((show Xi U9 904 23 = Xi U8 904 23 from by rw [eU9]; exact Xi_ne (by omega)).trans ((show Xi U8 904 23 = Xi T7 904 23 from by rw [eU8]; exact Xi_ne (by omega)).trans ((show Xi T7 904 23 = Xi T6 904 23 from w172.x _ _ rfl).trans ((show Xi T6 904 23 = Xi U5 904 23 from w153.x _ _ rfl).trans ((show Xi U5 904 23 = Xi S 904 23 from by rw [eU5]; exact Xi_ne (by omega)))))))
    have y271_30 : Xi U9 904 30 = Xi S 904 30 := ((show Xi U9 904 30 = Xi U8 904 30 from by rw [eU9]; exact Xi_ne (by omega)).trans ((show Xi U8 904 30 = Xi T7 904 30 from by rw [eU8]; exact Xi_ne (by omega)).trans ((show Xi T7 904 30 = Xi T6 904 30 from w172.x _ _ rfl).trans ((show Xi T6 904 30 = Xi U5 904 30 from w153.x _ _ rfl).trans ((show Xi U5 904 30 = Xi S 904 30 from by rw [eU5]; exact Xi_ne (by omega)))))))
    have y271_32 : Xi U9 904 32 = Xi S 904 32 := ((show Xi U9 904 32 = Xi U8 904 32 from by rw [eU9]; exact Xi_ne (by omega)).trans ((show Xi U8 904 32 = Xi T7 904 32 from by rw [eU8]; exact Xi_ne (by omega)).trans ((show Xi T7 904 32 = Xi T6 904 32 from w172.x _ _ rfl).trans ((show Xi T6 904 32 = Xi U5 904 32 from w153.x _ _ rfl).trans ((show Xi U5 904 32 = Xi S 904 32 from by rw [eU5]; exact Xi_ne (by omega)))))))
    have y271_41 : Xi U9 904 41 = Xi S 904 41 := ((show Xi U9 904 41 = Xi U8 904 41 from by rw [eU9]; exact Xi_ne (by omega)).trans ((show Xi U8 904 41 = Xi T7 904 41 from by rw [eU8]; exact Xi_ne (by omega)).trans ((show Xi T7 904 41 = Xi T6 904 41 from w172.x _ _ rfl).trans ((show Xi T6 904 41 = Xi U5 904 41 from w153.x _ _ rfl).trans ((show Xi U5 904 41 = Xi S 904 41 from by rw [eU5]; exact Xi_ne (by omega)))))))
    have y271_49 : Xi U9 904 49 = Xi S 904 49 := ((show Xi U9 904 49 = Xi U8 904 49 from by rw [eU9]; exact Xi_ne (by omega)).trans ((show Xi U8 904 49 = Xi T7 904 49 from by rw [eU8]; exact Xi_ne (by omega)).trans ((show Xi T7 904 49 = Xi T6 904 49 from w172.x _ _ rfl).trans ((show Xi T6 904 49 = Xi U5 904 49 from w153.x _ _ rfl).trans ((show Xi U5 904 49 = Xi S 904 49 from by rw [eU5]; exact Xi_ne (by omega)))))))
    have L271 : LCN U9 := lcn_i hLC (pls_le x271 (by omega) (by omega) (by omega)) (by omega)
    refine l_goto rfl rfl ?_
    refine l_return rfl rfl ?_
    have w183 : Xi U9 904 117 = Xi S 904 117 := (show Xi U9 904 117 = Xi U8 904 117 from by rw [eU9]; exact Xi_ne (by omega)).trans ( (show Xi U8 904 117 = Xi T7 904 117 from by rw [eU8]; exact Xi_ne (by omega)).trans ( (show Xi T7 904 117 = Xi T6 904 117 from w172.x _ _ rfl).trans ( (show Xi T6 904 117 = Xi U5 904 117 from w153.x _ _ rfl).trans ((show Xi U5 904 117 = Xi S 904 117 from by rw [eU5]; exact Xi_ne (by omega))))))
    have w185 : Xi U9 904 15 = Xi T7 904 15 := (show Xi U9 904 15 = Xi U8 904 15 from by rw [eU9]; exact Xi_ne (by omega)).trans ((show Xi U8 904 15 = Xi T7 904 15 from by rw [eU8]; exact Xi_ne (by omega)))
    have w186 : 0 ≤ Xi T7 904 15 ∧ Xi T7 904 15 ≤ 300 := hHT7.c _ _
    have w187 : Xi U9 904 16 = Xi S 904 16 := (show Xi U9 904 16 = Xi U8 904 16 from by rw [eU9]; exact Xi_ne (by omega)).trans ( (show Xi U8 904 16 = Xi T7 904 16 from by rw [eU8]; exact Xi_ne (by omega)).trans ( (show Xi T7 904 16 = Xi T6 904 16 from w172.x _ _ rfl).trans ( (show Xi T6 904 16 = Xi U5 904 16 from w153.x _ _ rfl).trans ((show Xi U5 904 16 = Xi S 904 16 from by rw [eU5]; exact Xi_ne (by omega))))))
    have w189 : Xi U9 904 19 = Xi S 904 19 := (show Xi U9 904 19 = Xi U8 904 19 from by rw [eU9]; exact Xi_ne (by omega)).trans ( (show Xi U8 904 19 = Xi T7 904 19 from by rw [eU8]; exact Xi_ne (by omega)).trans ( (show Xi T7 904 19 = Xi T6 904 19 from w172.x _ _ rfl).trans ( (show Xi T6 904 19 = Xi U5 904 19 from w153.x _ _ rfl).trans ((show Xi U5 904 19 = Xi S 904 19 from by rw [eU5]; exact Xi_ne (by omega))))))
    have w191 : Xi U9 904 23 = Xi S 904 23 := (show Xi U9 904 23 = Xi U8 904 23 from by rw [eU9]; exact Xi_ne (by omega)).trans ( (show Xi U8 904 23 = Xi T7 904 23 from by rw [eU8]; exact Xi_ne (by omega)).trans ( (show Xi T7 904 23 = Xi T6 904 23 from w172.x _ _ rfl).trans ( (show Xi T6 904 23 = Xi U5 904 23 from w153.x _ _ rfl).trans ((show Xi U5 904 23 = Xi S 904 23 from by rw [eU5]; exact Xi_ne (by omega))))))
    have w193 : Xi U9 904 60 = Xi S 904 60 := (show Xi U9 904 60 = Xi U8 904 60 from by rw [eU9]; exact Xi_ne (by omega)).trans ( (show Xi U8 904 60 = Xi T7 904 60 from by rw [eU8]; exact Xi_ne (by omega)).trans ( (show Xi T7 904 60 = Xi T6 904 60 from w172.x _ _ rfl).trans ( (show Xi T6 904 60 = Xi U5 904 60 from w153.x _ _ rfl).trans ((show Xi U5 904 60 = Xi S 904 60 from by rw [eU5]; exact Xi_ne (by omega))))))
    exact ⟨hHU9, hFU9, rfl, (⟨by first | assumption | exact (TXM_FR (FR_e eU9) rfl (TXM_FR (FR_e eU8) rfl (TXM_FR w172 rfl (TXM_FR w153 rfl (TXM_FR (FR_e eU5) rfl (by assumption : TXM S)))))), by first | assumption | exact (WYM_FR (FR_e eU9) rfl (WYM_FR (FR_e eU8) rfl (WYM_FR w172 rfl (WYM_FR w153 rfl (WYM_FR (FR_e eU5) rfl (by assumption : WYM S)))))), by first | assumption | exact (by assumption : LXM U9), by first | assumption | exact (by assumption : LCN U9), by first | assumption | exact (ABV_FR (FR_e eU9) rfl (ABV_FR (FR_e eU8) rfl (ABV_FR w172 rfl (ABV_FR w153 rfl (ABV_FR (FR_e eU5) rfl (by assumption : ABV S)))))), by first | assumption | exact (DCM_FR (FR_e eU9) rfl (DCM_FR (FR_e eU8) rfl (DCM_FR w172 rfl (DCM_FR w153 rfl (DCM_FR (FR_e eU5) rfl (by assumption : DCM S)))))), by first | assumption | exact (VTM_FR (FR_e eU9) rfl (VTM_FR (FR_e eU8) rfl (VTM_FR w172 rfl (VTM_FR w153 rfl (VTM_FR (FR_e eU5) rfl (by assumption : VTM S)))))), by first | assumption | exact (VCN_FR (FR_e eU9) rfl (VCN_FR (FR_e eU8) rfl (VCN_FR w172 rfl (VCN_FR w153 rfl (VCN_FR (FR_e eU5) rfl (by assumption : VCN S)))))), by first | assumption | exact (WYD_FR (FR_e eU9) rfl (WYD_FR (FR_e eU8) rfl (WYD_FR w172 rfl (WYD_FR w153 rfl (WYD_FR (FR_e eU5) rfl (by assumption : WYD S)))))), by first | assumption | exact (by assumption : RDT U9) | exact rdt_df hRD (GR.w (GR_FR (FR_e eU8) rfl (GR_FR w172 rfl (GR_FR w153 rfl (GR_FR (FR_e eU5) rfl GR.rf)))) eU9 (by unfold rg; omega) (by omega)) df153 (by omega) (by omega) (by omega) (hFU9.x 904 125 rfl) (hFU9.x 904 130 rfl) (smk_q9 hFU9 rfl) dn153 | exact rdt_gr hRD (by first | assumption | exact (GR.w (GR_FR (FR_e eU8) rfl (GR_FR w172 rfl (GR_FR w153 rfl (GR_FR (FR_e eU5) rfl GR.rf)))) eU9 (by unfold rg; omega) (by omega))) (by omega) (hFU9.x 904 125 rfl) (hFU9.x 904 130 rfl) (smk_q9 hFU9 rfl) (fun a x y => absurd y (by omega)), akr_gr hAK (by first | assumption | exact (GR.w (GR_FR (FR_e eU8) rfl (GR_FR w172 rfl (GR_FR w153 rfl (GR_FR (FR_e eU5) rfl GR.rf)))) eU9 (by unfold rg; omega) (by omega))), by first | omega | (have g := (by first | assumption | exact (GR.w (GR_FR (FR_e eU8) rfl (GR_FR w172 rfl (GR_FR w153 rfl (GR_FR (FR_e eU5) rfl GR.rf)))) eU9 (by unfold rg; omega) (by omega)) : GR U9 S); have t := g.1; omega), by first | omega | (have g := (by first | assumption | exact (GR.w (GR_FR (FR_e eU8) rfl (GR_FR w172 rfl (GR_FR w153 rfl (GR_FR (FR_e eU5) rfl GR.rf)))) eU9 (by unfold rg; omega) (by omega)) : GR U9 S); have t := g.1; omega)⟩), (by first | assumption | exact (GR.w (GR_FR (FR_e eU8) rfl (GR_FR w172 rfl (GR_FR w153 rfl (GR_FR (FR_e eU5) rfl GR.rf)))) eU9 (by unfold rg; omega) (by omega)))⟩
  · refine l_iconst rfl ?_
    refine l_goto rfl rfl ?_
    refine l_bastoreZ1 (n := 300) rfl rfl (by omega) (by omega) (by unfold rg; omega) ⟨by omega, by omega⟩ ?_
    obtain ⟨U10, eU10⟩ : ∃ T : sS, T = uI T7 916 ((((Xi T7 904 15) - 1)).toNat) (Int32.ofInt 1) := ⟨_, rfl⟩
    rw [← eU10]
    have hHU10 : HI U10 := by rw [eU10]; exact HI_w hHT7 (show 0 ≤ 1 by omega) (show 1 ≤ 1 by omega)
    have hFU10 : FR md_mo_does__g S U10 := by rw [eU10]; exact FR.wI hFT7 (mdf_i (r := (916, 917, 0, 100000)) (List.mem_of_getElem? (i := 23) rfl) (inR_i (by omega) (by omega) (by omega) (by omega)))
    have w195 : Xi U10 916 ((((Xi T7 904 15) - 1)).toNat) = 1 := by rw [eU10]; exact Xi_same (by unfold rg; omega)
    have x263 : LXK U10 S (Xi S 904 15) := x226.wl eU10 (by omega)
    have w263 : Xi U10 904 15 = Xi S 904 15 + 2 := by have t : Xi U10 904 15 = Xi T7 904 15 := (by rw [eU10, Xi_ne (by omega)]); omega
    refine l_aload_n rfl rfl ?_
    refine l_dup rfl rfl ?_
    refine l_gfi rfl rfl rfl rfl rfl ?_
    have w196 : (Xi U10 904 47) = (Xi S 904 47) := (show Xi U10 904 47 = Xi T7 904 47 from by rw [eU10]; exact Xi_ne (by omega)).trans ( (show Xi T7 904 47 = Xi T6 904 47 from w172.x _ _ rfl).trans ( (show Xi T6 904 47 = Xi U5 904 47 from w153.x _ _ rfl).trans ((show Xi U5 904 47 = Xi S 904 47 from by rw [eU5]; exact Xi_ne (by omega)))))
    rw [w196]
    refine l_iconst rfl ?_
    refine l_iadd rfl ?_
    refine l_pfi rfl rfl rfl rfl ?_
    obtain ⟨U11, eU11⟩ : ∃ T : sS, T = uI U10 904 47 (Int32.ofInt ((Xi S 904 47) + 1)) := ⟨_, rfl⟩
    rw [← eU11]
    have hHU11 : HI U11 := by rw [eU11]; exact HI_w hHU10 (show 0 ≤ ((Xi S 904 47) + 1) by omega) (show ((Xi S 904 47) + 1) ≤ 8 by omega)
    have hFU11 : FR md_mo_does__g S U11 := by rw [eU11]; exact FR.wI hFU10 (mdf_i (r := (904, 905, 47, 48)) (List.mem_of_getElem? (i := 8) rfl) (inR_i (by omega) (by omega) (by omega) (by omega)))
    have w197 : Xi U11 904 47 = ((Xi S 904 47) + 1) := by rw [eU11]; exact Xi_same (by unfold rg; omega)
    have x271 : LXK U11 S (Xi S 904 15) := x263.fr (FR_e eU11) rfl
    have G271 : GR U11 S := (GR.w (GR_FR (FR_e eU10) rfl (GR_FR w172 rfl (GR_FR w153 rfl (GR_FR (FR_e eU5) rfl GR.rf)))) eU11 (by unfold rg; omega) (by omega))
    have w271 : Xi U11 904 15 = Xi S 904 15 + 2 := by have t : Xi U11 904 15 = Xi U10 904 15 := (by rw [eU11, Xi_ne (by omega)]); omega
    have v271 : Xi U11 904 47 = Xi S 904 47 + 1 := by omega
    have c271 : Xi U11 914 (Xi S 904 15).toNat = 9 ∧ Xi U11 915 (Xi S 904 15).toNat = Xi S 904 47 := ⟨by rw [eU11, Xi_ne (by omega), eU10, Xi_ne (by omega)]; exact c226.1, by rw [eU11, Xi_ne (by omega), eU10, Xi_ne (by omega)]; exact c226.2⟩
    have d271 : Xi U11 914 (Xi S 904 15 + 1).toNat = 10 ∧ Xi U11 915 (Xi S 904 15 + 1).toNat = Xi S 904 47 := ⟨by rw [eU11, Xi_ne (by omega), eU10, Xi_ne (by omega)]; exact d226.1, by rw [eU11, Xi_ne (by omega), eU10, Xi_ne (by omega)]; exact d226.2⟩
    have M271 : LXM U11 := lxm_two hM x271 G271 (by omega) (by omega) (by rw [c271.1, c271.2, cM9]; omega) (by rw [d271.1, d271.2, cM10]; omega)
    have y271_16 : Xi U11 904 16 = Xi S 904 16 := ((show Xi U11 904 16 = Xi U10 904 16 from by rw [eU11]; exact Xi_ne (by omega)).trans ((show Xi U10 904 16 = Xi T7 904 16 from by rw [eU10]; exact Xi_ne (by omega)).trans ((show Xi T7 904 16 = Xi T6 904 16 from w172.x _ _ rfl).trans ((show Xi T6 904 16 = Xi U5 904 16 from w153.x _ _ rfl).trans ((show Xi U5 904 16 = Xi S 904 16 from by rw [eU5]; exact Xi_ne (by omega)))))))
    have y271_18 : Xi U11 904 18 = Xi S 904 18 := ((show Xi U11 904 18 = Xi U10 904 18 from by rw [eU11]; exact Xi_ne (by omega)).trans ((show Xi U10 904 18 = Xi T7 904 18 from by rw [eU10]; exact Xi_ne (by omega)).trans ((show Xi T7 904 18 = Xi T6 904 18 from w172.x _ _ rfl).trans ((show Xi T6 904 18 = Xi U5 904 18 from w153.x _ _ rfl).trans ((show Xi U5 904 18 = Xi S 904 18 from by rw [eU5]; exact Xi_ne (by omega)))))))
    have y271_19 : Xi U11 904 19 = Xi S 904 19 := ((show Xi U11 904 19 = Xi U10 904 19 from by rw [eU11]; exact Xi_ne (by omega)).trans ((show Xi U10 904 19 = Xi T7 904 19 from by rw [eU10]; exact Xi_ne (by omega)).trans ((show Xi T7 904 19 = Xi T6 904 19 from w172.x _ _ rfl).trans ((show Xi T6 904 19 = Xi U5 904 19 from w153.x _ _ rfl).trans ((show Xi U5 904 19 = Xi S 904 19 from by rw [eU5]; exact Xi_ne (by omega)))))))
    have y271_23 : Xi U11 904 23 = Xi S 904 23 := ((show Xi U11 904 23 = Xi U10 904 23 from by rw [eU11]; exact Xi_ne (by omega)).trans ((show Xi U10 904 23 = Xi T7 904 23 from by rw [eU10]; exact Xi_ne (by omega)).trans ((show Xi T7 904 23 = Xi T6 904 23 from w172.x _ _ rfl).trans ((show Xi T6 904 23 = Xi U5 904 23 from w153.x _ _ rfl).trans ((show Xi U5 904 23 = Xi S 904 23 from by rw [eU5]; exact Xi_ne (by omega)))))))
    have y271_30 : Xi U11 904 30 = Xi S 904 30 := ((show Xi U11 904 30 = Xi U10 904 30 from by rw [eU11]; exact Xi_ne (by omega)).trans ((show Xi U10 904 30 = Xi T7 904 30 from by rw [eU10]; exact Xi_ne (by omega)).trans ((show Xi T7 904 30 = Xi T6 904 30 from w172.x _ _ rfl).trans ((show Xi T6 904 30 = Xi U5 904 30 from w153.x _ _ rfl).trans ((show Xi U5 904 30 = Xi S 904 30 from by rw [eU5]; exact Xi_ne (by omega)))))))
    have y271_32 : Xi U11 904 32 = Xi S 904 32 := ((show Xi U11 904 32 = Xi U10 904 32 from by rw [eU11]; exact Xi_ne (by omega)).trans ((show Xi U10 904 32 = Xi T7 904 32 from by rw [eU10]; exact Xi_ne (by omega)).trans ((show Xi T7 904 32 = Xi T6 904 32 from w172.x _ _ rfl).trans ((show Xi T6 904 32 = Xi U5 904 32 from w153.x _ _ rfl).trans ((show Xi U5 904 32 = Xi S 904 32 from by rw [eU5]; exact Xi_ne (by omega)))))))
    have y271_41 : Xi U11 904 41 = Xi S 904 41 := ((show Xi U11 904 41 = Xi U10 904 41 from by rw [eU11]; exact Xi_ne (by omega)).trans ((show Xi U10 904 41 = Xi T7 904 41 from by rw [eU10]; exact Xi_ne (by omega)).trans ((show Xi T7 904 41 = Xi T6 904 41 from w172.x _ _ rfl).trans ((show Xi T6 904 41 = Xi U5 904 41 from w153.x _ _ rfl).trans ((show Xi U5 904 41 = Xi S 904 41 from by rw [eU5]; exact Xi_ne (by omega)))))))
    have y271_49 : Xi U11 904 49 = Xi S 904 49 := ((show Xi U11 904 49 = Xi U10 904 49 from by rw [eU11]; exact Xi_ne (by omega)).trans ((show Xi U10 904 49 = Xi T7 904 49 from by rw [eU10]; exact Xi_ne (by omega)).trans ((show Xi T7 904 49 = Xi T6 904 49 from w172.x _ _ rfl).trans ((show Xi T6 904 49 = Xi U5 904 49 from w153.x _ _ rfl).trans ((show Xi U5 904 49 = Xi S 904 49 from by rw [eU5]; exact Xi_ne (by omega)))))))
    have L271 : LCN U11 := lcn_i hLC (pls_le x271 (by omega) (by omega) (by omega)) (by omega)
    refine l_goto rfl rfl ?_
    refine l_return rfl rfl ?_
    have w198 : Xi U11 904 117 = Xi S 904 117 := (show Xi U11 904 117 = Xi U10 904 117 from by rw [eU11]; exact Xi_ne (by omega)).trans ( (show Xi U10 904 117 = Xi T7 904 117 from by rw [eU10]; exact Xi_ne (by omega)).trans ( (show Xi T7 904 117 = Xi T6 904 117 from w172.x _ _ rfl).trans ( (show Xi T6 904 117 = Xi U5 904 117 from w153.x _ _ rfl).trans ((show Xi U5 904 117 = Xi S 904 117 from by rw [eU5]; exact Xi_ne (by omega))))))
    have w200 : Xi U11 904 15 = Xi T7 904 15 := (show Xi U11 904 15 = Xi U10 904 15 from by rw [eU11]; exact Xi_ne (by omega)).trans ((show Xi U10 904 15 = Xi T7 904 15 from by rw [eU10]; exact Xi_ne (by omega)))
    have w201 : 0 ≤ Xi T7 904 15 ∧ Xi T7 904 15 ≤ 300 := hHT7.c _ _
    have w202 : Xi U11 904 16 = Xi S 904 16 := (show Xi U11 904 16 = Xi U10 904 16 from by rw [eU11]; exact Xi_ne (by omega)).trans ( (show Xi U10 904 16 = Xi T7 904 16 from by rw [eU10]; exact Xi_ne (by omega)).trans ( (show Xi T7 904 16 = Xi T6 904 16 from w172.x _ _ rfl).trans ( (show Xi T6 904 16 = Xi U5 904 16 from w153.x _ _ rfl).trans ((show Xi U5 904 16 = Xi S 904 16 from by rw [eU5]; exact Xi_ne (by omega))))))
    have w204 : Xi U11 904 19 = Xi S 904 19 := (show Xi U11 904 19 = Xi U10 904 19 from by rw [eU11]; exact Xi_ne (by omega)).trans ( (show Xi U10 904 19 = Xi T7 904 19 from by rw [eU10]; exact Xi_ne (by omega)).trans ( (show Xi T7 904 19 = Xi T6 904 19 from w172.x _ _ rfl).trans ( (show Xi T6 904 19 = Xi U5 904 19 from w153.x _ _ rfl).trans ((show Xi U5 904 19 = Xi S 904 19 from by rw [eU5]; exact Xi_ne (by omega))))))
    have w206 : Xi U11 904 23 = Xi S 904 23 := (show Xi U11 904 23 = Xi U10 904 23 from by rw [eU11]; exact Xi_ne (by omega)).trans ( (show Xi U10 904 23 = Xi T7 904 23 from by rw [eU10]; exact Xi_ne (by omega)).trans ( (show Xi T7 904 23 = Xi T6 904 23 from w172.x _ _ rfl).trans ( (show Xi T6 904 23 = Xi U5 904 23 from w153.x _ _ rfl).trans ((show Xi U5 904 23 = Xi S 904 23 from by rw [eU5]; exact Xi_ne (by omega))))))
    have w208 : Xi U11 904 60 = Xi S 904 60 := (show Xi U11 904 60 = Xi U10 904 60 from by rw [eU11]; exact Xi_ne (by omega)).trans ( (show Xi U10 904 60 = Xi T7 904 60 from by rw [eU10]; exact Xi_ne (by omega)).trans ( (show Xi T7 904 60 = Xi T6 904 60 from w172.x _ _ rfl).trans ( (show Xi T6 904 60 = Xi U5 904 60 from w153.x _ _ rfl).trans ((show Xi U5 904 60 = Xi S 904 60 from by rw [eU5]; exact Xi_ne (by omega))))))
    exact ⟨hHU11, hFU11, rfl, (⟨by first | assumption | exact (TXM_FR (FR_e eU11) rfl (TXM_FR (FR_e eU10) rfl (TXM_FR w172 rfl (TXM_FR w153 rfl (TXM_FR (FR_e eU5) rfl (by assumption : TXM S)))))), by first | assumption | exact (WYM_FR (FR_e eU11) rfl (WYM_FR (FR_e eU10) rfl (WYM_FR w172 rfl (WYM_FR w153 rfl (WYM_FR (FR_e eU5) rfl (by assumption : WYM S)))))), by first | assumption | exact (by assumption : LXM U11), by first | assumption | exact (by assumption : LCN U11), by first | assumption | exact (ABV_FR (FR_e eU11) rfl (ABV_FR (FR_e eU10) rfl (ABV_FR w172 rfl (ABV_FR w153 rfl (ABV_FR (FR_e eU5) rfl (by assumption : ABV S)))))), by first | assumption | exact (DCM_FR (FR_e eU11) rfl (DCM_FR (FR_e eU10) rfl (DCM_FR w172 rfl (DCM_FR w153 rfl (DCM_FR (FR_e eU5) rfl (by assumption : DCM S)))))), by first | assumption | exact (VTM_FR (FR_e eU11) rfl (VTM_FR (FR_e eU10) rfl (VTM_FR w172 rfl (VTM_FR w153 rfl (VTM_FR (FR_e eU5) rfl (by assumption : VTM S)))))), by first | assumption | exact (VCN_FR (FR_e eU11) rfl (VCN_FR (FR_e eU10) rfl (VCN_FR w172 rfl (VCN_FR w153 rfl (VCN_FR (FR_e eU5) rfl (by assumption : VCN S)))))), by first | assumption | exact (WYD_FR (FR_e eU11) rfl (WYD_FR (FR_e eU10) rfl (WYD_FR w172 rfl (WYD_FR w153 rfl (WYD_FR (FR_e eU5) rfl (by assumption : WYD S)))))), by first | assumption | exact (by assumption : RDT U11) | exact rdt_df hRD (GR.w (GR_FR (FR_e eU10) rfl (GR_FR w172 rfl (GR_FR w153 rfl (GR_FR (FR_e eU5) rfl GR.rf)))) eU11 (by unfold rg; omega) (by omega)) df153 (by omega) (by omega) (by omega) (hFU11.x 904 125 rfl) (hFU11.x 904 130 rfl) (smk_q9 hFU11 rfl) dn153 | exact rdt_gr hRD (by first | assumption | exact (GR.w (GR_FR (FR_e eU10) rfl (GR_FR w172 rfl (GR_FR w153 rfl (GR_FR (FR_e eU5) rfl GR.rf)))) eU11 (by unfold rg; omega) (by omega))) (by omega) (hFU11.x 904 125 rfl) (hFU11.x 904 130 rfl) (smk_q9 hFU11 rfl) (fun a x y => absurd y (by omega)), akr_gr hAK (by first | assumption | exact (GR.w (GR_FR (FR_e eU10) rfl (GR_FR w172 rfl (GR_FR w153 rfl (GR_FR (FR_e eU5) rfl GR.rf)))) eU11 (by unfold rg; omega) (by omega))), by first | omega | (have g := (by first | assumption | exact (GR.w (GR_FR (FR_e eU10) rfl (GR_FR w172 rfl (GR_FR w153 rfl (GR_FR (FR_e eU5) rfl GR.rf)))) eU11 (by unfold rg; omega) (by omega)) : GR U11 S); have t := g.1; omega), by first | omega | (have g := (by first | assumption | exact (GR.w (GR_FR (FR_e eU10) rfl (GR_FR w172 rfl (GR_FR w153 rfl (GR_FR (FR_e eU5) rfl GR.rf)))) eU11 (by unfold rg; omega) (by omega)) : GR U11 S); have t := g.1; omega)⟩), (by first | assumption | exact (GR.w (GR_FR (FR_e eU10) rfl (GR_FR w172 rfl (GR_FR w153 rfl (GR_FR (FR_e eU5) rfl GR.rf)))) eU11 (by unfold rg; omega) (by omega)))⟩
set_option maxRecDepth 100000 in
set_option maxHeartbeats 1000000 in
theorem c277_mo_does__g {S : sS} (hH : HI S) (n : Nat) (first : Int) (hfirst : 0 ≤ first ∧ first ≤ 5001) (hT : TK S n) (hv : RNV S n) (hK : TXK S n) (hI : TIX S) (hq : SNQ S n) (hk : DOK S) (h11 : Xi S 904 70 = 11 → -1 ≤ Xi S 904 78) (d : Nat) : (Xi S 904 70 = 8) → Rl lay0 (d + 7) m_mo_does 277 [(0, .ref 904)] [] S (Q_mo_does__g S n first) := by
  have hF : FR md_mo_does__g S S := FR.rf
  have w1 : 0 ≤ Xi S 904 117 ∧ Xi S 904 117 ≤ 480 := hH.c _ _
  have w2 : 0 ≤ Xi S 904 15 ∧ Xi S 904 15 ≤ 300 := hH.c _ _
  have w3 : 0 ≤ Xi S 904 16 ∧ Xi S 904 16 ≤ 16 := hH.c _ _
  have w4 : 0 ≤ Xi S 904 18 ∧ Xi S 904 18 ≤ 8 := hH.c _ _
  have w5 : 0 ≤ Xi S 904 19 ∧ Xi S 904 19 ≤ 24 := hH.c _ _
  have w6 : 0 ≤ Xi S 904 23 ∧ Xi S 904 23 ≤ 24 := hH.c _ _
  have w7 : 0 ≤ Xi S 904 30 ∧ Xi S 904 30 ≤ 64 := hH.c _ _
  have w8 : 0 ≤ Xi S 904 32 ∧ Xi S 904 32 ≤ 12 := hH.c _ _
  have w9 : 0 ≤ Xi S 904 41 ∧ Xi S 904 41 ≤ 6 := hH.c _ _
  have w10 : 0 ≤ Xi S 904 47 ∧ Xi S 904 47 ≤ 8 := hH.c _ _
  have w11 : 0 ≤ Xi S 904 49 ∧ Xi S 904 49 ≤ 12 := hH.c _ _
  have w12 : -1 ≤ Xi S 904 60 ∧ Xi S 904 60 ≤ 23 := hH.c _ _
  have w13 : 0 ≤ Xi S 904 69 ∧ Xi S 904 69 ≤ 2600 := hH.c _ _
  have w14 : 0 ≤ Xi S 904 70 ∧ Xi S 904 70 ≤ 20 := hH.c _ _
  have w15 : 0 ≤ Xi S 904 71 ∧ Xi S 904 71 ≤ 2600 := hH.c _ _
  have w16 : 0 ≤ Xi S 904 72 ∧ Xi S 904 72 ≤ 2600 := hH.c _ _
  have w17 : -2 ≤ Xi S 904 78 ∧ Xi S 904 78 ≤ 5010 := hH.c _ _
  have hX : TXM S := hI.1
  have hW : WYM S := hI.2.1
  have hM : LXM S := hI.2.2.1
  have hLC : LCN S := hI.2.2.2.1
  have hB : ABV S := hI.2.2.2.2.1
  have hC : DCM S := hI.2.2.2.2.2.1
  have hV : VTM S := hI.2.2.2.2.2.2.1
  have hVC : VCN S := hI.2.2.2.2.2.2.2.1
  have hWD : WYD S := hI.2.2.2.2.2.2.2.2.1
  have hRD : RDT S := hI.2.2.2.2.2.2.2.2.2.1
  have hAK : AKR S := hI.2.2.2.2.2.2.2.2.2.2.1
  have hd6 : Xi S 904 60 < Xi S 904 19 := hI.2.2.2.2.2.2.2.2.2.2.2.1
  have h16 : 2 ≤ Xi S 904 16 := hI.2.2.2.2.2.2.2.2.2.2.2.2
  have h32 : 1 ≤ Xi S 904 32 := hAK.2.2.2.2.2.2.2
  have hn5 := hT.1
  have hc69 : 0 ≤ Xi S 904 69 ∧ Xi S 904 69 ≤ 2600 := hH.c _ _
  have hc70 : 0 ≤ Xi S 904 70 ∧ Xi S 904 70 ≤ 20 := hH.c _ _
  have hc16 : 0 ≤ Xi S 904 16 ∧ Xi S 904 16 ≤ 16 := hH.c _ _
  have hc18 : 0 ≤ Xi S 904 18 ∧ Xi S 904 18 ≤ 8 := hH.c _ _
  have hc19 : 0 ≤ Xi S 904 19 ∧ Xi S 904 19 ≤ 24 := hH.c _ _
  have hc23 : 0 ≤ Xi S 904 23 ∧ Xi S 904 23 ≤ 24 := hH.c _ _
  have hc30 : 0 ≤ Xi S 904 30 ∧ Xi S 904 30 ≤ 64 := hH.c _ _
  have hc32 : 0 ≤ Xi S 904 32 ∧ Xi S 904 32 ≤ 12 := hH.c _ _
  have hc41 : 0 ≤ Xi S 904 41 ∧ Xi S 904 41 ≤ 6 := hH.c _ _
  have hc47 : 0 ≤ Xi S 904 47 ∧ Xi S 904 47 ≤ 8 := hH.c _ _
  have hc49 : 0 ≤ Xi S 904 49 ∧ Xi S 904 49 ≤ 12 := hH.c _ _
  have hc15 : 0 ≤ Xi S 904 15 ∧ Xi S 904 15 ≤ 300 := hH.c _ _
  have hc117 : 0 ≤ Xi S 904 117 ∧ Xi S 904 117 ≤ 480 := hH.c _ _
  have hc125 : 0 ≤ Xi S 904 125 ∧ Xi S 904 125 ≤ 192 := hH.c _ _
  have hc130 : 0 ≤ Xi S 904 130 ∧ Xi S 904 130 ≤ 24 := hH.c _ _
  have hl9 := lcn_le hH hLC
  intro w210
  refine l_aload_n rfl rfl ?_
  have d277 := hk.2.2.2.2.1 (by omega)
  have s277 := hq.2.2.1 (by omega)
  have w218 : 0 ≤ Xi S 951 1 ∧ Xi S 951 1 ≤ 5010 := hH.c _ _
  refine l_callV rfl rfl rfl (t_mo_doPlural hH n (by first | assumption | exact (TK_FR hF rfl (by assumption : TK S _))) (by first | assumption | exact (RNV_FR hF rfl (by assumption : RNV S _))) (by first | assumption | exact (by assumption : LXM S)) (by first | assumption | exact (by assumption : LCN S)) (s277) (d277.1) (d277.2) _) ?_
  rintro _ T12 ⟨hHT12, w222, rfl, w219, w220⟩
  have hFT12 : FR md_mo_does__g S T12 := FR.tr hF w222 rfl
  show Rl _ _ _ _ _ [] _ _
  refine l_goto rfl rfl ?_
  refine l_return rfl rfl ?_
  have w223 : Xi T12 904 117 = Xi S 904 117 := (show Xi T12 904 117 = Xi S 904 117 from w222.x _ _ rfl)
  have w225 : 0 ≤ Xi T12 904 15 ∧ Xi T12 904 15 ≤ 300 := hHT12.c _ _
  have w226 : Xi T12 904 16 = Xi S 904 16 := (show Xi T12 904 16 = Xi S 904 16 from w222.x _ _ rfl)
  have w228 : Xi T12 904 19 = Xi S 904 19 := (show Xi T12 904 19 = Xi S 904 19 from w222.x _ _ rfl)
  have w230 : Xi T12 904 23 = Xi S 904 23 := (show Xi T12 904 23 = Xi S 904 23 from w222.x _ _ rfl)
  have w232 : Xi T12 904 60 = Xi S 904 60 := (show Xi T12 904 60 = Xi S 904 60 from w222.x _ _ rfl)
  exact ⟨hHT12, hFT12, rfl, (⟨by first | assumption | exact (TXM_FR w222 rfl (by assumption : TXM S)), by first | assumption | exact (WYM_FR w222 rfl (by assumption : WYM S)), by first | assumption | exact (by assumption : LXM T12), by first | assumption | exact (by assumption : LCN T12), by first | assumption | exact (ABV_FR w222 rfl (by assumption : ABV S)), by first | assumption | exact (DCM_FR w222 rfl (by assumption : DCM S)), by first | assumption | exact (VTM_FR w222 rfl (by assumption : VTM S)), by first | assumption | exact (VCN_FR w222 rfl (by assumption : VCN S)), by first | assumption | exact (WYD_FR w222 rfl (by assumption : WYD S)), by first | assumption | exact (RDT_FR hH w222 rfl rfl rfl (by assumption : RDT S)) | exact rdt_df hRD (GR_FR w222 rfl GR.rf) df153 (by omega) (by omega) (by omega) (hFT12.x 904 125 rfl) (hFT12.x 904 130 rfl) (smk_q9 hFT12 rfl) dn153 | exact rdt_gr hRD (by first | assumption | exact (GR_FR w222 rfl GR.rf)) (by omega) (hFT12.x 904 125 rfl) (hFT12.x 904 130 rfl) (smk_q9 hFT12 rfl) (fun a x y => absurd y (by omega)), akr_gr hAK (by first | assumption | exact (GR_FR w222 rfl GR.rf)), by first | omega | (have g := (by first | assumption | exact (GR_FR w222 rfl GR.rf) : GR T12 S); have t := g.1; omega), by first | omega | (have g := (by first | assumption | exact (GR_FR w222 rfl GR.rf) : GR T12 S); have t := g.1; omega)⟩), (by first | assumption | exact (GR_FR w222 rfl GR.rf))⟩
set_option maxRecDepth 100000 in
set_option maxHeartbeats 1000000 in
theorem c284_mo_does__g {S : sS} (hH : HI S) (n : Nat) (first : Int) (hfirst : 0 ≤ first ∧ first ≤ 5001) (hT : TK S n) (hv : RNV S n) (hK : TXK S n) (hI : TIX S) (hq : SNQ S n) (hk : DOK S) (h11 : Xi S 904 70 = 11 → -1 ≤ Xi S 904 78) (d : Nat) : (Xi S 904 70 = 9) → Rl lay0 (d + 7) m_mo_does 284 [(0, .ref 904)] [] S (Q_mo_does__g S n first) := by
  have hF : FR md_mo_does__g S S := FR.rf
  have w1 : 0 ≤ Xi S 904 117 ∧ Xi S 904 117 ≤ 480 := hH.c _ _
  have w2 : 0 ≤ Xi S 904 15 ∧ Xi S 904 15 ≤ 300 := hH.c _ _
  have w3 : 0 ≤ Xi S 904 16 ∧ Xi S 904 16 ≤ 16 := hH.c _ _
  have w4 : 0 ≤ Xi S 904 18 ∧ Xi S 904 18 ≤ 8 := hH.c _ _
  have w5 : 0 ≤ Xi S 904 19 ∧ Xi S 904 19 ≤ 24 := hH.c _ _
  have w6 : 0 ≤ Xi S 904 23 ∧ Xi S 904 23 ≤ 24 := hH.c _ _
  have w7 : 0 ≤ Xi S 904 30 ∧ Xi S 904 30 ≤ 64 := hH.c _ _
  have w8 : 0 ≤ Xi S 904 32 ∧ Xi S 904 32 ≤ 12 := hH.c _ _
  have w9 : 0 ≤ Xi S 904 41 ∧ Xi S 904 41 ≤ 6 := hH.c _ _
  have w10 : 0 ≤ Xi S 904 47 ∧ Xi S 904 47 ≤ 8 := hH.c _ _
  have w11 : 0 ≤ Xi S 904 49 ∧ Xi S 904 49 ≤ 12 := hH.c _ _
  have w12 : -1 ≤ Xi S 904 60 ∧ Xi S 904 60 ≤ 23 := hH.c _ _
  have w13 : 0 ≤ Xi S 904 69 ∧ Xi S 904 69 ≤ 2600 := hH.c _ _
  have w14 : 0 ≤ Xi S 904 70 ∧ Xi S 904 70 ≤ 20 := hH.c _ _
  have w15 : 0 ≤ Xi S 904 71 ∧ Xi S 904 71 ≤ 2600 := hH.c _ _
  have w16 : 0 ≤ Xi S 904 72 ∧ Xi S 904 72 ≤ 2600 := hH.c _ _
  have w17 : -2 ≤ Xi S 904 78 ∧ Xi S 904 78 ≤ 5010 := hH.c _ _
  have hX : TXM S := hI.1
  have hW : WYM S := hI.2.1
  have hM : LXM S := hI.2.2.1
  have hLC : LCN S := hI.2.2.2.1
  have hB : ABV S := hI.2.2.2.2.1
  have hC : DCM S := hI.2.2.2.2.2.1
  have hV : VTM S := hI.2.2.2.2.2.2.1
  have hVC : VCN S := hI.2.2.2.2.2.2.2.1
  have hWD : WYD S := hI.2.2.2.2.2.2.2.2.1
  have hRD : RDT S := hI.2.2.2.2.2.2.2.2.2.1
  have hAK : AKR S := hI.2.2.2.2.2.2.2.2.2.2.1
  have hd6 : Xi S 904 60 < Xi S 904 19 := hI.2.2.2.2.2.2.2.2.2.2.2.1
  have h16 : 2 ≤ Xi S 904 16 := hI.2.2.2.2.2.2.2.2.2.2.2.2
  have h32 : 1 ≤ Xi S 904 32 := hAK.2.2.2.2.2.2.2
  have hn5 := hT.1
  have hc69 : 0 ≤ Xi S 904 69 ∧ Xi S 904 69 ≤ 2600 := hH.c _ _
  have hc70 : 0 ≤ Xi S 904 70 ∧ Xi S 904 70 ≤ 20 := hH.c _ _
  have hc16 : 0 ≤ Xi S 904 16 ∧ Xi S 904 16 ≤ 16 := hH.c _ _
  have hc18 : 0 ≤ Xi S 904 18 ∧ Xi S 904 18 ≤ 8 := hH.c _ _
  have hc19 : 0 ≤ Xi S 904 19 ∧ Xi S 904 19 ≤ 24 := hH.c _ _
  have hc23 : 0 ≤ Xi S 904 23 ∧ Xi S 904 23 ≤ 24 := hH.c _ _
  have hc30 : 0 ≤ Xi S 904 30 ∧ Xi S 904 30 ≤ 64 := hH.c _ _
  have hc32 : 0 ≤ Xi S 904 32 ∧ Xi S 904 32 ≤ 12 := hH.c _ _
  have hc41 : 0 ≤ Xi S 904 41 ∧ Xi S 904 41 ≤ 6 := hH.c _ _
  have hc47 : 0 ≤ Xi S 904 47 ∧ Xi S 904 47 ≤ 8 := hH.c _ _
  have hc49 : 0 ≤ Xi S 904 49 ∧ Xi S 904 49 ≤ 12 := hH.c _ _
  have hc15 : 0 ≤ Xi S 904 15 ∧ Xi S 904 15 ≤ 300 := hH.c _ _
  have hc117 : 0 ≤ Xi S 904 117 ∧ Xi S 904 117 ≤ 480 := hH.c _ _
  have hc125 : 0 ≤ Xi S 904 125 ∧ Xi S 904 125 ≤ 192 := hH.c _ _
  have hc130 : 0 ≤ Xi S 904 130 ∧ Xi S 904 130 ≤ 24 := hH.c _ _
  have hl9 := lcn_le hH hLC
  intro w234
  refine l_aload_n rfl rfl ?_
  have d284 := hk.2.2.2.2.2.1 (by omega)
  have s284 := hq.2.2.1 (by omega)
  refine l_callV rfl rfl rfl (t_mo_doProperty hH n (by first | assumption | exact (TK_FR hF rfl (by assumption : TK S _))) (by first | assumption | exact (RNV_FR hF rfl (by assumption : RNV S _))) (by first | assumption | exact (by assumption : LXM S)) (by first | assumption | exact (by assumption : TXM S)) (s284) (d284.1) (d284.2.1) (d284.2.2) _) ?_
  rintro _ T13 ⟨hHT13, w244, rfl, w242⟩
  have hFT13 : FR md_mo_does__g S T13 := FR.tr hF w244 rfl
  show Rl _ _ _ _ _ [] _ _
  refine l_goto rfl rfl ?_
  refine l_return rfl rfl ?_
  have w245 : Xi T13 904 117 = Xi S 904 117 := (show Xi T13 904 117 = Xi S 904 117 from w244.x _ _ rfl)
  have w247 : Xi T13 904 15 = Xi S 904 15 := (show Xi T13 904 15 = Xi S 904 15 from w244.x _ _ rfl)
  have w249 : Xi T13 904 16 = Xi S 904 16 := (show Xi T13 904 16 = Xi S 904 16 from w244.x _ _ rfl)
  have w251 : Xi T13 904 19 = Xi S 904 19 := (show Xi T13 904 19 = Xi S 904 19 from w244.x _ _ rfl)
  have w253 : Xi T13 904 23 = Xi S 904 23 := (show Xi T13 904 23 = Xi S 904 23 from w244.x _ _ rfl)
  have w255 : Xi T13 904 60 = Xi S 904 60 := (show Xi T13 904 60 = Xi S 904 60 from w244.x _ _ rfl)
  exact ⟨hHT13, hFT13, rfl, (⟨by first | assumption | exact (by assumption : TXM T13), by first | assumption | exact (WYM_FR w244 rfl (by assumption : WYM S)), by first | assumption | exact (LXM_FR w244 rfl (by assumption : LXM S)), by first | assumption | exact (LCN_FR w244 rfl (by assumption : LCN S)), by first | assumption | exact (ABV_FR w244 rfl (by assumption : ABV S)), by first | assumption | exact (DCM_FR w244 rfl (by assumption : DCM S)), by first | assumption | exact (VTM_FR w244 rfl (by assumption : VTM S)), by first | assumption | exact (VCN_FR w244 rfl (by assumption : VCN S)), by first | assumption | exact (WYD_FR w244 rfl (by assumption : WYD S)), by first | assumption | exact (RDT_FR hH w244 rfl rfl rfl (by assumption : RDT S)) | exact rdt_df hRD (GR_FR w244 rfl GR.rf) df153 (by omega) (by omega) (by omega) (hFT13.x 904 125 rfl) (hFT13.x 904 130 rfl) (smk_q9 hFT13 rfl) dn153 | exact rdt_gr hRD (by first | assumption | exact (GR_FR w244 rfl GR.rf)) (by omega) (hFT13.x 904 125 rfl) (hFT13.x 904 130 rfl) (smk_q9 hFT13 rfl) (fun a x y => absurd y (by omega)), akr_gr hAK (by first | assumption | exact (GR_FR w244 rfl GR.rf)), by first | omega | (have g := (by first | assumption | exact (GR_FR w244 rfl GR.rf) : GR T13 S); have t := g.1; omega), by first | omega | (have g := (by first | assumption | exact (GR_FR w244 rfl GR.rf) : GR T13 S); have t := g.1; omega)⟩), (by first | assumption | exact (GR_FR w244 rfl GR.rf))⟩
set_option maxRecDepth 100000 in
set_option maxHeartbeats 1000000 in
theorem c291_mo_does__g {S : sS} (hH : HI S) (n : Nat) (first : Int) (hfirst : 0 ≤ first ∧ first ≤ 5001) (hT : TK S n) (hv : RNV S n) (hK : TXK S n) (hI : TIX S) (hq : SNQ S n) (hk : DOK S) (h11 : Xi S 904 70 = 11 → -1 ≤ Xi S 904 78) (d : Nat) : (Xi S 904 70 = 10) → Rl lay0 (d + 7) m_mo_does 291 [(0, .ref 904)] [] S (Q_mo_does__g S n first) := by
  have hF : FR md_mo_does__g S S := FR.rf
  have w1 : 0 ≤ Xi S 904 117 ∧ Xi S 904 117 ≤ 480 := hH.c _ _
  have w2 : 0 ≤ Xi S 904 15 ∧ Xi S 904 15 ≤ 300 := hH.c _ _
  have w3 : 0 ≤ Xi S 904 16 ∧ Xi S 904 16 ≤ 16 := hH.c _ _
  have w4 : 0 ≤ Xi S 904 18 ∧ Xi S 904 18 ≤ 8 := hH.c _ _
  have w5 : 0 ≤ Xi S 904 19 ∧ Xi S 904 19 ≤ 24 := hH.c _ _
  have w6 : 0 ≤ Xi S 904 23 ∧ Xi S 904 23 ≤ 24 := hH.c _ _
  have w7 : 0 ≤ Xi S 904 30 ∧ Xi S 904 30 ≤ 64 := hH.c _ _
  have w8 : 0 ≤ Xi S 904 32 ∧ Xi S 904 32 ≤ 12 := hH.c _ _
  have w9 : 0 ≤ Xi S 904 41 ∧ Xi S 904 41 ≤ 6 := hH.c _ _
  have w10 : 0 ≤ Xi S 904 47 ∧ Xi S 904 47 ≤ 8 := hH.c _ _
  have w11 : 0 ≤ Xi S 904 49 ∧ Xi S 904 49 ≤ 12 := hH.c _ _
  have w12 : -1 ≤ Xi S 904 60 ∧ Xi S 904 60 ≤ 23 := hH.c _ _
  have w13 : 0 ≤ Xi S 904 69 ∧ Xi S 904 69 ≤ 2600 := hH.c _ _
  have w14 : 0 ≤ Xi S 904 70 ∧ Xi S 904 70 ≤ 20 := hH.c _ _
  have w15 : 0 ≤ Xi S 904 71 ∧ Xi S 904 71 ≤ 2600 := hH.c _ _
  have w16 : 0 ≤ Xi S 904 72 ∧ Xi S 904 72 ≤ 2600 := hH.c _ _
  have w17 : -2 ≤ Xi S 904 78 ∧ Xi S 904 78 ≤ 5010 := hH.c _ _
  have hX : TXM S := hI.1
  have hW : WYM S := hI.2.1
  have hM : LXM S := hI.2.2.1
  have hLC : LCN S := hI.2.2.2.1
  have hB : ABV S := hI.2.2.2.2.1
  have hC : DCM S := hI.2.2.2.2.2.1
  have hV : VTM S := hI.2.2.2.2.2.2.1
  have hVC : VCN S := hI.2.2.2.2.2.2.2.1
  have hWD : WYD S := hI.2.2.2.2.2.2.2.2.1
  have hRD : RDT S := hI.2.2.2.2.2.2.2.2.2.1
  have hAK : AKR S := hI.2.2.2.2.2.2.2.2.2.2.1
  have hd6 : Xi S 904 60 < Xi S 904 19 := hI.2.2.2.2.2.2.2.2.2.2.2.1
  have h16 : 2 ≤ Xi S 904 16 := hI.2.2.2.2.2.2.2.2.2.2.2.2
  have h32 : 1 ≤ Xi S 904 32 := hAK.2.2.2.2.2.2.2
  have hn5 := hT.1
  have hc69 : 0 ≤ Xi S 904 69 ∧ Xi S 904 69 ≤ 2600 := hH.c _ _
  have hc70 : 0 ≤ Xi S 904 70 ∧ Xi S 904 70 ≤ 20 := hH.c _ _
  have hc16 : 0 ≤ Xi S 904 16 ∧ Xi S 904 16 ≤ 16 := hH.c _ _
  have hc18 : 0 ≤ Xi S 904 18 ∧ Xi S 904 18 ≤ 8 := hH.c _ _
  have hc19 : 0 ≤ Xi S 904 19 ∧ Xi S 904 19 ≤ 24 := hH.c _ _
  have hc23 : 0 ≤ Xi S 904 23 ∧ Xi S 904 23 ≤ 24 := hH.c _ _
  have hc30 : 0 ≤ Xi S 904 30 ∧ Xi S 904 30 ≤ 64 := hH.c _ _
  have hc32 : 0 ≤ Xi S 904 32 ∧ Xi S 904 32 ≤ 12 := hH.c _ _
  have hc41 : 0 ≤ Xi S 904 41 ∧ Xi S 904 41 ≤ 6 := hH.c _ _
  have hc47 : 0 ≤ Xi S 904 47 ∧ Xi S 904 47 ≤ 8 := hH.c _ _
  have hc49 : 0 ≤ Xi S 904 49 ∧ Xi S 904 49 ≤ 12 := hH.c _ _
  have hc15 : 0 ≤ Xi S 904 15 ∧ Xi S 904 15 ≤ 300 := hH.c _ _
  have hc117 : 0 ≤ Xi S 904 117 ∧ Xi S 904 117 ≤ 480 := hH.c _ _
  have hc125 : 0 ≤ Xi S 904 125 ∧ Xi S 904 125 ≤ 192 := hH.c _ _
  have hc130 : 0 ≤ Xi S 904 130 ∧ Xi S 904 130 ≤ 24 := hH.c _ _
  have hl9 := lcn_le hH hLC
  intro w257
  refine l_aload_n rfl rfl ?_
  have d291 := hk.2.2.2.2.2.2.1 (by omega)
  have s291 := hq.2.2.2.2.2.1 (by omega)
  have x291 := hq.2.2.2.2.2.2.1 (by omega)
  refine l_callV rfl rfl rfl (t_mo_doKinds hH n (by first | assumption | exact (TK_FR hF rfl (by assumption : TK S _))) (by first | assumption | exact (RNV_FR hF rfl (by assumption : RNV S _))) (by first | assumption | exact (by assumption : LXM S)) (by first | assumption | exact (by assumption : TXM S)) (by first | assumption | exact (by assumption : LCN S)) (by first | assumption | exact (by assumption : ABV S)) (s291.1) (x291) (d291.1) (d291.2.1) (d291.2.2.1) (d291.2.2.2) (by omega) _) ?_
  rintro _ T14 ⟨hHT14, w275, rfl, w269, w270, w271, w272, w273⟩
  have hFT14 : FR md_mo_does__g S T14 := FR.tr hF w275 rfl
  show Rl _ _ _ _ _ [] _ _
  refine l_goto rfl rfl ?_
  refine l_return rfl rfl ?_
  have w276 : Xi T14 904 117 = Xi S 904 117 := (show Xi T14 904 117 = Xi S 904 117 from w275.x _ _ rfl)
  have w278 : 0 ≤ Xi T14 904 15 ∧ Xi T14 904 15 ≤ 300 := hHT14.c _ _
  have w279 : 0 ≤ Xi T14 904 16 ∧ Xi T14 904 16 ≤ 16 := hHT14.c _ _
  have w280 : Xi T14 904 19 = Xi S 904 19 := (show Xi T14 904 19 = Xi S 904 19 from w275.x _ _ rfl)
  have w282 : Xi T14 904 23 = Xi S 904 23 := (show Xi T14 904 23 = Xi S 904 23 from w275.x _ _ rfl)
  have w284 : Xi T14 904 60 = Xi S 904 60 := (show Xi T14 904 60 = Xi S 904 60 from w275.x _ _ rfl)
  exact ⟨hHT14, hFT14, rfl, (⟨by first | assumption | exact (by assumption : TXM T14), by first | assumption | exact (WYM_FR w275 rfl (by assumption : WYM S)), by first | assumption | exact (by assumption : LXM T14), by first | assumption | exact (by assumption : LCN T14), by first | assumption | exact (by assumption : ABV T14), by first | assumption | exact (DCM_FR w275 rfl (by assumption : DCM S)), by first | assumption | exact (VTM_FR w275 rfl (by assumption : VTM S)), by first | assumption | exact (VCN_FR w275 rfl (by assumption : VCN S)), by first | assumption | exact (WYD_FR w275 rfl (by assumption : WYD S)), by first | assumption | exact (by assumption : RDT T14) | exact rdt_df hRD (GR.tr GR.rf (by assumption : GR T14 S)) df153 (by omega) (by omega) (by omega) (hFT14.x 904 125 rfl) (hFT14.x 904 130 rfl) (smk_q9 hFT14 rfl) dn153 | exact rdt_gr hRD (by first | assumption | exact (GR.tr GR.rf (by assumption : GR T14 S))) (by omega) (hFT14.x 904 125 rfl) (hFT14.x 904 130 rfl) (smk_q9 hFT14 rfl) (fun a x y => absurd y (by omega)), akr_gr hAK (by first | assumption | exact (GR.tr GR.rf (by assumption : GR T14 S))), by first | omega | (have g := (by first | assumption | exact (GR.tr GR.rf (by assumption : GR T14 S)) : GR T14 S); have t := g.1; omega), by first | omega | (have g := (by first | assumption | exact (GR.tr GR.rf (by assumption : GR T14 S)) : GR T14 S); have t := g.1; omega)⟩), (by first | assumption | exact (GR.tr GR.rf (by assumption : GR T14 S)))⟩
set_option maxRecDepth 100000 in
set_option maxHeartbeats 1000000 in
theorem c300_mo_does__g {S : sS} (hH : HI S) (n : Nat) (first : Int) (hfirst : 0 ≤ first ∧ first ≤ 5001) (hT : TK S n) (hv : RNV S n) (hK : TXK S n) (hI : TIX S) (hq : SNQ S n) (hk : DOK S) (h11 : Xi S 904 70 = 11 → -1 ≤ Xi S 904 78) (d : Nat) : ∀ (n300 : Nat) (T15 : sS) (_ : HI T15) (_ : FR md_mo_does__g S T15) (v2 : Int), (0 ≤ v2 ∧ v2 ≤ 2600) → (Xi T15 904 69 = Xi S 904 69) → (Xi T15 904 71 = Xi S 904 71) → (Xi T15 904 72 = Xi S 904 72) → (Xi T15 904 78 = Xi S 904 78) → (Xi T15 904 60 = Xi S 904 60) → (Xi T15 904 19 = Xi S 904 19) → (Xi T15 904 16 = Xi S 904 16) → (Xi T15 904 23 = Xi S 904 23) → (Xi T15 904 117 = Xi S 904 117) → (v2 ≤ Xi S 904 72) → (Xi S 904 70 = 11) → (Xi T15 904 49 = Xi S 904 49 + v2) → (LXM T15) → (LCN T15) → (GR T15 S) → (LXK T15 S (Xi S 904 15)) → (Xi S 904 15 ≤ Xi T15 904 15) → (TXM T15) → (WYM T15) → (ABV T15) → (DCM T15) → (VTM T15) → (VCN T15) → (WYD T15) → n300 = (2601 - v2).toNat → Rl lay0 (d + 7) m_mo_does 300 [(0, .ref 904), (2, iv v2)] [] T15 (Q_mo_does__g S n first) := by
  have hF : FR md_mo_does__g S S := FR.rf
  have w1 : 0 ≤ Xi S 904 117 ∧ Xi S 904 117 ≤ 480 := hH.c _ _
  have w2 : 0 ≤ Xi S 904 15 ∧ Xi S 904 15 ≤ 300 := hH.c _ _
  have w3 : 0 ≤ Xi S 904 16 ∧ Xi S 904 16 ≤ 16 := hH.c _ _
  have w4 : 0 ≤ Xi S 904 18 ∧ Xi S 904 18 ≤ 8 := hH.c _ _
  have w5 : 0 ≤ Xi S 904 19 ∧ Xi S 904 19 ≤ 24 := hH.c _ _
  have w6 : 0 ≤ Xi S 904 23 ∧ Xi S 904 23 ≤ 24 := hH.c _ _
  have w7 : 0 ≤ Xi S 904 30 ∧ Xi S 904 30 ≤ 64 := hH.c _ _
  have w8 : 0 ≤ Xi S 904 32 ∧ Xi S 904 32 ≤ 12 := hH.c _ _
  have w9 : 0 ≤ Xi S 904 41 ∧ Xi S 904 41 ≤ 6 := hH.c _ _
  have w10 : 0 ≤ Xi S 904 47 ∧ Xi S 904 47 ≤ 8 := hH.c _ _
  have w11 : 0 ≤ Xi S 904 49 ∧ Xi S 904 49 ≤ 12 := hH.c _ _
  have w12 : -1 ≤ Xi S 904 60 ∧ Xi S 904 60 ≤ 23 := hH.c _ _
  have w13 : 0 ≤ Xi S 904 69 ∧ Xi S 904 69 ≤ 2600 := hH.c _ _
  have w14 : 0 ≤ Xi S 904 70 ∧ Xi S 904 70 ≤ 20 := hH.c _ _
  have w15 : 0 ≤ Xi S 904 71 ∧ Xi S 904 71 ≤ 2600 := hH.c _ _
  have w16 : 0 ≤ Xi S 904 72 ∧ Xi S 904 72 ≤ 2600 := hH.c _ _
  have w17 : -2 ≤ Xi S 904 78 ∧ Xi S 904 78 ≤ 5010 := hH.c _ _
  have hX : TXM S := hI.1
  have hW : WYM S := hI.2.1
  have hM : LXM S := hI.2.2.1
  have hLC : LCN S := hI.2.2.2.1
  have hB : ABV S := hI.2.2.2.2.1
  have hC : DCM S := hI.2.2.2.2.2.1
  have hV : VTM S := hI.2.2.2.2.2.2.1
  have hVC : VCN S := hI.2.2.2.2.2.2.2.1
  have hWD : WYD S := hI.2.2.2.2.2.2.2.2.1
  have hRD : RDT S := hI.2.2.2.2.2.2.2.2.2.1
  have hAK : AKR S := hI.2.2.2.2.2.2.2.2.2.2.1
  have hd6 : Xi S 904 60 < Xi S 904 19 := hI.2.2.2.2.2.2.2.2.2.2.2.1
  have h16 : 2 ≤ Xi S 904 16 := hI.2.2.2.2.2.2.2.2.2.2.2.2
  have h32 : 1 ≤ Xi S 904 32 := hAK.2.2.2.2.2.2.2
  have hn5 := hT.1
  have hc69 : 0 ≤ Xi S 904 69 ∧ Xi S 904 69 ≤ 2600 := hH.c _ _
  have hc70 : 0 ≤ Xi S 904 70 ∧ Xi S 904 70 ≤ 20 := hH.c _ _
  have hc16 : 0 ≤ Xi S 904 16 ∧ Xi S 904 16 ≤ 16 := hH.c _ _
  have hc18 : 0 ≤ Xi S 904 18 ∧ Xi S 904 18 ≤ 8 := hH.c _ _
  have hc19 : 0 ≤ Xi S 904 19 ∧ Xi S 904 19 ≤ 24 := hH.c _ _
  have hc23 : 0 ≤ Xi S 904 23 ∧ Xi S 904 23 ≤ 24 := hH.c _ _
  have hc30 : 0 ≤ Xi S 904 30 ∧ Xi S 904 30 ≤ 64 := hH.c _ _
  have hc32 : 0 ≤ Xi S 904 32 ∧ Xi S 904 32 ≤ 12 := hH.c _ _
  have hc41 : 0 ≤ Xi S 904 41 ∧ Xi S 904 41 ≤ 6 := hH.c _ _
  have hc47 : 0 ≤ Xi S 904 47 ∧ Xi S 904 47 ≤ 8 := hH.c _ _
  have hc49 : 0 ≤ Xi S 904 49 ∧ Xi S 904 49 ≤ 12 := hH.c _ _
  have hc15 : 0 ≤ Xi S 904 15 ∧ Xi S 904 15 ≤ 300 := hH.c _ _
  have hc117 : 0 ≤ Xi S 904 117 ∧ Xi S 904 117 ≤ 480 := hH.c _ _
  have hc125 : 0 ≤ Xi S 904 125 ∧ Xi S 904 125 ≤ 192 := hH.c _ _
  have hc130 : 0 ≤ Xi S 904 130 ∧ Xi S 904 130 ≤ 24 := hH.c _ _
  have hl9 := lcn_le hH hLC
  intro n300
  induction n300 using Nat.strongRecOn with
  | ind n300 ih300 =>
    intro T15 hHT15 hFT15 v2 w286 w287 w288 w289 w290 w291 w292 w293 w294 w295 w296 w297 w298 M300 L300 G300 K300 w299 X300 W300 B300 C300 V300 VC300 WD300 hm300
    have w300 : Xi T15 904 110 = Xi S 904 110 := hFT15.x _ _ rfl
    have w301 : Xi T15 904 112 = Xi S 904 112 := hFT15.x _ _ rfl
    have w302 : Xi T15 904 142 = Xi S 904 142 := hFT15.x _ _ rfl
    have w303 : Xi T15 904 69 = Xi S 904 69 := hFT15.x _ _ rfl
    have w304 : Xi T15 904 70 = Xi S 904 70 := hFT15.x _ _ rfl
    have w305 : Xi T15 904 71 = Xi S 904 71 := hFT15.x _ _ rfl
    have w306 : Xi T15 904 72 = Xi S 904 72 := hFT15.x _ _ rfl
    have w307 : Xi T15 904 74 = Xi S 904 74 := hFT15.x _ _ rfl
    have w308 : Xi T15 904 78 = Xi S 904 78 := hFT15.x _ _ rfl
    have w309 : Xi T15 904 94 = Xi S 904 94 := hFT15.x _ _ rfl
    have w310 : Xi T15 951 1 = Xi S 951 1 := hFT15.x _ _ rfl
    have w311 : Xi T15 951 2 = Xi S 951 2 := hFT15.x _ _ rfl
    have w312 : Xi T15 967 0 = Xi S 967 0 := hFT15.x _ _ rfl
    have w313 : 0 ≤ Xi T15 904 117 ∧ Xi T15 904 117 ≤ 480 := hHT15.c _ _
    have w314 : 0 ≤ Xi T15 904 15 ∧ Xi T15 904 15 ≤ 300 := hHT15.c _ _
    have w315 : 0 ≤ Xi T15 904 16 ∧ Xi T15 904 16 ≤ 16 := hHT15.c _ _
    have w316 : 0 ≤ Xi T15 904 19 ∧ Xi T15 904 19 ≤ 24 := hHT15.c _ _
    have w317 : 0 ≤ Xi T15 904 23 ∧ Xi T15 904 23 ≤ 24 := hHT15.c _ _
    have w318 : 0 ≤ Xi T15 904 49 ∧ Xi T15 904 49 ≤ 12 := hHT15.c _ _
    have w319 : -1 ≤ Xi T15 904 60 ∧ Xi T15 904 60 ≤ 23 := hHT15.c _ _
    have w320 : 0 ≤ Xi T15 904 69 ∧ Xi T15 904 69 ≤ 2600 := hHT15.c _ _
    have w321 : 0 ≤ Xi T15 904 71 ∧ Xi T15 904 71 ≤ 2600 := hHT15.c _ _
    have w322 : 0 ≤ Xi T15 904 72 ∧ Xi T15 904 72 ≤ 2600 := hHT15.c _ _
    have w323 : -2 ≤ Xi T15 904 78 ∧ Xi T15 904 78 ≤ 5010 := hHT15.c _ _
    refine l_iload_n rfl rfl ?_
    have d300 := hk.2.2.2.2.2.2.2.1 (by omega)
    have s300 := hq.2.2.2.2.2.1 (by omega)
    have x300 := hq.2.2.2.2.2.2.1 (by omega)
    have a300 := d300.1
    have y300 : -1 ≤ Xi S 904 78 := h11 (by omega)
    refine l_aload_n rfl rfl ?_
    refine l_gfi rfl rfl rfl rfl rfl ?_
    refine l_icmp_ge rfl rfl (by unfold rg; omega) (by unfold rg; omega) (fun w324 => ?_) (fun w325 => ?_)
    · refine l_goto rfl rfl ?_
      refine l_return rfl rfl ?_
      exact ⟨hHT15, hFT15, rfl, (⟨by first | assumption | exact (by assumption : TXM T15), by first | assumption | exact (by assumption : WYM T15), by first | assumption | exact (by assumption : LXM T15), by first | assumption | exact (by assumption : LCN T15), by first | assumption | exact (by assumption : ABV T15), by first | assumption | exact (by assumption : DCM T15), by first | assumption | exact (by assumption : VTM T15), by first | assumption | exact (by assumption : VCN T15), by first | assumption | exact (by assumption : WYD T15), by first | assumption | exact (by assumption : RDT T15) | exact rdt_df hRD (by assumption : GR T15 S) df153 (by omega) (by omega) (by omega) (hFT15.x 904 125 rfl) (hFT15.x 904 130 rfl) (smk_q9 hFT15 rfl) dn153 | exact rdt_gr hRD (by first | assumption | exact (by assumption : GR T15 S)) (by omega) (hFT15.x 904 125 rfl) (hFT15.x 904 130 rfl) (smk_q9 hFT15 rfl) (fun a x y => absurd y (by omega)), akr_gr hAK (by first | assumption | exact (by assumption : GR T15 S)), by first | omega | (have g := (by first | assumption | exact (by assumption : GR T15 S) : GR T15 S); have t := g.1; omega), by first | omega | (have g := (by first | assumption | exact (by assumption : GR T15 S) : GR T15 S); have t := g.1; omega)⟩), (by first | assumption | exact (by assumption : GR T15 S))⟩
    · refine l_aload_n rfl rfl ?_
      refine l_bipush rfl rfl ?_
      refine l_aload_n rfl rfl ?_
      refine l_aload_n rfl rfl ?_
      refine l_gfi rfl rfl rfl rfl rfl ?_
      refine l_iconst rfl ?_
      refine l_icmp_ne rfl rfl (by unfold rg; omega) (by unfold rg; omega) (fun w332 => ?_) (fun w333 => ?_)
      · refine l_aload_n rfl rfl ?_
        refine l_aload_n rfl rfl ?_
        refine l_gfi rfl rfl rfl rfl rfl ?_
        refine l_iconst rfl ?_
        refine l_callV rfl rfl rfl (t_mo_meansRun__2 hHT15 n (Xi T15 904 78) 0 ⟨by omega, by omega⟩ ⟨by omega, by omega⟩ (by first | assumption | exact (TK_FR hFT15 rfl (by assumption : TK S _))) (by first | assumption | exact (RNV_FR hFT15 rfl (by assumption : RNV S _))) (by first | assumption | omega) (by first | assumption | exact (by assumption : LXM T15)) _) ?_
        rintro _ _ ⟨rfl, z343, rfl, w343, w341, w342⟩
        show Rl _ _ _ _ _ [iv z343, .ref 904, iv 11, .ref 904] _ _
        have x330 : z343 ≠ -1 → z343 < 16 := fun q => by have t := (by assumption : z343 ≠ -1 → z343 < cM T15 0) q; rw [cM0] at t; have u : Xi T15 904 16 ≤ 16 := (hHT15.c 904 16).2; omega
        refine l_callV rfl rfl rfl (t_mo_addAction hHT15 z343 ⟨by omega, by omega⟩ (by first | assumption | omega) _) ?_
        rintro _ T16 ⟨hHT16, w354, z353, rfl, w353, w351, w352, k333⟩
        have hFT16 : FR md_mo_does__g S T16 := FR.tr hFT15 w354 rfl
        show Rl _ _ _ _ _ [iv z353, iv 11, .ref 904] _ _
        have g333 : GR T16 T15 := gr_m GR.rf (Int.le_of_eq ((by assumption : FR md_mo_addAction T15 T16).x 904 16 rfl).symm) (Int.le_of_eq ((by assumption : FR md_mo_addAction T15 T16).x 904 18 rfl).symm) (Int.le_of_eq ((by assumption : FR md_mo_addAction T15 T16).x 904 19 rfl).symm) (Int.le_of_eq ((by assumption : FR md_mo_addAction T15 T16).x 904 23 rfl).symm) (Int.le_of_eq ((by assumption : FR md_mo_addAction T15 T16).x 904 30 rfl).symm) (Int.le_of_eq ((by assumption : FR md_mo_addAction T15 T16).x 904 32 rfl).symm) (Int.le_of_eq ((by assumption : FR md_mo_addAction T15 T16).x 904 41 rfl).symm) (Int.le_of_eq ((by assumption : FR md_mo_addAction T15 T16).x 904 47 rfl).symm) (by omega) (fun i _ => ⟨((by assumption : FR md_mo_addAction T15 T16).cx 922 rfl i).1, ((by assumption : FR md_mo_addAction T15 T16).cx 923 rfl i).1, ((by assumption : FR md_mo_addAction T15 T16).cx 924 rfl i).1⟩) (fun i _ => ((by assumption : FR md_mo_addAction T15 T16).cx 928 rfl i).1) (fun i hi => k333.2 i hi)
        have x333 : LXK T16 T15 (Xi T15 904 15) := LXK_FR (by assumption : FR md_mo_addAction T15 T16) rfl
        have c333 : Xi T16 904 15 = Xi T15 904 15 := (by assumption : FR md_mo_addAction T15 T16).x 904 15 rfl
        refine l_aload_n rfl rfl ?_
        refine l_gfi rfl rfl rfl rfl rfl ?_
        have w355 : (Xi T16 904 71) = (Xi T15 904 71) := (show Xi T16 904 71 = Xi T15 904 71 from w354.x _ _ rfl)
        rw [w355]
        refine l_iload_n rfl rfl ?_
        refine l_iadd rfl ?_
        have w356 : Xi T16 904 117 = Xi T15 904 117 := (show Xi T16 904 117 = Xi T15 904 117 from w354.x _ _ rfl)
        have w358 : Xi T16 904 15 = Xi T15 904 15 := (show Xi T16 904 15 = Xi T15 904 15 from w354.x _ _ rfl)
        have w360 : Xi T16 904 16 = Xi T15 904 16 := (show Xi T16 904 16 = Xi T15 904 16 from w354.x _ _ rfl)
        have w362 : Xi T16 904 19 = Xi T15 904 19 := (show Xi T16 904 19 = Xi T15 904 19 from w354.x _ _ rfl)
        have w364 : Xi T16 904 23 = Xi T15 904 23 := (show Xi T16 904 23 = Xi T15 904 23 from w354.x _ _ rfl)
        have w366 : Xi T16 904 60 = Xi T15 904 60 := (show Xi T16 904 60 = Xi T15 904 60 from w354.x _ _ rfl)
        have w368 : Xi T16 904 69 = Xi T15 904 69 := (show Xi T16 904 69 = Xi T15 904 69 from w354.x _ _ rfl)
        refine l_callV rfl rfl rfl (t_mo_tellRun hHT16 n 11 z353 ((Xi T15 904 71) + v2) ⟨by omega, by omega⟩ ⟨by omega, by omega⟩ ⟨by omega, by omega⟩ (by first | assumption | exact (TK_FR hFT16 rfl (by assumption : TK S _))) (by first | assumption | exact (RNV_FR hFT16 rfl (by assumption : RNV S _))) (by first | assumption | omega) (by first | (rw [(hFT16.cx 951 rfl _).1]; exact d382.2.2.1) | (rw [(hFT16.cx 951 rfl _).1]; exact d382.2.2.2) | (rw [(hFT16.cx 951 rfl _).1]; exact d426.2.1) | (rw [(hFT16.cx 951 rfl _).1]; have t := d300.2.2 v2 (by omega) (by omega); rw [show Xi T15 904 71 = Xi S 904 71 by omega]; exact t)) (by first | omega | (have t := lcn_le hHT15 L300; omega)) _) ?_
        rintro _ T17 ⟨hHT17, w372, rfl, w370, e342, k342⟩
        have hFT17 : FR md_mo_does__g S T17 := FR.tr hFT16 w372 rfl
        show Rl _ _ _ _ _ [] _ _
        have g342 : GR T17 T15 := GR_FR (by assumption : FR md_mo_tellRun T16 T17) rfl g333
        have x342 : LXK T17 T15 (Xi T15 904 15) := x333.tr k342 (by omega)
        have d342 : Xi T17 914 (Xi T15 904 15).toNat = 11 ∧ Xi T17 915 (Xi T15 904 15).toNat = Xi T15 904 49 := by rw [← c333]; exact ⟨e342.1, by rw [e342.2]; omega⟩
        have c342 : 0 ≤ Xi T15 904 15 := (hHT15.c 904 15).1
        have f342 : Xi T17 904 49 = Xi T15 904 49 + 1 := by have t : Xi T17 904 49 = Xi T16 904 49 := (by assumption : FR md_mo_tellRun T16 T17).x 904 49 rfl; omega
        have M342 : LXM T17 := lxm_gr M300 x342 g342 (by omega) (Or.inr ⟨by omega, by rw [d342.1, d342.2, cM11]; omega⟩)
        have y342_16 : Xi T17 904 16 = Xi T15 904 16 := ((show Xi T17 904 16 = Xi T16 904 16 from w372.x _ _ rfl).trans ((show Xi T16 904 16 = Xi T15 904 16 from w354.x _ _ rfl)))
        have y342_18 : Xi T17 904 18 = Xi T15 904 18 := ((show Xi T17 904 18 = Xi T16 904 18 from w372.x _ _ rfl).trans ((show Xi T16 904 18 = Xi T15 904 18 from w354.x _ _ rfl)))
        have y342_19 : Xi T17 904 19 = Xi T15 904 19 := ((show Xi T17 904 19 = Xi T16 904 19 from w372.x _ _ rfl).trans ((show Xi T16 904 19 = Xi T15 904 19 from w354.x _ _ rfl)))
        have y342_23 : Xi T17 904 23 = Xi T15 904 23 := ((show Xi T17 904 23 = Xi T16 904 23 from w372.x _ _ rfl).trans ((show Xi T16 904 23 = Xi T15 904 23 from w354.x _ _ rfl)))
        have y342_30 : Xi T17 904 30 = Xi T15 904 30 := ((show Xi T17 904 30 = Xi T16 904 30 from w372.x _ _ rfl).trans ((show Xi T16 904 30 = Xi T15 904 30 from w354.x _ _ rfl)))
        have y342_32 : Xi T17 904 32 = Xi T15 904 32 := ((show Xi T17 904 32 = Xi T16 904 32 from w372.x _ _ rfl).trans ((show Xi T16 904 32 = Xi T15 904 32 from w354.x _ _ rfl)))
        have y342_41 : Xi T17 904 41 = Xi T15 904 41 := ((show Xi T17 904 41 = Xi T16 904 41 from w372.x _ _ rfl).trans ((show Xi T16 904 41 = Xi T15 904 41 from w354.x _ _ rfl)))
        have y342_47 : Xi T17 904 47 = Xi T15 904 47 := ((show Xi T17 904 47 = Xi T16 904 47 from w372.x _ _ rfl).trans ((show Xi T16 904 47 = Xi T15 904 47 from w354.x _ _ rfl)))
        have L342 : LCN T17 := lcn_i L300 (pls_le x342 (by omega) (by omega) (by omega)) (by omega)
        refine l_iinc rfl rfl rfl rfl ?_
        refine l_goto rfl rfl ?_
        have w373 : Xi T17 904 117 = Xi T15 904 117 := (show Xi T17 904 117 = Xi T16 904 117 from w372.x _ _ rfl).trans ((show Xi T16 904 117 = Xi T15 904 117 from w354.x _ _ rfl))
        have w375 : 0 ≤ Xi T17 904 15 ∧ Xi T17 904 15 ≤ 300 := hHT17.c _ _
        have w376 : Xi T17 904 16 = Xi T15 904 16 := (show Xi T17 904 16 = Xi T16 904 16 from w372.x _ _ rfl).trans ((show Xi T16 904 16 = Xi T15 904 16 from w354.x _ _ rfl))
        have w378 : Xi T17 904 19 = Xi T15 904 19 := (show Xi T17 904 19 = Xi T16 904 19 from w372.x _ _ rfl).trans ((show Xi T16 904 19 = Xi T15 904 19 from w354.x _ _ rfl))
        have w380 : Xi T17 904 23 = Xi T15 904 23 := (show Xi T17 904 23 = Xi T16 904 23 from w372.x _ _ rfl).trans ((show Xi T16 904 23 = Xi T15 904 23 from w354.x _ _ rfl))
        have w382 : Xi T17 904 49 = Xi T16 904 49 := (show Xi T17 904 49 = Xi T16 904 49 from w372.x _ _ rfl)
        have w383 : 0 ≤ Xi T16 904 49 ∧ Xi T16 904 49 ≤ 12 := hHT16.c _ _
        have w384 : Xi T17 904 60 = Xi T15 904 60 := (show Xi T17 904 60 = Xi T16 904 60 from w372.x _ _ rfl).trans ((show Xi T16 904 60 = Xi T15 904 60 from w354.x _ _ rfl))
        have w386 : Xi T17 904 69 = Xi T15 904 69 := (show Xi T17 904 69 = Xi T16 904 69 from w372.x _ _ rfl).trans ((show Xi T16 904 69 = Xi T15 904 69 from w354.x _ _ rfl))
        have w388 : Xi T17 904 71 = Xi T15 904 71 := (show Xi T17 904 71 = Xi T16 904 71 from w372.x _ _ rfl).trans ((show Xi T16 904 71 = Xi T15 904 71 from w354.x _ _ rfl))
        have w390 : Xi T17 904 72 = Xi T15 904 72 := (show Xi T17 904 72 = Xi T16 904 72 from w372.x _ _ rfl).trans ((show Xi T16 904 72 = Xi T15 904 72 from w354.x _ _ rfl))
        have w392 : Xi T17 904 78 = Xi T15 904 78 := (show Xi T17 904 78 = Xi T16 904 78 from w372.x _ _ rfl).trans ((show Xi T16 904 78 = Xi T15 904 78 from w354.x _ _ rfl))
        exact Rl_weak (ih300 _ (by omega) T17 hHT17 hFT17 ((v2 + 1)) (by omega) (by omega) (by omega) (by omega) (by omega) (by omega) (by omega) (by omega) (by omega) (by omega) (by omega) (by omega) (by omega) (by first | assumption | exact (by assumption : LXM T17)) (by first | assumption | exact (by assumption : LCN T17)) (by first | exact GR.rf | exact G300.tr g342) (by first | exact LXK.rf | exact K300.tr x342 (by omega)) (by omega) (by first | assumption | exact (TXM_FR w372 rfl (TXM_FR w354 rfl (by assumption : TXM T15)))) (by first | assumption | exact (WYM_FR w372 rfl (WYM_FR w354 rfl (by assumption : WYM T15)))) (by first | assumption | exact (ABV_FR w372 rfl (ABV_FR w354 rfl (by assumption : ABV T15)))) (by first | assumption | exact (DCM_FR w372 rfl (DCM_FR w354 rfl (by assumption : DCM T15)))) (by first | assumption | exact (VTM_FR w372 rfl (VTM_FR w354 rfl (by assumption : VTM T15)))) (by first | assumption | exact (VCN_FR w372 rfl (VCN_FR w354 rfl (by assumption : VCN T15)))) (by first | assumption | exact (WYD_FR w372 rfl (WYD_FR w354 rfl (by assumption : WYD T15)))) rfl) (And.intro rfl (And.intro rfl (True.intro)))
      · refine l_iconst rfl ?_
        refine l_goto rfl rfl ?_
        refine l_callV rfl rfl rfl (t_mo_addAction hHT15 (-1) ⟨by omega, by omega⟩ (by first | assumption | omega) _) ?_
        rintro _ T18 ⟨hHT18, w404, z403, rfl, w403, w401, w402, k333⟩
        have hFT18 : FR md_mo_does__g S T18 := FR.tr hFT15 w404 rfl
        show Rl _ _ _ _ _ [iv z403, iv 11, .ref 904] _ _
        have g333 : GR T18 T15 := gr_m GR.rf (Int.le_of_eq ((by assumption : FR md_mo_addAction T15 T18).x 904 16 rfl).symm) (Int.le_of_eq ((by assumption : FR md_mo_addAction T15 T18).x 904 18 rfl).symm) (Int.le_of_eq ((by assumption : FR md_mo_addAction T15 T18).x 904 19 rfl).symm) (Int.le_of_eq ((by assumption : FR md_mo_addAction T15 T18).x 904 23 rfl).symm) (Int.le_of_eq ((by assumption : FR md_mo_addAction T15 T18).x 904 30 rfl).symm) (Int.le_of_eq ((by assumption : FR md_mo_addAction T15 T18).x 904 32 rfl).symm) (Int.le_of_eq ((by assumption : FR md_mo_addAction T15 T18).x 904 41 rfl).symm) (Int.le_of_eq ((by assumption : FR md_mo_addAction T15 T18).x 904 47 rfl).symm) (by omega) (fun i _ => ⟨((by assumption : FR md_mo_addAction T15 T18).cx 922 rfl i).1, ((by assumption : FR md_mo_addAction T15 T18).cx 923 rfl i).1, ((by assumption : FR md_mo_addAction T15 T18).cx 924 rfl i).1⟩) (fun i _ => ((by assumption : FR md_mo_addAction T15 T18).cx 928 rfl i).1) (fun i hi => k333.2 i hi)
        have x333 : LXK T18 T15 (Xi T15 904 15) := LXK_FR (by assumption : FR md_mo_addAction T15 T18) rfl
        have c333 : Xi T18 904 15 = Xi T15 904 15 := (by assumption : FR md_mo_addAction T15 T18).x 904 15 rfl
        refine l_aload_n rfl rfl ?_
        refine l_gfi rfl rfl rfl rfl rfl ?_
        have w405 : (Xi T18 904 71) = (Xi T15 904 71) := (show Xi T18 904 71 = Xi T15 904 71 from w404.x _ _ rfl)
        rw [w405]
        refine l_iload_n rfl rfl ?_
        refine l_iadd rfl ?_
        have w406 : Xi T18 904 117 = Xi T15 904 117 := (show Xi T18 904 117 = Xi T15 904 117 from w404.x _ _ rfl)
        have w408 : Xi T18 904 15 = Xi T15 904 15 := (show Xi T18 904 15 = Xi T15 904 15 from w404.x _ _ rfl)
        have w410 : Xi T18 904 16 = Xi T15 904 16 := (show Xi T18 904 16 = Xi T15 904 16 from w404.x _ _ rfl)
        have w412 : Xi T18 904 19 = Xi T15 904 19 := (show Xi T18 904 19 = Xi T15 904 19 from w404.x _ _ rfl)
        have w414 : Xi T18 904 23 = Xi T15 904 23 := (show Xi T18 904 23 = Xi T15 904 23 from w404.x _ _ rfl)
        have w416 : Xi T18 904 60 = Xi T15 904 60 := (show Xi T18 904 60 = Xi T15 904 60 from w404.x _ _ rfl)
        have w418 : Xi T18 904 69 = Xi T15 904 69 := (show Xi T18 904 69 = Xi T15 904 69 from w404.x _ _ rfl)
        refine l_callV rfl rfl rfl (t_mo_tellRun hHT18 n 11 z403 ((Xi T15 904 71) + v2) ⟨by omega, by omega⟩ ⟨by omega, by omega⟩ ⟨by omega, by omega⟩ (by first | assumption | exact (TK_FR hFT18 rfl (by assumption : TK S _))) (by first | assumption | exact (RNV_FR hFT18 rfl (by assumption : RNV S _))) (by first | assumption | omega) (by first | (rw [(hFT18.cx 951 rfl _).1]; exact d382.2.2.1) | (rw [(hFT18.cx 951 rfl _).1]; exact d382.2.2.2) | (rw [(hFT18.cx 951 rfl _).1]; exact d426.2.1) | (rw [(hFT18.cx 951 rfl _).1]; have t := d300.2.2 v2 (by omega) (by omega); rw [show Xi T15 904 71 = Xi S 904 71 by omega]; exact t)) (by first | omega | (have t := lcn_le hHT15 L300; omega)) _) ?_
        rintro _ T19 ⟨hHT19, w422, rfl, w420, e342, k342⟩
        have hFT19 : FR md_mo_does__g S T19 := FR.tr hFT18 w422 rfl
        show Rl _ _ _ _ _ [] _ _
        have g342 : GR T19 T15 := GR_FR (by assumption : FR md_mo_tellRun T18 T19) rfl g333
        have x342 : LXK T19 T15 (Xi T15 904 15) := x333.tr k342 (by omega)
        have d342 : Xi T19 914 (Xi T15 904 15).toNat = 11 ∧ Xi T19 915 (Xi T15 904 15).toNat = Xi T15 904 49 := by rw [← c333]; exact ⟨e342.1, by rw [e342.2]; omega⟩
        have c342 : 0 ≤ Xi T15 904 15 := (hHT15.c 904 15).1
        have f342 : Xi T19 904 49 = Xi T15 904 49 + 1 := by have t : Xi T19 904 49 = Xi T18 904 49 := (by assumption : FR md_mo_tellRun T18 T19).x 904 49 rfl; omega
        have M342 : LXM T19 := lxm_gr M300 x342 g342 (by omega) (Or.inr ⟨by omega, by rw [d342.1, d342.2, cM11]; omega⟩)
        have y342_16 : Xi T19 904 16 = Xi T15 904 16 := ((show Xi T19 904 16 = Xi T18 904 16 from w422.x _ _ rfl).trans ((show Xi T18 904 16 = Xi T15 904 16 from w404.x _ _ rfl)))
        have y342_18 : Xi T19 904 18 = Xi T15 904 18 := ((show Xi T19 904 18 = Xi T18 904 18 from w422.x _ _ rfl).trans ((show Xi T18 904 18 = Xi T15 904 18 from w404.x _ _ rfl)))
        have y342_19 : Xi T19 904 19 = Xi T15 904 19 := ((show Xi T19 904 19 = Xi T18 904 19 from w422.x _ _ rfl).trans ((show Xi T18 904 19 = Xi T15 904 19 from w404.x _ _ rfl)))
        have y342_23 : Xi T19 904 23 = Xi T15 904 23 := ((show Xi T19 904 23 = Xi T18 904 23 from w422.x _ _ rfl).trans ((show Xi T18 904 23 = Xi T15 904 23 from w404.x _ _ rfl)))
        have y342_30 : Xi T19 904 30 = Xi T15 904 30 := ((show Xi T19 904 30 = Xi T18 904 30 from w422.x _ _ rfl).trans ((show Xi T18 904 30 = Xi T15 904 30 from w404.x _ _ rfl)))
        have y342_32 : Xi T19 904 32 = Xi T15 904 32 := ((show Xi T19 904 32 = Xi T18 904 32 from w422.x _ _ rfl).trans ((show Xi T18 904 32 = Xi T15 904 32 from w404.x _ _ rfl)))
        have y342_41 : Xi T19 904 41 = Xi T15 904 41 := ((show Xi T19 904 41 = Xi T18 904 41 from w422.x _ _ rfl).trans ((show Xi T18 904 41 = Xi T15 904 41 from w404.x _ _ rfl)))
        have y342_47 : Xi T19 904 47 = Xi T15 904 47 := ((show Xi T19 904 47 = Xi T18 904 47 from w422.x _ _ rfl).trans ((show Xi T18 904 47 = Xi T15 904 47 from w404.x _ _ rfl)))
        have L342 : LCN T19 := lcn_i L300 (pls_le x342 (by omega) (by omega) (by omega)) (by omega)
        refine l_iinc rfl rfl rfl rfl ?_
        refine l_goto rfl rfl ?_
        have w423 : Xi T19 904 117 = Xi T15 904 117 := (show Xi T19 904 117 = Xi T18 904 117 from w422.x _ _ rfl).trans ((show Xi T18 904 117 = Xi T15 904 117 from w404.x _ _ rfl))
        have w425 : 0 ≤ Xi T19 904 15 ∧ Xi T19 904 15 ≤ 300 := hHT19.c _ _
        have w426 : Xi T19 904 16 = Xi T15 904 16 := (show Xi T19 904 16 = Xi T18 904 16 from w422.x _ _ rfl).trans ((show Xi T18 904 16 = Xi T15 904 16 from w404.x _ _ rfl))
        have w428 : Xi T19 904 19 = Xi T15 904 19 := (show Xi T19 904 19 = Xi T18 904 19 from w422.x _ _ rfl).trans ((show Xi T18 904 19 = Xi T15 904 19 from w404.x _ _ rfl))
        have w430 : Xi T19 904 23 = Xi T15 904 23 := (show Xi T19 904 23 = Xi T18 904 23 from w422.x _ _ rfl).trans ((show Xi T18 904 23 = Xi T15 904 23 from w404.x _ _ rfl))
        have w432 : Xi T19 904 49 = Xi T18 904 49 := (show Xi T19 904 49 = Xi T18 904 49 from w422.x _ _ rfl)
        have w433 : 0 ≤ Xi T18 904 49 ∧ Xi T18 904 49 ≤ 12 := hHT18.c _ _
        have w434 : Xi T19 904 60 = Xi T15 904 60 := (show Xi T19 904 60 = Xi T18 904 60 from w422.x _ _ rfl).trans ((show Xi T18 904 60 = Xi T15 904 60 from w404.x _ _ rfl))
        have w436 : Xi T19 904 69 = Xi T15 904 69 := (show Xi T19 904 69 = Xi T18 904 69 from w422.x _ _ rfl).trans ((show Xi T18 904 69 = Xi T15 904 69 from w404.x _ _ rfl))
        have w438 : Xi T19 904 71 = Xi T15 904 71 := (show Xi T19 904 71 = Xi T18 904 71 from w422.x _ _ rfl).trans ((show Xi T18 904 71 = Xi T15 904 71 from w404.x _ _ rfl))
        have w440 : Xi T19 904 72 = Xi T15 904 72 := (show Xi T19 904 72 = Xi T18 904 72 from w422.x _ _ rfl).trans ((show Xi T18 904 72 = Xi T15 904 72 from w404.x _ _ rfl))
        have w442 : Xi T19 904 78 = Xi T15 904 78 := (show Xi T19 904 78 = Xi T18 904 78 from w422.x _ _ rfl).trans ((show Xi T18 904 78 = Xi T15 904 78 from w404.x _ _ rfl))
        exact Rl_weak (ih300 _ (by omega) T19 hHT19 hFT19 ((v2 + 1)) (by omega) (by omega) (by omega) (by omega) (by omega) (by omega) (by omega) (by omega) (by omega) (by omega) (by omega) (by omega) (by omega) (by first | assumption | exact (by assumption : LXM T19)) (by first | assumption | exact (by assumption : LCN T19)) (by first | exact GR.rf | exact G300.tr g342) (by first | exact LXK.rf | exact K300.tr x342 (by omega)) (by omega) (by first | assumption | exact (TXM_FR w422 rfl (TXM_FR w404 rfl (by assumption : TXM T15)))) (by first | assumption | exact (WYM_FR w422 rfl (WYM_FR w404 rfl (by assumption : WYM T15)))) (by first | assumption | exact (ABV_FR w422 rfl (ABV_FR w404 rfl (by assumption : ABV T15)))) (by first | assumption | exact (DCM_FR w422 rfl (DCM_FR w404 rfl (by assumption : DCM T15)))) (by first | assumption | exact (VTM_FR w422 rfl (VTM_FR w404 rfl (by assumption : VTM T15)))) (by first | assumption | exact (VCN_FR w422 rfl (VCN_FR w404 rfl (by assumption : VCN T15)))) (by first | assumption | exact (WYD_FR w422 rfl (WYD_FR w404 rfl (by assumption : WYD T15)))) rfl) (And.intro rfl (And.intro rfl (True.intro)))
set_option maxRecDepth 100000 in
set_option maxHeartbeats 1000000 in
theorem c298_mo_does__g {S : sS} (hH : HI S) (n : Nat) (first : Int) (hfirst : 0 ≤ first ∧ first ≤ 5001) (hT : TK S n) (hv : RNV S n) (hK : TXK S n) (hI : TIX S) (hq : SNQ S n) (hk : DOK S) (h11 : Xi S 904 70 = 11 → -1 ≤ Xi S 904 78) (d : Nat) : (Xi S 904 70 = 11) → Rl lay0 (d + 7) m_mo_does 298 [(0, .ref 904)] [] S (Q_mo_does__g S n first) := by
  have C300 := c300_mo_does__g hH n first hfirst hT hv hK hI hq hk h11 d 
  have hF : FR md_mo_does__g S S := FR.rf
  have w1 : 0 ≤ Xi S 904 117 ∧ Xi S 904 117 ≤ 480 := hH.c _ _
  have w2 : 0 ≤ Xi S 904 15 ∧ Xi S 904 15 ≤ 300 := hH.c _ _
  have w3 : 0 ≤ Xi S 904 16 ∧ Xi S 904 16 ≤ 16 := hH.c _ _
  have w4 : 0 ≤ Xi S 904 18 ∧ Xi S 904 18 ≤ 8 := hH.c _ _
  have w5 : 0 ≤ Xi S 904 19 ∧ Xi S 904 19 ≤ 24 := hH.c _ _
  have w6 : 0 ≤ Xi S 904 23 ∧ Xi S 904 23 ≤ 24 := hH.c _ _
  have w7 : 0 ≤ Xi S 904 30 ∧ Xi S 904 30 ≤ 64 := hH.c _ _
  have w8 : 0 ≤ Xi S 904 32 ∧ Xi S 904 32 ≤ 12 := hH.c _ _
  have w9 : 0 ≤ Xi S 904 41 ∧ Xi S 904 41 ≤ 6 := hH.c _ _
  have w10 : 0 ≤ Xi S 904 47 ∧ Xi S 904 47 ≤ 8 := hH.c _ _
  have w11 : 0 ≤ Xi S 904 49 ∧ Xi S 904 49 ≤ 12 := hH.c _ _
  have w12 : -1 ≤ Xi S 904 60 ∧ Xi S 904 60 ≤ 23 := hH.c _ _
  have w13 : 0 ≤ Xi S 904 69 ∧ Xi S 904 69 ≤ 2600 := hH.c _ _
  have w14 : 0 ≤ Xi S 904 70 ∧ Xi S 904 70 ≤ 20 := hH.c _ _
  have w15 : 0 ≤ Xi S 904 71 ∧ Xi S 904 71 ≤ 2600 := hH.c _ _
  have w16 : 0 ≤ Xi S 904 72 ∧ Xi S 904 72 ≤ 2600 := hH.c _ _
  have w17 : -2 ≤ Xi S 904 78 ∧ Xi S 904 78 ≤ 5010 := hH.c _ _
  have hX : TXM S := hI.1
  have hW : WYM S := hI.2.1
  have hM : LXM S := hI.2.2.1
  have hLC : LCN S := hI.2.2.2.1
  have hB : ABV S := hI.2.2.2.2.1
  have hC : DCM S := hI.2.2.2.2.2.1
  have hV : VTM S := hI.2.2.2.2.2.2.1
  have hVC : VCN S := hI.2.2.2.2.2.2.2.1
  have hWD : WYD S := hI.2.2.2.2.2.2.2.2.1
  have hRD : RDT S := hI.2.2.2.2.2.2.2.2.2.1
  have hAK : AKR S := hI.2.2.2.2.2.2.2.2.2.2.1
  have hd6 : Xi S 904 60 < Xi S 904 19 := hI.2.2.2.2.2.2.2.2.2.2.2.1
  have h16 : 2 ≤ Xi S 904 16 := hI.2.2.2.2.2.2.2.2.2.2.2.2
  have h32 : 1 ≤ Xi S 904 32 := hAK.2.2.2.2.2.2.2
  have hn5 := hT.1
  have hc69 : 0 ≤ Xi S 904 69 ∧ Xi S 904 69 ≤ 2600 := hH.c _ _
  have hc70 : 0 ≤ Xi S 904 70 ∧ Xi S 904 70 ≤ 20 := hH.c _ _
  have hc16 : 0 ≤ Xi S 904 16 ∧ Xi S 904 16 ≤ 16 := hH.c _ _
  have hc18 : 0 ≤ Xi S 904 18 ∧ Xi S 904 18 ≤ 8 := hH.c _ _
  have hc19 : 0 ≤ Xi S 904 19 ∧ Xi S 904 19 ≤ 24 := hH.c _ _
  have hc23 : 0 ≤ Xi S 904 23 ∧ Xi S 904 23 ≤ 24 := hH.c _ _
  have hc30 : 0 ≤ Xi S 904 30 ∧ Xi S 904 30 ≤ 64 := hH.c _ _
  have hc32 : 0 ≤ Xi S 904 32 ∧ Xi S 904 32 ≤ 12 := hH.c _ _
  have hc41 : 0 ≤ Xi S 904 41 ∧ Xi S 904 41 ≤ 6 := hH.c _ _
  have hc47 : 0 ≤ Xi S 904 47 ∧ Xi S 904 47 ≤ 8 := hH.c _ _
  have hc49 : 0 ≤ Xi S 904 49 ∧ Xi S 904 49 ≤ 12 := hH.c _ _
  have hc15 : 0 ≤ Xi S 904 15 ∧ Xi S 904 15 ≤ 300 := hH.c _ _
  have hc117 : 0 ≤ Xi S 904 117 ∧ Xi S 904 117 ≤ 480 := hH.c _ _
  have hc125 : 0 ≤ Xi S 904 125 ∧ Xi S 904 125 ≤ 192 := hH.c _ _
  have hc130 : 0 ≤ Xi S 904 130 ∧ Xi S 904 130 ≤ 24 := hH.c _ _
  have hl9 := lcn_le hH hLC
  intro w444
  refine l_iconst rfl ?_
  have d298 := hk.2.2.2.2.2.2.2.1 (by omega)
  have s298 := hq.2.2.2.2.2.1 (by omega)
  have x298 := hq.2.2.2.2.2.2.1 (by omega)
  have a298 := d298.1
  refine l_istore_n rfl rfl rfl ?_
  exact Rl_weak (C300 _ S hH hF (0) (by omega) (by omega) (by omega) (by omega) (by omega) (by omega) (by omega) (by omega) (by omega) (by omega) (by omega) (by omega) (by omega) (by first | assumption | exact (by assumption : LXM S)) (by first | assumption | exact (by assumption : LCN S)) (by first | exact GR.rf | exact G300.tr g342) (by first | exact LXK.rf | exact K300.tr x342 (by omega)) (by omega) (by first | assumption | exact (by assumption : TXM S)) (by first | assumption | exact (by assumption : WYM S)) (by first | assumption | exact (by assumption : ABV S)) (by first | assumption | exact (by assumption : DCM S)) (by first | assumption | exact (by assumption : VTM S)) (by first | assumption | exact (by assumption : VCN S)) (by first | assumption | exact (by assumption : WYD S)) rfl) (And.intro rfl (And.intro rfl (True.intro)))
set_option maxRecDepth 100000 in
set_option maxHeartbeats 1000000 in
theorem c354_mo_does__g {S : sS} (hH : HI S) (n : Nat) (first : Int) (hfirst : 0 ≤ first ∧ first ≤ 5001) (hT : TK S n) (hv : RNV S n) (hK : TXK S n) (hI : TIX S) (hq : SNQ S n) (hk : DOK S) (h11 : Xi S 904 70 = 11 → -1 ≤ Xi S 904 78) (d : Nat) : (12 ≤ Xi S 904 70 ∧ Xi S 904 70 ≤ 13) → Rl lay0 (d + 7) m_mo_does 354 [(0, .ref 904)] [] S (Q_mo_does__g S n first) := by
  have hF : FR md_mo_does__g S S := FR.rf
  have w1 : 0 ≤ Xi S 904 117 ∧ Xi S 904 117 ≤ 480 := hH.c _ _
  have w2 : 0 ≤ Xi S 904 15 ∧ Xi S 904 15 ≤ 300 := hH.c _ _
  have w3 : 0 ≤ Xi S 904 16 ∧ Xi S 904 16 ≤ 16 := hH.c _ _
  have w4 : 0 ≤ Xi S 904 18 ∧ Xi S 904 18 ≤ 8 := hH.c _ _
  have w5 : 0 ≤ Xi S 904 19 ∧ Xi S 904 19 ≤ 24 := hH.c _ _
  have w6 : 0 ≤ Xi S 904 23 ∧ Xi S 904 23 ≤ 24 := hH.c _ _
  have w7 : 0 ≤ Xi S 904 30 ∧ Xi S 904 30 ≤ 64 := hH.c _ _
  have w8 : 0 ≤ Xi S 904 32 ∧ Xi S 904 32 ≤ 12 := hH.c _ _
  have w9 : 0 ≤ Xi S 904 41 ∧ Xi S 904 41 ≤ 6 := hH.c _ _
  have w10 : 0 ≤ Xi S 904 47 ∧ Xi S 904 47 ≤ 8 := hH.c _ _
  have w11 : 0 ≤ Xi S 904 49 ∧ Xi S 904 49 ≤ 12 := hH.c _ _
  have w12 : -1 ≤ Xi S 904 60 ∧ Xi S 904 60 ≤ 23 := hH.c _ _
  have w13 : 0 ≤ Xi S 904 69 ∧ Xi S 904 69 ≤ 2600 := hH.c _ _
  have w14 : 0 ≤ Xi S 904 70 ∧ Xi S 904 70 ≤ 20 := hH.c _ _
  have w15 : 0 ≤ Xi S 904 71 ∧ Xi S 904 71 ≤ 2600 := hH.c _ _
  have w16 : 0 ≤ Xi S 904 72 ∧ Xi S 904 72 ≤ 2600 := hH.c _ _
  have w17 : -2 ≤ Xi S 904 78 ∧ Xi S 904 78 ≤ 5010 := hH.c _ _
  have hX : TXM S := hI.1
  have hW : WYM S := hI.2.1
  have hM : LXM S := hI.2.2.1
  have hLC : LCN S := hI.2.2.2.1
  have hB : ABV S := hI.2.2.2.2.1
  have hC : DCM S := hI.2.2.2.2.2.1
  have hV : VTM S := hI.2.2.2.2.2.2.1
  have hVC : VCN S := hI.2.2.2.2.2.2.2.1
  have hWD : WYD S := hI.2.2.2.2.2.2.2.2.1
  have hRD : RDT S := hI.2.2.2.2.2.2.2.2.2.1
  have hAK : AKR S := hI.2.2.2.2.2.2.2.2.2.2.1
  have hd6 : Xi S 904 60 < Xi S 904 19 := hI.2.2.2.2.2.2.2.2.2.2.2.1
  have h16 : 2 ≤ Xi S 904 16 := hI.2.2.2.2.2.2.2.2.2.2.2.2
  have h32 : 1 ≤ Xi S 904 32 := hAK.2.2.2.2.2.2.2
  have hn5 := hT.1
  have hc69 : 0 ≤ Xi S 904 69 ∧ Xi S 904 69 ≤ 2600 := hH.c _ _
  have hc70 : 0 ≤ Xi S 904 70 ∧ Xi S 904 70 ≤ 20 := hH.c _ _
  have hc16 : 0 ≤ Xi S 904 16 ∧ Xi S 904 16 ≤ 16 := hH.c _ _
  have hc18 : 0 ≤ Xi S 904 18 ∧ Xi S 904 18 ≤ 8 := hH.c _ _
  have hc19 : 0 ≤ Xi S 904 19 ∧ Xi S 904 19 ≤ 24 := hH.c _ _
  have hc23 : 0 ≤ Xi S 904 23 ∧ Xi S 904 23 ≤ 24 := hH.c _ _
  have hc30 : 0 ≤ Xi S 904 30 ∧ Xi S 904 30 ≤ 64 := hH.c _ _
  have hc32 : 0 ≤ Xi S 904 32 ∧ Xi S 904 32 ≤ 12 := hH.c _ _
  have hc41 : 0 ≤ Xi S 904 41 ∧ Xi S 904 41 ≤ 6 := hH.c _ _
  have hc47 : 0 ≤ Xi S 904 47 ∧ Xi S 904 47 ≤ 8 := hH.c _ _
  have hc49 : 0 ≤ Xi S 904 49 ∧ Xi S 904 49 ≤ 12 := hH.c _ _
  have hc15 : 0 ≤ Xi S 904 15 ∧ Xi S 904 15 ≤ 300 := hH.c _ _
  have hc117 : 0 ≤ Xi S 904 117 ∧ Xi S 904 117 ≤ 480 := hH.c _ _
  have hc125 : 0 ≤ Xi S 904 125 ∧ Xi S 904 125 ≤ 192 := hH.c _ _
  have hc130 : 0 ≤ Xi S 904 130 ∧ Xi S 904 130 ≤ 24 := hH.c _ _
  have hl9 := lcn_le hH hLC
  intro w456
  refine l_aload_n rfl rfl ?_
  have d354 : ONA S ∧ (Xi S 904 70 ≠ 13 → Xi S 904 110 < Xi S 904 16 ∧ ∀ i : Nat, (i : Int) < Xi S 904 112 → ADM S (Xi S 967 i)) ∧ (0 < Xi S 904 73 → rnR S (Xi S 904 74) 4 ≠ -1) := by rcases (by omega : Xi S 904 70 = 12 ∨ Xi S 904 70 = 13) with e | e; (have t := hk.2.2.2.2.2.2.2.2.1 e; exact ⟨t.1, fun _ => t.2.1, t.2.2⟩); (have t := hk.2.2.2.2.2.2.2.2.2.1 e; exact ⟨t.1, fun y => absurd e y, t.2⟩)
  have s354 := hq.2.2.2.2.2.1 (by omega)
  have x354 : 0 < Xi S 904 73 → Xi S 904 74 < Xi S 904 69 := fun y => hq.2.2.2.2.2.2.2.2.1 (by omega)
  have w457 : 0 ≤ Xi S 904 110 ∧ Xi S 904 110 ≤ 15 := hH.c _ _
  have w458 : 0 ≤ Xi S 904 112 ∧ Xi S 904 112 ≤ 6 := hH.c _ _
  have w469 : 0 ≤ Xi S 904 73 ∧ Xi S 904 73 ≤ 5 := hH.c _ _
  have w470 : 0 ≤ Xi S 904 74 ∧ Xi S 904 74 ≤ 2600 := hH.c _ _
  refine l_callV rfl rfl rfl (t_mo_doDescribed hH n (by first | assumption | exact (TK_FR hF rfl (by assumption : TK S _))) (by first | assumption | exact (RNV_FR hF rfl (by assumption : RNV S _))) (by first | assumption | exact (by assumption : LXM S)) (by first | assumption | exact (by assumption : TXM S)) (by first | assumption | exact (by assumption : WYM S)) (by first | assumption | exact (by assumption : LCN S)) (by first | assumption | exact (by assumption : ABV S)) (s354.1) (d354.1) (hd6) (by omega) (d354.2.1) (fun y => ⟨x354 y, d354.2.2 y⟩) _) ?_
  rintro _ T20 ⟨hHT20, w478, rfl, w471, w472, w473, w474, w475, w476⟩
  have hFT20 : FR md_mo_does__g S T20 := FR.tr hF w478 rfl
  show Rl _ _ _ _ _ [] _ _
  refine l_goto rfl rfl ?_
  refine l_return rfl rfl ?_
  have w479 : Xi T20 904 117 = Xi S 904 117 := (show Xi T20 904 117 = Xi S 904 117 from w478.x _ _ rfl)
  have w481 : 0 ≤ Xi T20 904 15 ∧ Xi T20 904 15 ≤ 300 := hHT20.c _ _
  have w482 : Xi T20 904 16 = Xi S 904 16 := (show Xi T20 904 16 = Xi S 904 16 from w478.x _ _ rfl)
  have w484 : 0 ≤ Xi T20 904 19 ∧ Xi T20 904 19 ≤ 24 := hHT20.c _ _
  have w485 : Xi T20 904 23 = Xi S 904 23 := (show Xi T20 904 23 = Xi S 904 23 from w478.x _ _ rfl)
  have w487 : -1 ≤ Xi T20 904 60 ∧ Xi T20 904 60 ≤ 23 := hHT20.c _ _
  exact ⟨hHT20, hFT20, rfl, (⟨by first | assumption | exact (by assumption : TXM T20), by first | assumption | exact (by assumption : WYM T20), by first | assumption | exact (by assumption : LXM T20), by first | assumption | exact (by assumption : LCN T20), by first | assumption | exact (ABV_FR w478 rfl (by assumption : ABV S)), by first | assumption | exact (DCM_FR w478 rfl (by assumption : DCM S)), by first | assumption | exact (VTM_FR w478 rfl (by assumption : VTM S)), by first | assumption | exact (VCN_FR w478 rfl (by assumption : VCN S)), by first | assumption | exact (WYD_FR w478 rfl (by assumption : WYD S)), by first | assumption | exact (by assumption : RDT T20) | exact rdt_df hRD (GR.tr GR.rf (by assumption : GR T20 S)) df153 (by omega) (by omega) (by omega) (hFT20.x 904 125 rfl) (hFT20.x 904 130 rfl) (smk_q9 hFT20 rfl) dn153 | exact rdt_gr hRD (by first | assumption | exact (GR.tr GR.rf (by assumption : GR T20 S))) (by omega) (hFT20.x 904 125 rfl) (hFT20.x 904 130 rfl) (smk_q9 hFT20 rfl) (fun a x y => absurd y (by omega)), akr_gr hAK (by first | assumption | exact (GR.tr GR.rf (by assumption : GR T20 S))), by first | omega | (have g := (by first | assumption | exact (GR.tr GR.rf (by assumption : GR T20 S)) : GR T20 S); have t := g.1; omega), by first | omega | (have g := (by first | assumption | exact (GR.tr GR.rf (by assumption : GR T20 S)) : GR T20 S); have t := g.1; omega)⟩), (by first | assumption | exact (GR.tr GR.rf (by assumption : GR T20 S)))⟩
set_option maxRecDepth 100000 in
set_option maxHeartbeats 1000000 in
theorem c361_mo_does__g {S : sS} (hH : HI S) (n : Nat) (first : Int) (hfirst : 0 ≤ first ∧ first ≤ 5001) (hT : TK S n) (hv : RNV S n) (hK : TXK S n) (hI : TIX S) (hq : SNQ S n) (hk : DOK S) (h11 : Xi S 904 70 = 11 → -1 ≤ Xi S 904 78) (d : Nat) : (Xi S 904 70 = 14) → Rl lay0 (d + 7) m_mo_does 361 [(0, .ref 904)] [] S (Q_mo_does__g S n first) := by
  have hF : FR md_mo_does__g S S := FR.rf
  have w1 : 0 ≤ Xi S 904 117 ∧ Xi S 904 117 ≤ 480 := hH.c _ _
  have w2 : 0 ≤ Xi S 904 15 ∧ Xi S 904 15 ≤ 300 := hH.c _ _
  have w3 : 0 ≤ Xi S 904 16 ∧ Xi S 904 16 ≤ 16 := hH.c _ _
  have w4 : 0 ≤ Xi S 904 18 ∧ Xi S 904 18 ≤ 8 := hH.c _ _
  have w5 : 0 ≤ Xi S 904 19 ∧ Xi S 904 19 ≤ 24 := hH.c _ _
  have w6 : 0 ≤ Xi S 904 23 ∧ Xi S 904 23 ≤ 24 := hH.c _ _
  have w7 : 0 ≤ Xi S 904 30 ∧ Xi S 904 30 ≤ 64 := hH.c _ _
  have w8 : 0 ≤ Xi S 904 32 ∧ Xi S 904 32 ≤ 12 := hH.c _ _
  have w9 : 0 ≤ Xi S 904 41 ∧ Xi S 904 41 ≤ 6 := hH.c _ _
  have w10 : 0 ≤ Xi S 904 47 ∧ Xi S 904 47 ≤ 8 := hH.c _ _
  have w11 : 0 ≤ Xi S 904 49 ∧ Xi S 904 49 ≤ 12 := hH.c _ _
  have w12 : -1 ≤ Xi S 904 60 ∧ Xi S 904 60 ≤ 23 := hH.c _ _
  have w13 : 0 ≤ Xi S 904 69 ∧ Xi S 904 69 ≤ 2600 := hH.c _ _
  have w14 : 0 ≤ Xi S 904 70 ∧ Xi S 904 70 ≤ 20 := hH.c _ _
  have w15 : 0 ≤ Xi S 904 71 ∧ Xi S 904 71 ≤ 2600 := hH.c _ _
  have w16 : 0 ≤ Xi S 904 72 ∧ Xi S 904 72 ≤ 2600 := hH.c _ _
  have w17 : -2 ≤ Xi S 904 78 ∧ Xi S 904 78 ≤ 5010 := hH.c _ _
  have hX : TXM S := hI.1
  have hW : WYM S := hI.2.1
  have hM : LXM S := hI.2.2.1
  have hLC : LCN S := hI.2.2.2.1
  have hB : ABV S := hI.2.2.2.2.1
  have hC : DCM S := hI.2.2.2.2.2.1
  have hV : VTM S := hI.2.2.2.2.2.2.1
  have hVC : VCN S := hI.2.2.2.2.2.2.2.1
  have hWD : WYD S := hI.2.2.2.2.2.2.2.2.1
  have hRD : RDT S := hI.2.2.2.2.2.2.2.2.2.1
  have hAK : AKR S := hI.2.2.2.2.2.2.2.2.2.2.1
  have hd6 : Xi S 904 60 < Xi S 904 19 := hI.2.2.2.2.2.2.2.2.2.2.2.1
  have h16 : 2 ≤ Xi S 904 16 := hI.2.2.2.2.2.2.2.2.2.2.2.2
  have h32 : 1 ≤ Xi S 904 32 := hAK.2.2.2.2.2.2.2
  have hn5 := hT.1
  have hc69 : 0 ≤ Xi S 904 69 ∧ Xi S 904 69 ≤ 2600 := hH.c _ _
  have hc70 : 0 ≤ Xi S 904 70 ∧ Xi S 904 70 ≤ 20 := hH.c _ _
  have hc16 : 0 ≤ Xi S 904 16 ∧ Xi S 904 16 ≤ 16 := hH.c _ _
  have hc18 : 0 ≤ Xi S 904 18 ∧ Xi S 904 18 ≤ 8 := hH.c _ _
  have hc19 : 0 ≤ Xi S 904 19 ∧ Xi S 904 19 ≤ 24 := hH.c _ _
  have hc23 : 0 ≤ Xi S 904 23 ∧ Xi S 904 23 ≤ 24 := hH.c _ _
  have hc30 : 0 ≤ Xi S 904 30 ∧ Xi S 904 30 ≤ 64 := hH.c _ _
  have hc32 : 0 ≤ Xi S 904 32 ∧ Xi S 904 32 ≤ 12 := hH.c _ _
  have hc41 : 0 ≤ Xi S 904 41 ∧ Xi S 904 41 ≤ 6 := hH.c _ _
  have hc47 : 0 ≤ Xi S 904 47 ∧ Xi S 904 47 ≤ 8 := hH.c _ _
  have hc49 : 0 ≤ Xi S 904 49 ∧ Xi S 904 49 ≤ 12 := hH.c _ _
  have hc15 : 0 ≤ Xi S 904 15 ∧ Xi S 904 15 ≤ 300 := hH.c _ _
  have hc117 : 0 ≤ Xi S 904 117 ∧ Xi S 904 117 ≤ 480 := hH.c _ _
  have hc125 : 0 ≤ Xi S 904 125 ∧ Xi S 904 125 ≤ 192 := hH.c _ _
  have hc130 : 0 ≤ Xi S 904 130 ∧ Xi S 904 130 ≤ 24 := hH.c _ _
  have hl9 := lcn_le hH hLC
  intro w488
  refine l_aload_n rfl rfl ?_
  have d361 := hk.2.2.2.2.2.2.2.2.2.2.1 (by omega)
  have s361 := hq.2.2.2.2.2.1 (by omega)
  have x361 := hq.2.2.2.2.2.2.1 (by omega)
  have y361 := hq.2.2.2.2.2.2.2.1 (by omega)
  have z361 := hq.2.2.2.2.2.2.2.2.1 (by omega)
  have w498 : 0 ≤ Xi S 904 74 ∧ Xi S 904 74 ≤ 2600 := hH.c _ _
  refine l_callV rfl rfl rfl (t_mo_doWay hH n (by first | assumption | exact (TK_FR hF rfl (by assumption : TK S _))) (by first | assumption | exact (RNV_FR hF rfl (by assumption : RNV S _))) (by first | assumption | exact (by assumption : LXM S)) (by first | assumption | exact (by assumption : TXM S)) (by first | assumption | exact (by assumption : WYM S)) (by first | assumption | exact (by assumption : LCN S)) (s361.1) (hWD) (s361.2) (h16) (⟨y361, x361⟩) (z361) (d361.1) (d361.2.1) (d361.2.2) _) ?_
  rintro _ T21 ⟨hHT21, w508, rfl, w500, w501, w502, w503, w504, w505, w506⟩
  have hFT21 : FR md_mo_does__g S T21 := FR.tr hF w508 rfl
  show Rl _ _ _ _ _ [] _ _
  refine l_goto rfl rfl ?_
  refine l_return rfl rfl ?_
  have w509 : Xi T21 904 117 = Xi S 904 117 := (show Xi T21 904 117 = Xi S 904 117 from w508.x _ _ rfl)
  have w511 : 0 ≤ Xi T21 904 15 ∧ Xi T21 904 15 ≤ 300 := hHT21.c _ _
  have w512 : Xi T21 904 16 = Xi S 904 16 := (show Xi T21 904 16 = Xi S 904 16 from w508.x _ _ rfl)
  have w514 : 0 ≤ Xi T21 904 19 ∧ Xi T21 904 19 ≤ 24 := hHT21.c _ _
  have w515 : Xi T21 904 23 = Xi S 904 23 := (show Xi T21 904 23 = Xi S 904 23 from w508.x _ _ rfl)
  have w517 : -1 ≤ Xi T21 904 60 ∧ Xi T21 904 60 ≤ 23 := hHT21.c _ _
  exact ⟨hHT21, hFT21, rfl, (⟨by first | assumption | exact (by assumption : TXM T21), by first | assumption | exact (by assumption : WYM T21), by first | assumption | exact (by assumption : LXM T21), by first | assumption | exact (by assumption : LCN T21), by first | assumption | exact (ABV_FR w508 rfl (by assumption : ABV S)), by first | assumption | exact (DCM_FR w508 rfl (by assumption : DCM S)), by first | assumption | exact (VTM_FR w508 rfl (by assumption : VTM S)), by first | assumption | exact (VCN_FR w508 rfl (by assumption : VCN S)), by first | assumption | exact (by assumption : WYD T21), by first | assumption | exact (by assumption : RDT T21) | exact rdt_df hRD (GR.tr GR.rf (by assumption : GR T21 S)) df153 (by omega) (by omega) (by omega) (hFT21.x 904 125 rfl) (hFT21.x 904 130 rfl) (smk_q9 hFT21 rfl) dn153 | exact rdt_gr hRD (by first | assumption | exact (GR.tr GR.rf (by assumption : GR T21 S))) (by omega) (hFT21.x 904 125 rfl) (hFT21.x 904 130 rfl) (smk_q9 hFT21 rfl) (fun a x y => absurd y (by omega)), akr_gr hAK (by first | assumption | exact (GR.tr GR.rf (by assumption : GR T21 S))), by first | omega | (have g := (by first | assumption | exact (GR.tr GR.rf (by assumption : GR T21 S)) : GR T21 S); have t := g.1; omega), by first | omega | (have g := (by first | assumption | exact (GR.tr GR.rf (by assumption : GR T21 S)) : GR T21 S); have t := g.1; omega)⟩), (by first | assumption | exact (GR.tr GR.rf (by assumption : GR T21 S)))⟩
set_option maxRecDepth 100000 in
set_option maxHeartbeats 1000000 in
theorem c368_mo_does__g {S : sS} (hH : HI S) (n : Nat) (first : Int) (hfirst : 0 ≤ first ∧ first ≤ 5001) (hT : TK S n) (hv : RNV S n) (hK : TXK S n) (hI : TIX S) (hq : SNQ S n) (hk : DOK S) (h11 : Xi S 904 70 = 11 → -1 ≤ Xi S 904 78) (d : Nat) : (15 ≤ Xi S 904 70 ∧ Xi S 904 70 ≤ 16) → Rl lay0 (d + 7) m_mo_does 368 [(0, .ref 904)] [] S (Q_mo_does__g S n first) := by
  have hF : FR md_mo_does__g S S := FR.rf
  have w1 : 0 ≤ Xi S 904 117 ∧ Xi S 904 117 ≤ 480 := hH.c _ _
  have w2 : 0 ≤ Xi S 904 15 ∧ Xi S 904 15 ≤ 300 := hH.c _ _
  have w3 : 0 ≤ Xi S 904 16 ∧ Xi S 904 16 ≤ 16 := hH.c _ _
  have w4 : 0 ≤ Xi S 904 18 ∧ Xi S 904 18 ≤ 8 := hH.c _ _
  have w5 : 0 ≤ Xi S 904 19 ∧ Xi S 904 19 ≤ 24 := hH.c _ _
  have w6 : 0 ≤ Xi S 904 23 ∧ Xi S 904 23 ≤ 24 := hH.c _ _
  have w7 : 0 ≤ Xi S 904 30 ∧ Xi S 904 30 ≤ 64 := hH.c _ _
  have w8 : 0 ≤ Xi S 904 32 ∧ Xi S 904 32 ≤ 12 := hH.c _ _
  have w9 : 0 ≤ Xi S 904 41 ∧ Xi S 904 41 ≤ 6 := hH.c _ _
  have w10 : 0 ≤ Xi S 904 47 ∧ Xi S 904 47 ≤ 8 := hH.c _ _
  have w11 : 0 ≤ Xi S 904 49 ∧ Xi S 904 49 ≤ 12 := hH.c _ _
  have w12 : -1 ≤ Xi S 904 60 ∧ Xi S 904 60 ≤ 23 := hH.c _ _
  have w13 : 0 ≤ Xi S 904 69 ∧ Xi S 904 69 ≤ 2600 := hH.c _ _
  have w14 : 0 ≤ Xi S 904 70 ∧ Xi S 904 70 ≤ 20 := hH.c _ _
  have w15 : 0 ≤ Xi S 904 71 ∧ Xi S 904 71 ≤ 2600 := hH.c _ _
  have w16 : 0 ≤ Xi S 904 72 ∧ Xi S 904 72 ≤ 2600 := hH.c _ _
  have w17 : -2 ≤ Xi S 904 78 ∧ Xi S 904 78 ≤ 5010 := hH.c _ _
  have hX : TXM S := hI.1
  have hW : WYM S := hI.2.1
  have hM : LXM S := hI.2.2.1
  have hLC : LCN S := hI.2.2.2.1
  have hB : ABV S := hI.2.2.2.2.1
  have hC : DCM S := hI.2.2.2.2.2.1
  have hV : VTM S := hI.2.2.2.2.2.2.1
  have hVC : VCN S := hI.2.2.2.2.2.2.2.1
  have hWD : WYD S := hI.2.2.2.2.2.2.2.2.1
  have hRD : RDT S := hI.2.2.2.2.2.2.2.2.2.1
  have hAK : AKR S := hI.2.2.2.2.2.2.2.2.2.2.1
  have hd6 : Xi S 904 60 < Xi S 904 19 := hI.2.2.2.2.2.2.2.2.2.2.2.1
  have h16 : 2 ≤ Xi S 904 16 := hI.2.2.2.2.2.2.2.2.2.2.2.2
  have h32 : 1 ≤ Xi S 904 32 := hAK.2.2.2.2.2.2.2
  have hn5 := hT.1
  have hc69 : 0 ≤ Xi S 904 69 ∧ Xi S 904 69 ≤ 2600 := hH.c _ _
  have hc70 : 0 ≤ Xi S 904 70 ∧ Xi S 904 70 ≤ 20 := hH.c _ _
  have hc16 : 0 ≤ Xi S 904 16 ∧ Xi S 904 16 ≤ 16 := hH.c _ _
  have hc18 : 0 ≤ Xi S 904 18 ∧ Xi S 904 18 ≤ 8 := hH.c _ _
  have hc19 : 0 ≤ Xi S 904 19 ∧ Xi S 904 19 ≤ 24 := hH.c _ _
  have hc23 : 0 ≤ Xi S 904 23 ∧ Xi S 904 23 ≤ 24 := hH.c _ _
  have hc30 : 0 ≤ Xi S 904 30 ∧ Xi S 904 30 ≤ 64 := hH.c _ _
  have hc32 : 0 ≤ Xi S 904 32 ∧ Xi S 904 32 ≤ 12 := hH.c _ _
  have hc41 : 0 ≤ Xi S 904 41 ∧ Xi S 904 41 ≤ 6 := hH.c _ _
  have hc47 : 0 ≤ Xi S 904 47 ∧ Xi S 904 47 ≤ 8 := hH.c _ _
  have hc49 : 0 ≤ Xi S 904 49 ∧ Xi S 904 49 ≤ 12 := hH.c _ _
  have hc15 : 0 ≤ Xi S 904 15 ∧ Xi S 904 15 ≤ 300 := hH.c _ _
  have hc117 : 0 ≤ Xi S 904 117 ∧ Xi S 904 117 ≤ 480 := hH.c _ _
  have hc125 : 0 ≤ Xi S 904 125 ∧ Xi S 904 125 ≤ 192 := hH.c _ _
  have hc130 : 0 ≤ Xi S 904 130 ∧ Xi S 904 130 ≤ 24 := hH.c _ _
  have hl9 := lcn_le hH hLC
  intro w518
  refine l_aload_n rfl rfl ?_
  have d368 := hk.2.2.2.2.2.2.2.2.2.2.2.1 (by omega)
  have s368 := hq.2.2.2.2.2.1 (by omega)
  have x368 := hq.2.2.2.2.2.2.1 (by omega)
  have y368 := hq.2.2.2.2.2.2.2.1 (by omega)
  have w519 : 0 ≤ Xi S 904 110 ∧ Xi S 904 110 ≤ 15 := hH.c _ _
  have w520 : 0 ≤ Xi S 904 112 ∧ Xi S 904 112 ≤ 6 := hH.c _ _
  have w522 : 0 ≤ Xi S 904 142 ∧ Xi S 904 142 ≤ 4 := hH.c _ _
  have w534 : -1 ≤ Xi S 967 0 ∧ Xi S 967 0 ≤ 6411 := hH.c _ _
  refine l_callV rfl rfl rfl (t_mo_doFifteen hH n (by first | assumption | exact (TK_FR hF rfl (by assumption : TK S _))) (by first | assumption | exact (RNV_FR hF rfl (by assumption : RNV S _))) (by first | assumption | exact (by assumption : LXM S)) (by first | assumption | exact (by assumption : TXM S)) (by first | assumption | exact (by assumption : WYM S)) (by first | assumption | exact (by assumption : LCN S)) (by first | assumption | exact (by assumption : ABV S)) (by first | assumption | exact (by assumption : DCM S)) (s368.1) (hV) (hVC) (hd6) (s368.2) (by omega) (by omega) (⟨y368, x368⟩) (d368.1) (d368.2.1) (d368.2.2.1) (d368.2.2.2) _) ?_
  rintro _ T22 ⟨hHT22, w544, rfl, w535, w536, w537, w538, w539, w540, w541, w542⟩
  have hFT22 : FR md_mo_does__g S T22 := FR.tr hF w544 rfl
  show Rl _ _ _ _ _ [] _ _
  refine l_goto rfl rfl ?_
  refine l_return rfl rfl ?_
  have w545 : Xi T22 904 117 = Xi S 904 117 := (show Xi T22 904 117 = Xi S 904 117 from w544.x _ _ rfl)
  have w547 : 0 ≤ Xi T22 904 15 ∧ Xi T22 904 15 ≤ 300 := hHT22.c _ _
  have w548 : Xi T22 904 16 = Xi S 904 16 := (show Xi T22 904 16 = Xi S 904 16 from w544.x _ _ rfl)
  have w550 : 0 ≤ Xi T22 904 19 ∧ Xi T22 904 19 ≤ 24 := hHT22.c _ _
  have w551 : Xi T22 904 23 = Xi S 904 23 := (show Xi T22 904 23 = Xi S 904 23 from w544.x _ _ rfl)
  have w553 : -1 ≤ Xi T22 904 60 ∧ Xi T22 904 60 ≤ 23 := hHT22.c _ _
  exact ⟨hHT22, hFT22, rfl, (⟨by first | assumption | exact (by assumption : TXM T22), by first | assumption | exact (by assumption : WYM T22), by first | assumption | exact (by assumption : LXM T22), by first | assumption | exact (by assumption : LCN T22), by first | assumption | exact (ABV_FR w544 rfl (by assumption : ABV S)), by first | assumption | exact (DCM_FR w544 rfl (by assumption : DCM S)), by first | assumption | exact (by assumption : VTM T22), by first | assumption | exact (by assumption : VCN T22), by first | assumption | exact (WYD_FR w544 rfl (by assumption : WYD S)), by first | assumption | exact (by assumption : RDT T22) | exact rdt_df hRD (GR.tr GR.rf (by assumption : GR T22 S)) df153 (by omega) (by omega) (by omega) (hFT22.x 904 125 rfl) (hFT22.x 904 130 rfl) (smk_q9 hFT22 rfl) dn153 | exact rdt_gr hRD (by first | assumption | exact (GR.tr GR.rf (by assumption : GR T22 S))) (by omega) (hFT22.x 904 125 rfl) (hFT22.x 904 130 rfl) (smk_q9 hFT22 rfl) (fun a x y => absurd y (by omega)), akr_gr hAK (by first | assumption | exact (GR.tr GR.rf (by assumption : GR T22 S))), by first | omega | (have g := (by first | assumption | exact (GR.tr GR.rf (by assumption : GR T22 S)) : GR T22 S); have t := g.1; omega), by first | omega | (have g := (by first | assumption | exact (GR.tr GR.rf (by assumption : GR T22 S)) : GR T22 S); have t := g.1; omega)⟩), (by first | assumption | exact (GR.tr GR.rf (by assumption : GR T22 S)))⟩
set_option maxRecDepth 100000 in
set_option maxHeartbeats 1000000 in
theorem c375_mo_does__g {S : sS} (hH : HI S) (n : Nat) (first : Int) (hfirst : 0 ≤ first ∧ first ≤ 5001) (hT : TK S n) (hv : RNV S n) (hK : TXK S n) (hI : TIX S) (hq : SNQ S n) (hk : DOK S) (h11 : Xi S 904 70 = 11 → -1 ≤ Xi S 904 78) (d : Nat) : (Xi S 904 70 = 17) → Rl lay0 (d + 7) m_mo_does 375 [(0, .ref 904)] [] S (Q_mo_does__g S n first) := by
  have hF : FR md_mo_does__g S S := FR.rf
  have w1 : 0 ≤ Xi S 904 117 ∧ Xi S 904 117 ≤ 480 := hH.c _ _
  have w2 : 0 ≤ Xi S 904 15 ∧ Xi S 904 15 ≤ 300 := hH.c _ _
  have w3 : 0 ≤ Xi S 904 16 ∧ Xi S 904 16 ≤ 16 := hH.c _ _
  have w4 : 0 ≤ Xi S 904 18 ∧ Xi S 904 18 ≤ 8 := hH.c _ _
  have w5 : 0 ≤ Xi S 904 19 ∧ Xi S 904 19 ≤ 24 := hH.c _ _
  have w6 : 0 ≤ Xi S 904 23 ∧ Xi S 904 23 ≤ 24 := hH.c _ _
  have w7 : 0 ≤ Xi S 904 30 ∧ Xi S 904 30 ≤ 64 := hH.c _ _
  have w8 : 0 ≤ Xi S 904 32 ∧ Xi S 904 32 ≤ 12 := hH.c _ _
  have w9 : 0 ≤ Xi S 904 41 ∧ Xi S 904 41 ≤ 6 := hH.c _ _
  have w10 : 0 ≤ Xi S 904 47 ∧ Xi S 904 47 ≤ 8 := hH.c _ _
  have w11 : 0 ≤ Xi S 904 49 ∧ Xi S 904 49 ≤ 12 := hH.c _ _
  have w12 : -1 ≤ Xi S 904 60 ∧ Xi S 904 60 ≤ 23 := hH.c _ _
  have w13 : 0 ≤ Xi S 904 69 ∧ Xi S 904 69 ≤ 2600 := hH.c _ _
  have w14 : 0 ≤ Xi S 904 70 ∧ Xi S 904 70 ≤ 20 := hH.c _ _
  have w15 : 0 ≤ Xi S 904 71 ∧ Xi S 904 71 ≤ 2600 := hH.c _ _
  have w16 : 0 ≤ Xi S 904 72 ∧ Xi S 904 72 ≤ 2600 := hH.c _ _
  have w17 : -2 ≤ Xi S 904 78 ∧ Xi S 904 78 ≤ 5010 := hH.c _ _
  have hX : TXM S := hI.1
  have hW : WYM S := hI.2.1
  have hM : LXM S := hI.2.2.1
  have hLC : LCN S := hI.2.2.2.1
  have hB : ABV S := hI.2.2.2.2.1
  have hC : DCM S := hI.2.2.2.2.2.1
  have hV : VTM S := hI.2.2.2.2.2.2.1
  have hVC : VCN S := hI.2.2.2.2.2.2.2.1
  have hWD : WYD S := hI.2.2.2.2.2.2.2.2.1
  have hRD : RDT S := hI.2.2.2.2.2.2.2.2.2.1
  have hAK : AKR S := hI.2.2.2.2.2.2.2.2.2.2.1
  have hd6 : Xi S 904 60 < Xi S 904 19 := hI.2.2.2.2.2.2.2.2.2.2.2.1
  have h16 : 2 ≤ Xi S 904 16 := hI.2.2.2.2.2.2.2.2.2.2.2.2
  have h32 : 1 ≤ Xi S 904 32 := hAK.2.2.2.2.2.2.2
  have hn5 := hT.1
  have hc69 : 0 ≤ Xi S 904 69 ∧ Xi S 904 69 ≤ 2600 := hH.c _ _
  have hc70 : 0 ≤ Xi S 904 70 ∧ Xi S 904 70 ≤ 20 := hH.c _ _
  have hc16 : 0 ≤ Xi S 904 16 ∧ Xi S 904 16 ≤ 16 := hH.c _ _
  have hc18 : 0 ≤ Xi S 904 18 ∧ Xi S 904 18 ≤ 8 := hH.c _ _
  have hc19 : 0 ≤ Xi S 904 19 ∧ Xi S 904 19 ≤ 24 := hH.c _ _
  have hc23 : 0 ≤ Xi S 904 23 ∧ Xi S 904 23 ≤ 24 := hH.c _ _
  have hc30 : 0 ≤ Xi S 904 30 ∧ Xi S 904 30 ≤ 64 := hH.c _ _
  have hc32 : 0 ≤ Xi S 904 32 ∧ Xi S 904 32 ≤ 12 := hH.c _ _
  have hc41 : 0 ≤ Xi S 904 41 ∧ Xi S 904 41 ≤ 6 := hH.c _ _
  have hc47 : 0 ≤ Xi S 904 47 ∧ Xi S 904 47 ≤ 8 := hH.c _ _
  have hc49 : 0 ≤ Xi S 904 49 ∧ Xi S 904 49 ≤ 12 := hH.c _ _
  have hc15 : 0 ≤ Xi S 904 15 ∧ Xi S 904 15 ≤ 300 := hH.c _ _
  have hc117 : 0 ≤ Xi S 904 117 ∧ Xi S 904 117 ≤ 480 := hH.c _ _
  have hc125 : 0 ≤ Xi S 904 125 ∧ Xi S 904 125 ≤ 192 := hH.c _ _
  have hc130 : 0 ≤ Xi S 904 130 ∧ Xi S 904 130 ≤ 24 := hH.c _ _
  have hl9 := lcn_le hH hLC
  intro w554
  refine l_aload_n rfl rfl ?_
  have d375 := hk.2.2.2.2.2.2.2.2.2.2.2.2.1 (by omega)
  have s375 := hq.2.2.2.2.2.2.2.2.2 (by omega)
  have w563 : 0 ≤ Xi S 951 2 ∧ Xi S 951 2 ≤ 5010 := hH.c _ _
  refine l_callV rfl rfl rfl (t_mo_doHas hH n (by first | assumption | exact (TK_FR hF rfl (by assumption : TK S _))) (by first | assumption | exact (RNV_FR hF rfl (by assumption : RNV S _))) (by first | assumption | exact (by assumption : LXM S)) (by first | assumption | exact (by assumption : TXM S)) (by first | assumption | exact (by assumption : LCN S)) (s375) (d375.1) (d375.2.1) (d375.2.2) _) ?_
  rintro _ T23 ⟨hHT23, w569, rfl, w564, w565, w566, w567⟩
  have hFT23 : FR md_mo_does__g S T23 := FR.tr hF w569 rfl
  show Rl _ _ _ _ _ [] _ _
  refine l_goto rfl rfl ?_
  refine l_return rfl rfl ?_
  have w570 : Xi T23 904 117 = Xi S 904 117 := (show Xi T23 904 117 = Xi S 904 117 from w569.x _ _ rfl)
  have w572 : 0 ≤ Xi T23 904 15 ∧ Xi T23 904 15 ≤ 300 := hHT23.c _ _
  have w573 : Xi T23 904 16 = Xi S 904 16 := (show Xi T23 904 16 = Xi S 904 16 from w569.x _ _ rfl)
  have w575 : Xi T23 904 19 = Xi S 904 19 := (show Xi T23 904 19 = Xi S 904 19 from w569.x _ _ rfl)
  have w577 : Xi T23 904 23 = Xi S 904 23 := (show Xi T23 904 23 = Xi S 904 23 from w569.x _ _ rfl)
  have w579 : Xi T23 904 60 = Xi S 904 60 := (show Xi T23 904 60 = Xi S 904 60 from w569.x _ _ rfl)
  exact ⟨hHT23, hFT23, rfl, (⟨by first | assumption | exact (by assumption : TXM T23), by first | assumption | exact (WYM_FR w569 rfl (by assumption : WYM S)), by first | assumption | exact (by assumption : LXM T23), by first | assumption | exact (by assumption : LCN T23), by first | assumption | exact (ABV_FR w569 rfl (by assumption : ABV S)), by first | assumption | exact (DCM_FR w569 rfl (by assumption : DCM S)), by first | assumption | exact (VTM_FR w569 rfl (by assumption : VTM S)), by first | assumption | exact (VCN_FR w569 rfl (by assumption : VCN S)), by first | assumption | exact (WYD_FR w569 rfl (by assumption : WYD S)), by first | assumption | exact (by assumption : RDT T23) | exact rdt_df hRD (GR.tr GR.rf (by assumption : GR T23 S)) df153 (by omega) (by omega) (by omega) (hFT23.x 904 125 rfl) (hFT23.x 904 130 rfl) (smk_q9 hFT23 rfl) dn153 | exact rdt_gr hRD (by first | assumption | exact (GR.tr GR.rf (by assumption : GR T23 S))) (by omega) (hFT23.x 904 125 rfl) (hFT23.x 904 130 rfl) (smk_q9 hFT23 rfl) (fun a x y => absurd y (by omega)), akr_gr hAK (by first | assumption | exact (GR.tr GR.rf (by assumption : GR T23 S))), by first | omega | (have g := (by first | assumption | exact (GR.tr GR.rf (by assumption : GR T23 S)) : GR T23 S); have t := g.1; omega), by first | omega | (have g := (by first | assumption | exact (GR.tr GR.rf (by assumption : GR T23 S)) : GR T23 S); have t := g.1; omega)⟩), (by first | assumption | exact (GR.tr GR.rf (by assumption : GR T23 S)))⟩
set_option maxRecDepth 100000 in
set_option maxHeartbeats 1000000 in
theorem c406_mo_does__g {S : sS} (hH : HI S) (n : Nat) (first : Int) (hfirst : 0 ≤ first ∧ first ≤ 5001) (hT : TK S n) (hv : RNV S n) (hK : TXK S n) (hI : TIX S) (hq : SNQ S n) (hk : DOK S) (h11 : Xi S 904 70 = 11 → -1 ≤ Xi S 904 78) (d : Nat) : ∀  (T24 : sS) (_ : HI T24) (_ : FR md_mo_does__g S T24) (v2 : Int), (0 ≤ v2 ∧ v2 ≤ 23) → (Xi S 904 70 = 18) → (v2 = Xi S 904 23) → (Xi T24 904 23 = Xi S 904 23 + 1) → (Xi T24 904 15 = Xi S 904 15 + 1) → (Xi T24 904 16 = Xi S 904 16) → (Xi T24 904 18 = Xi S 904 18) → (Xi T24 904 19 = Xi S 904 19) → (Xi T24 904 30 = Xi S 904 30) → (Xi T24 904 32 = Xi S 904 32) → (Xi T24 904 41 = Xi S 904 41) → (Xi T24 904 47 = Xi S 904 47) → (Xi T24 904 49 = Xi S 904 49) → (Xi T24 904 60 = Xi S 904 60) → (Xi T24 904 117 = Xi S 904 117) → (LXM T24) → (LCN T24) → (GR T24 S) → (rnR T24 0 0 ≠ -1) → ((Xi T24 922 (Xi S 904 23).toNat = Xi S 904 23 + 1 ∧ Xi T24 924 (Xi S 904 23).toNat = 0)) → (LXK T24 S (Xi S 904 15)) → (TXM T24) → (WYM T24) → (ABV T24) → (VTM T24) → (VCN T24) → (WYD T24) → Rl lay0 (d + 7) m_mo_does 406 [(0, .ref 904), (2, iv v2)] [] T24 (Q_mo_does__g S n first) := by
  have hF : FR md_mo_does__g S S := FR.rf
  have w1 : 0 ≤ Xi S 904 117 ∧ Xi S 904 117 ≤ 480 := hH.c _ _
  have w2 : 0 ≤ Xi S 904 15 ∧ Xi S 904 15 ≤ 300 := hH.c _ _
  have w3 : 0 ≤ Xi S 904 16 ∧ Xi S 904 16 ≤ 16 := hH.c _ _
  have w4 : 0 ≤ Xi S 904 18 ∧ Xi S 904 18 ≤ 8 := hH.c _ _
  have w5 : 0 ≤ Xi S 904 19 ∧ Xi S 904 19 ≤ 24 := hH.c _ _
  have w6 : 0 ≤ Xi S 904 23 ∧ Xi S 904 23 ≤ 24 := hH.c _ _
  have w7 : 0 ≤ Xi S 904 30 ∧ Xi S 904 30 ≤ 64 := hH.c _ _
  have w8 : 0 ≤ Xi S 904 32 ∧ Xi S 904 32 ≤ 12 := hH.c _ _
  have w9 : 0 ≤ Xi S 904 41 ∧ Xi S 904 41 ≤ 6 := hH.c _ _
  have w10 : 0 ≤ Xi S 904 47 ∧ Xi S 904 47 ≤ 8 := hH.c _ _
  have w11 : 0 ≤ Xi S 904 49 ∧ Xi S 904 49 ≤ 12 := hH.c _ _
  have w12 : -1 ≤ Xi S 904 60 ∧ Xi S 904 60 ≤ 23 := hH.c _ _
  have w13 : 0 ≤ Xi S 904 69 ∧ Xi S 904 69 ≤ 2600 := hH.c _ _
  have w14 : 0 ≤ Xi S 904 70 ∧ Xi S 904 70 ≤ 20 := hH.c _ _
  have w15 : 0 ≤ Xi S 904 71 ∧ Xi S 904 71 ≤ 2600 := hH.c _ _
  have w16 : 0 ≤ Xi S 904 72 ∧ Xi S 904 72 ≤ 2600 := hH.c _ _
  have w17 : -2 ≤ Xi S 904 78 ∧ Xi S 904 78 ≤ 5010 := hH.c _ _
  have hX : TXM S := hI.1
  have hW : WYM S := hI.2.1
  have hM : LXM S := hI.2.2.1
  have hLC : LCN S := hI.2.2.2.1
  have hB : ABV S := hI.2.2.2.2.1
  have hC : DCM S := hI.2.2.2.2.2.1
  have hV : VTM S := hI.2.2.2.2.2.2.1
  have hVC : VCN S := hI.2.2.2.2.2.2.2.1
  have hWD : WYD S := hI.2.2.2.2.2.2.2.2.1
  have hRD : RDT S := hI.2.2.2.2.2.2.2.2.2.1
  have hAK : AKR S := hI.2.2.2.2.2.2.2.2.2.2.1
  have hd6 : Xi S 904 60 < Xi S 904 19 := hI.2.2.2.2.2.2.2.2.2.2.2.1
  have h16 : 2 ≤ Xi S 904 16 := hI.2.2.2.2.2.2.2.2.2.2.2.2
  have h32 : 1 ≤ Xi S 904 32 := hAK.2.2.2.2.2.2.2
  have hn5 := hT.1
  have hc69 : 0 ≤ Xi S 904 69 ∧ Xi S 904 69 ≤ 2600 := hH.c _ _
  have hc70 : 0 ≤ Xi S 904 70 ∧ Xi S 904 70 ≤ 20 := hH.c _ _
  have hc16 : 0 ≤ Xi S 904 16 ∧ Xi S 904 16 ≤ 16 := hH.c _ _
  have hc18 : 0 ≤ Xi S 904 18 ∧ Xi S 904 18 ≤ 8 := hH.c _ _
  have hc19 : 0 ≤ Xi S 904 19 ∧ Xi S 904 19 ≤ 24 := hH.c _ _
  have hc23 : 0 ≤ Xi S 904 23 ∧ Xi S 904 23 ≤ 24 := hH.c _ _
  have hc30 : 0 ≤ Xi S 904 30 ∧ Xi S 904 30 ≤ 64 := hH.c _ _
  have hc32 : 0 ≤ Xi S 904 32 ∧ Xi S 904 32 ≤ 12 := hH.c _ _
  have hc41 : 0 ≤ Xi S 904 41 ∧ Xi S 904 41 ≤ 6 := hH.c _ _
  have hc47 : 0 ≤ Xi S 904 47 ∧ Xi S 904 47 ≤ 8 := hH.c _ _
  have hc49 : 0 ≤ Xi S 904 49 ∧ Xi S 904 49 ≤ 12 := hH.c _ _
  have hc15 : 0 ≤ Xi S 904 15 ∧ Xi S 904 15 ≤ 300 := hH.c _ _
  have hc117 : 0 ≤ Xi S 904 117 ∧ Xi S 904 117 ≤ 480 := hH.c _ _
  have hc125 : 0 ≤ Xi S 904 125 ∧ Xi S 904 125 ≤ 192 := hH.c _ _
  have hc130 : 0 ≤ Xi S 904 130 ∧ Xi S 904 130 ≤ 24 := hH.c _ _
  have hl9 := lcn_le hH hLC
  intro T24 hHT24 hFT24 v2 w581 w582 w583 w584 w585 w586 w587 w588 w589 w590 w591 w592 w593 w594 w595 M403 L403 g403 w403 o403 x403 X406 W406 B406 V406 VC406 WD406
  have w596 : Xi T24 904 110 = Xi S 904 110 := hFT24.x _ _ rfl
  have w597 : Xi T24 904 112 = Xi S 904 112 := hFT24.x _ _ rfl
  have w598 : Xi T24 904 142 = Xi S 904 142 := hFT24.x _ _ rfl
  have w599 : Xi T24 904 69 = Xi S 904 69 := hFT24.x _ _ rfl
  have w600 : Xi T24 904 70 = Xi S 904 70 := hFT24.x _ _ rfl
  have w601 : Xi T24 904 71 = Xi S 904 71 := hFT24.x _ _ rfl
  have w602 : Xi T24 904 72 = Xi S 904 72 := hFT24.x _ _ rfl
  have w603 : Xi T24 904 74 = Xi S 904 74 := hFT24.x _ _ rfl
  have w604 : Xi T24 904 78 = Xi S 904 78 := hFT24.x _ _ rfl
  have w605 : Xi T24 904 94 = Xi S 904 94 := hFT24.x _ _ rfl
  have w606 : Xi T24 951 1 = Xi S 951 1 := hFT24.x _ _ rfl
  have w607 : Xi T24 951 2 = Xi S 951 2 := hFT24.x _ _ rfl
  have w608 : Xi T24 967 0 = Xi S 967 0 := hFT24.x _ _ rfl
  have w609 : 0 ≤ Xi T24 904 117 ∧ Xi T24 904 117 ≤ 480 := hHT24.c _ _
  have w610 : 0 ≤ Xi T24 904 15 ∧ Xi T24 904 15 ≤ 300 := hHT24.c _ _
  have w611 : 0 ≤ Xi T24 904 16 ∧ Xi T24 904 16 ≤ 16 := hHT24.c _ _
  have w612 : 0 ≤ Xi T24 904 18 ∧ Xi T24 904 18 ≤ 8 := hHT24.c _ _
  have w613 : 0 ≤ Xi T24 904 19 ∧ Xi T24 904 19 ≤ 24 := hHT24.c _ _
  have w614 : 0 ≤ Xi T24 904 23 ∧ Xi T24 904 23 ≤ 24 := hHT24.c _ _
  have w615 : 0 ≤ Xi T24 904 30 ∧ Xi T24 904 30 ≤ 64 := hHT24.c _ _
  have w616 : 0 ≤ Xi T24 904 32 ∧ Xi T24 904 32 ≤ 12 := hHT24.c _ _
  have w617 : 0 ≤ Xi T24 904 41 ∧ Xi T24 904 41 ≤ 6 := hHT24.c _ _
  have w618 : 0 ≤ Xi T24 904 47 ∧ Xi T24 904 47 ≤ 8 := hHT24.c _ _
  have w619 : 0 ≤ Xi T24 904 49 ∧ Xi T24 904 49 ≤ 12 := hHT24.c _ _
  have w620 : -1 ≤ Xi T24 904 60 ∧ Xi T24 904 60 ≤ 23 := hHT24.c _ _
  refine l_aload_n rfl rfl ?_
  have d382 := hk.2.2.2.2.2.2.2.2.2.2.2.2.2.1 (by omega)
  have s382 := hq.2.2.2.2.2.2.2.2.2 (by omega)
  have a382 := d382.2.1
  have l403 := lcn_le hHT24 L403
  refine l_iconst rfl ?_
  refine l_aload_n rfl rfl ?_
  refine l_aload_n rfl rfl ?_
  refine l_iconst rfl ?_
  refine l_iconst rfl ?_
  have w627 : 0 ≤ Xi T24 904 69 ∧ Xi T24 904 69 ≤ 2600 := hHT24.c _ _
  refine l_callV rfl rfl rfl (t_mo_meansRun__2 hHT24 n 0 0 ⟨by omega, by omega⟩ ⟨by omega, by omega⟩ (by first | assumption | exact (TK_FR hFT24 rfl (by assumption : TK S _))) (by first | assumption | exact (RNV_FR hFT24 rfl (by assumption : RNV S _))) (by first | assumption | omega) (by first | assumption | exact (by assumption : LXM T24)) _) ?_
  rintro _ _ ⟨rfl, z630, rfl, w630, w628, w629⟩
  show Rl _ _ _ _ _ [iv z630, .ref 904, iv 5, .ref 904] _ _
  have x412 : z630 ≠ -1 → z630 < 16 := fun q => by have t := (by assumption : z630 ≠ -1 → z630 < cM T24 0) q; rw [cM0] at t; have u : Xi T24 904 16 ≤ 16 := (hHT24.c 904 16).2; omega
  have r412 : z630 = rnR T24 0 0 := by assumption
  refine l_iload_n rfl rfl ?_
  refine l_callV rfl rfl rfl (t_mo_addAdjective hHT24 z630 v2 ⟨by omega, by omega⟩ ⟨by omega, by omega⟩ (by first | assumption | omega) _) ?_
  rintro _ T25 ⟨hHT25, w640, z639, rfl, w639, w637, w638, e416, k416⟩
  have hFT25 : FR md_mo_does__g S T25 := FR.tr hFT24 w640 rfl
  show Rl _ _ _ _ _ [iv z639, iv 5, .ref 904] _ _
  have g416 : GR T25 T24 := gr_m GR.rf (Int.le_of_eq ((by assumption : FR md_mo_addAdjective T24 T25).x 904 16 rfl).symm) (Int.le_of_eq ((by assumption : FR md_mo_addAdjective T24 T25).x 904 18 rfl).symm) (Int.le_of_eq ((by assumption : FR md_mo_addAdjective T24 T25).x 904 19 rfl).symm) (by omega) (Int.le_of_eq ((by assumption : FR md_mo_addAdjective T24 T25).x 904 30 rfl).symm) (Int.le_of_eq ((by assumption : FR md_mo_addAdjective T24 T25).x 904 32 rfl).symm) (Int.le_of_eq ((by assumption : FR md_mo_addAdjective T24 T25).x 904 41 rfl).symm) (Int.le_of_eq ((by assumption : FR md_mo_addAdjective T24 T25).x 904 47 rfl).symm) (Int.le_of_eq ((by assumption : FR md_mo_addAdjective T24 T25).x 904 49 rfl).symm) (fun i hi => ⟨(k416 i hi).2.1, ((by assumption : FR md_mo_addAdjective T24 T25).cx 923 rfl i).1, (k416 i hi).2.2⟩) (fun i _ => ((by assumption : FR md_mo_addAdjective T24 T25).cx 928 rfl i).1) (fun i _ => ((by assumption : FR md_mo_addAdjective T24 T25).cx 942 rfl i).1)
  have x416 : LXK T25 T24 (Xi T24 904 15) := LXK_FR (by assumption : FR md_mo_addAdjective T24 T25) rfl
  have c416 : Xi T25 904 15 = Xi T24 904 15 := (by assumption : FR md_mo_addAdjective T24 T25).x 904 15 rfl
  have o416 : (Xi T25 922 (Xi S 904 23).toNat = Xi S 904 23 + 1 ∧ Xi T25 924 (Xi S 904 23).toNat = 0) ∧ (Xi T25 922 (Xi T24 904 23).toNat = Xi S 904 23 ∧ Xi T25 924 (Xi T24 904 23).toNat = 0) := (by have t := k416 (Xi S 904 23).toNat (by omega); refine ⟨⟨t.2.1.trans o403.1, t.2.2.trans o403.2⟩, ?_, e416.2⟩; rw [e416.1]; omega)
  refine l_iconst rfl ?_
  have w641 : Xi T25 904 117 = Xi T24 904 117 := (show Xi T25 904 117 = Xi T24 904 117 from w640.x _ _ rfl)
  have w643 : Xi T25 904 15 = Xi T24 904 15 := (show Xi T25 904 15 = Xi T24 904 15 from w640.x _ _ rfl)
  have w645 : Xi T25 904 16 = Xi T24 904 16 := (show Xi T25 904 16 = Xi T24 904 16 from w640.x _ _ rfl)
  have w647 : Xi T25 904 19 = Xi T24 904 19 := (show Xi T25 904 19 = Xi T24 904 19 from w640.x _ _ rfl)
  have w649 : 0 ≤ Xi T25 904 23 ∧ Xi T25 904 23 ≤ 24 := hHT25.c _ _
  have w650 : Xi T25 904 60 = Xi T24 904 60 := (show Xi T25 904 60 = Xi T24 904 60 from w640.x _ _ rfl)
  have w652 : Xi T25 904 69 = Xi T24 904 69 := (show Xi T25 904 69 = Xi T24 904 69 from w640.x _ _ rfl)
  refine l_callV rfl rfl rfl (t_mo_tellRun hHT25 n 5 z639 2 ⟨by omega, by omega⟩ ⟨by omega, by omega⟩ ⟨by omega, by omega⟩ (by first | assumption | exact (TK_FR hFT25 rfl (by assumption : TK S _))) (by first | assumption | exact (RNV_FR hFT25 rfl (by assumption : RNV S _))) (by first | assumption | omega) (by first | (rw [(hFT25.cx 951 rfl _).1]; exact d382.2.2.1) | (rw [(hFT25.cx 951 rfl _).1]; exact d382.2.2.2) | (rw [(hFT25.cx 951 rfl _).1]; exact d426.2.1) | (rw [(hFT25.cx 951 rfl _).1]; have t := d300.2.2 v2 (by omega) (by omega); rw [show Xi T24 904 71 = Xi S 904 71 by omega]; exact t)) (by first | omega | (have t := lcn_le hHT24 L300; omega)) _) ?_
  rintro _ T26 ⟨hHT26, w656, rfl, w654, e420, k420⟩
  have hFT26 : FR md_mo_does__g S T26 := FR.tr hFT25 w656 rfl
  show Rl _ _ _ _ _ [] _ _
  have y420_117 : Xi T26 904 117 = Xi T24 904 117 := ((show Xi T26 904 117 = Xi T25 904 117 from w656.x _ _ rfl).trans ((show Xi T25 904 117 = Xi T24 904 117 from w640.x _ _ rfl)))
  have g420 : GR T26 T24 := GR_FR (by assumption : FR md_mo_tellRun T25 T26) rfl g416
  have G420 : GR T26 S := g403.tr g420
  have x420 : LXK T26 T24 (Xi T24 904 15) := x416.tr k420 (by omega)
  have h420 : 0 ≤ Xi T24 904 15 := (hHT24.c 904 15).1
  have f420 : Xi T26 904 23 = Xi T24 904 23 + 1 := by have t : Xi T26 904 23 = Xi T25 904 23 := (by assumption : FR md_mo_tellRun T25 T26).x 904 23 rfl; omega
  have d420 : Xi T26 915 (Xi T24 904 15).toNat < cM T26 (Xi T26 914 (Xi T24 904 15).toNat) := by rw [← c416, e420.1, e420.2, cM5]; omega
  have M420 : LXM T26 := lxm_gr M403 x420 g420 (by omega) (Or.inr ⟨by omega, d420⟩)
  have y420_16 : Xi T26 904 16 = Xi T24 904 16 := ((show Xi T26 904 16 = Xi T25 904 16 from w656.x _ _ rfl).trans ((show Xi T25 904 16 = Xi T24 904 16 from w640.x _ _ rfl)))
  have y420_18 : Xi T26 904 18 = Xi T24 904 18 := ((show Xi T26 904 18 = Xi T25 904 18 from w656.x _ _ rfl).trans ((show Xi T25 904 18 = Xi T24 904 18 from w640.x _ _ rfl)))
  have y420_19 : Xi T26 904 19 = Xi T24 904 19 := ((show Xi T26 904 19 = Xi T25 904 19 from w656.x _ _ rfl).trans ((show Xi T25 904 19 = Xi T24 904 19 from w640.x _ _ rfl)))
  have y420_30 : Xi T26 904 30 = Xi T24 904 30 := ((show Xi T26 904 30 = Xi T25 904 30 from w656.x _ _ rfl).trans ((show Xi T25 904 30 = Xi T24 904 30 from w640.x _ _ rfl)))
  have y420_32 : Xi T26 904 32 = Xi T24 904 32 := ((show Xi T26 904 32 = Xi T25 904 32 from w656.x _ _ rfl).trans ((show Xi T25 904 32 = Xi T24 904 32 from w640.x _ _ rfl)))
  have y420_41 : Xi T26 904 41 = Xi T24 904 41 := ((show Xi T26 904 41 = Xi T25 904 41 from w656.x _ _ rfl).trans ((show Xi T25 904 41 = Xi T24 904 41 from w640.x _ _ rfl)))
  have y420_47 : Xi T26 904 47 = Xi T24 904 47 := ((show Xi T26 904 47 = Xi T25 904 47 from w656.x _ _ rfl).trans ((show Xi T25 904 47 = Xi T24 904 47 from w640.x _ _ rfl)))
  have y420_49 : Xi T26 904 49 = Xi T24 904 49 := ((show Xi T26 904 49 = Xi T25 904 49 from w656.x _ _ rfl).trans ((show Xi T25 904 49 = Xi T24 904 49 from w640.x _ _ rfl)))
  have L420 : LCN T26 := lcn_i L403 (pls_le x420 (by omega) (by omega) (by omega)) (by omega)
  have o420 : (Xi T26 922 (Xi S 904 23).toNat = Xi S 904 23 + 1 ∧ Xi T26 924 (Xi S 904 23).toNat = 0) ∧ (Xi T26 922 (Xi T24 904 23).toNat = Xi S 904 23 ∧ Xi T26 924 (Xi T24 904 23).toNat = 0) := ⟨⟨((by assumption : FR md_mo_tellRun T25 T26).cx 922 rfl _).1.trans o416.1.1, ((by assumption : FR md_mo_tellRun T25 T26).cx 924 rfl _).1.trans o416.1.2⟩, ((by assumption : FR md_mo_tellRun T25 T26).cx 922 rfl _).1.trans o416.2.1, ((by assumption : FR md_mo_tellRun T25 T26).cx 924 rfl _).1.trans o416.2.2⟩
  have N420 : ∀ a : Nat, Xi S 904 23 ≤ (a : Int) → (a : Int) < Xi T26 904 23 → Xi T26 924 a = 0 ∧ Xi T26 922 a ≠ -1 := nadj2 (by omega) (by omega) ⟨o420.1, by rw [show Xi S 904 23 + 1 = Xi T24 904 23 by omega]; exact o420.2⟩
  have C420 : DCM T26 := dcm_gr hC G420 (fun a x y _ => (N420 a x y).2)
  have R420 : RDT T26 := rdt_gr hRD G420 (by omega) (hFT26.x 904 125 rfl) (hFT26.x 904 130 rfl) (smk_q9 hFT26 rfl) (fun a x y => (N420 a x y).1)
  refine l_goto rfl rfl ?_
  refine l_return rfl rfl ?_
  have w657 : Xi T26 904 117 = Xi T24 904 117 := (show Xi T26 904 117 = Xi T25 904 117 from w656.x _ _ rfl).trans ((show Xi T25 904 117 = Xi T24 904 117 from w640.x _ _ rfl))
  have w659 : 0 ≤ Xi T26 904 15 ∧ Xi T26 904 15 ≤ 300 := hHT26.c _ _
  have w660 : Xi T26 904 16 = Xi T24 904 16 := (show Xi T26 904 16 = Xi T25 904 16 from w656.x _ _ rfl).trans ((show Xi T25 904 16 = Xi T24 904 16 from w640.x _ _ rfl))
  have w662 : Xi T26 904 19 = Xi T24 904 19 := (show Xi T26 904 19 = Xi T25 904 19 from w656.x _ _ rfl).trans ((show Xi T25 904 19 = Xi T24 904 19 from w640.x _ _ rfl))
  have w664 : Xi T26 904 23 = Xi T25 904 23 := (show Xi T26 904 23 = Xi T25 904 23 from w656.x _ _ rfl)
  have w666 : Xi T26 904 60 = Xi T24 904 60 := (show Xi T26 904 60 = Xi T25 904 60 from w656.x _ _ rfl).trans ((show Xi T25 904 60 = Xi T24 904 60 from w640.x _ _ rfl))
  exact ⟨hHT26, hFT26, rfl, (⟨by first | assumption | exact (TXM_FR w656 rfl (TXM_FR w640 rfl (by assumption : TXM T24))), by first | assumption | exact (WYM_FR w656 rfl (WYM_FR w640 rfl (by assumption : WYM T24))), by first | assumption | exact (by assumption : LXM T26), by first | assumption | exact (by assumption : LCN T26), by first | assumption | exact (ABV_FR w656 rfl (ABV_FR w640 rfl (by assumption : ABV T24))), by first | assumption | exact (DCM_FR w656 rfl (by assumption : DCM T25)), by first | assumption | exact (VTM_FR w656 rfl (VTM_FR w640 rfl (by assumption : VTM T24))), by first | assumption | exact (VCN_FR w656 rfl (VCN_FR w640 rfl (by assumption : VCN T24))), by first | assumption | exact (WYD_FR w656 rfl (WYD_FR w640 rfl (by assumption : WYD T24))), by first | assumption | exact (RDT_FR hHT25 w656 rfl rfl rfl (by assumption : RDT T25)) | exact rdt_df hRD (GR_FR w656 rfl (GR.tr (by assumption : GR T24 S) (by assumption : GR T25 T24))) df153 (by omega) (by omega) (by omega) (hFT26.x 904 125 rfl) (hFT26.x 904 130 rfl) (smk_q9 hFT26 rfl) dn153 | exact rdt_gr hRD (by first | assumption | exact (GR_FR w656 rfl (GR.tr (by assumption : GR T24 S) (by assumption : GR T25 T24)))) (by omega) (hFT26.x 904 125 rfl) (hFT26.x 904 130 rfl) (smk_q9 hFT26 rfl) (fun a x y => absurd y (by omega)), akr_gr hAK (by first | assumption | exact (GR_FR w656 rfl (GR.tr (by assumption : GR T24 S) (by assumption : GR T25 T24)))), by first | omega | (have g := (by first | assumption | exact (GR_FR w656 rfl (GR.tr (by assumption : GR T24 S) (by assumption : GR T25 T24))) : GR T26 S); have t := g.1; omega), by first | omega | (have g := (by first | assumption | exact (GR_FR w656 rfl (GR.tr (by assumption : GR T24 S) (by assumption : GR T25 T24))) : GR T26 S); have t := g.1; omega)⟩), (by first | assumption | exact (GR_FR w656 rfl (GR.tr (by assumption : GR T24 S) (by assumption : GR T25 T24))))⟩
set_option maxRecDepth 100000 in
set_option maxHeartbeats 1000000 in
theorem c382_mo_does__g {S : sS} (hH : HI S) (n : Nat) (first : Int) (hfirst : 0 ≤ first ∧ first ≤ 5001) (hT : TK S n) (hv : RNV S n) (hK : TXK S n) (hI : TIX S) (hq : SNQ S n) (hk : DOK S) (h11 : Xi S 904 70 = 11 → -1 ≤ Xi S 904 78) (d : Nat) : (Xi S 904 70 = 18) → Rl lay0 (d + 7) m_mo_does 382 [(0, .ref 904)] [] S (Q_mo_does__g S n first) := by
  have C406 := c406_mo_does__g hH n first hfirst hT hv hK hI hq hk h11 d 
  have hF : FR md_mo_does__g S S := FR.rf
  have w1 : 0 ≤ Xi S 904 117 ∧ Xi S 904 117 ≤ 480 := hH.c _ _
  have w2 : 0 ≤ Xi S 904 15 ∧ Xi S 904 15 ≤ 300 := hH.c _ _
  have w3 : 0 ≤ Xi S 904 16 ∧ Xi S 904 16 ≤ 16 := hH.c _ _
  have w4 : 0 ≤ Xi S 904 18 ∧ Xi S 904 18 ≤ 8 := hH.c _ _
  have w5 : 0 ≤ Xi S 904 19 ∧ Xi S 904 19 ≤ 24 := hH.c _ _
  have w6 : 0 ≤ Xi S 904 23 ∧ Xi S 904 23 ≤ 24 := hH.c _ _
  have w7 : 0 ≤ Xi S 904 30 ∧ Xi S 904 30 ≤ 64 := hH.c _ _
  have w8 : 0 ≤ Xi S 904 32 ∧ Xi S 904 32 ≤ 12 := hH.c _ _
  have w9 : 0 ≤ Xi S 904 41 ∧ Xi S 904 41 ≤ 6 := hH.c _ _
  have w10 : 0 ≤ Xi S 904 47 ∧ Xi S 904 47 ≤ 8 := hH.c _ _
  have w11 : 0 ≤ Xi S 904 49 ∧ Xi S 904 49 ≤ 12 := hH.c _ _
  have w12 : -1 ≤ Xi S 904 60 ∧ Xi S 904 60 ≤ 23 := hH.c _ _
  have w13 : 0 ≤ Xi S 904 69 ∧ Xi S 904 69 ≤ 2600 := hH.c _ _
  have w14 : 0 ≤ Xi S 904 70 ∧ Xi S 904 70 ≤ 20 := hH.c _ _
  have w15 : 0 ≤ Xi S 904 71 ∧ Xi S 904 71 ≤ 2600 := hH.c _ _
  have w16 : 0 ≤ Xi S 904 72 ∧ Xi S 904 72 ≤ 2600 := hH.c _ _
  have w17 : -2 ≤ Xi S 904 78 ∧ Xi S 904 78 ≤ 5010 := hH.c _ _
  have hX : TXM S := hI.1
  have hW : WYM S := hI.2.1
  have hM : LXM S := hI.2.2.1
  have hLC : LCN S := hI.2.2.2.1
  have hB : ABV S := hI.2.2.2.2.1
  have hC : DCM S := hI.2.2.2.2.2.1
  have hV : VTM S := hI.2.2.2.2.2.2.1
  have hVC : VCN S := hI.2.2.2.2.2.2.2.1
  have hWD : WYD S := hI.2.2.2.2.2.2.2.2.1
  have hRD : RDT S := hI.2.2.2.2.2.2.2.2.2.1
  have hAK : AKR S := hI.2.2.2.2.2.2.2.2.2.2.1
  have hd6 : Xi S 904 60 < Xi S 904 19 := hI.2.2.2.2.2.2.2.2.2.2.2.1
  have h16 : 2 ≤ Xi S 904 16 := hI.2.2.2.2.2.2.2.2.2.2.2.2
  have h32 : 1 ≤ Xi S 904 32 := hAK.2.2.2.2.2.2.2
  have hn5 := hT.1
  have hc69 : 0 ≤ Xi S 904 69 ∧ Xi S 904 69 ≤ 2600 := hH.c _ _
  have hc70 : 0 ≤ Xi S 904 70 ∧ Xi S 904 70 ≤ 20 := hH.c _ _
  have hc16 : 0 ≤ Xi S 904 16 ∧ Xi S 904 16 ≤ 16 := hH.c _ _
  have hc18 : 0 ≤ Xi S 904 18 ∧ Xi S 904 18 ≤ 8 := hH.c _ _
  have hc19 : 0 ≤ Xi S 904 19 ∧ Xi S 904 19 ≤ 24 := hH.c _ _
  have hc23 : 0 ≤ Xi S 904 23 ∧ Xi S 904 23 ≤ 24 := hH.c _ _
  have hc30 : 0 ≤ Xi S 904 30 ∧ Xi S 904 30 ≤ 64 := hH.c _ _
  have hc32 : 0 ≤ Xi S 904 32 ∧ Xi S 904 32 ≤ 12 := hH.c _ _
  have hc41 : 0 ≤ Xi S 904 41 ∧ Xi S 904 41 ≤ 6 := hH.c _ _
  have hc47 : 0 ≤ Xi S 904 47 ∧ Xi S 904 47 ≤ 8 := hH.c _ _
  have hc49 : 0 ≤ Xi S 904 49 ∧ Xi S 904 49 ≤ 12 := hH.c _ _
  have hc15 : 0 ≤ Xi S 904 15 ∧ Xi S 904 15 ≤ 300 := hH.c _ _
  have hc117 : 0 ≤ Xi S 904 117 ∧ Xi S 904 117 ≤ 480 := hH.c _ _
  have hc125 : 0 ≤ Xi S 904 125 ∧ Xi S 904 125 ≤ 192 := hH.c _ _
  have hc130 : 0 ≤ Xi S 904 130 ∧ Xi S 904 130 ≤ 24 := hH.c _ _
  have hl9 := lcn_le hH hLC
  intro w668
  refine l_aload_n rfl rfl ?_
  have d382 := hk.2.2.2.2.2.2.2.2.2.2.2.2.2.1 (by omega)
  have s382 := hq.2.2.2.2.2.2.2.2.2 (by omega)
  have a382 := d382.2.1
  have n382 := d382.1
  refine l_aload_n rfl rfl ?_
  refine l_iconst rfl ?_
  refine l_iconst rfl ?_
  refine l_callV rfl rfl rfl (t_mo_meansRun__2 hH n 0 0 ⟨by omega, by omega⟩ ⟨by omega, by omega⟩ (by first | assumption | exact (TK_FR hF rfl (by assumption : TK S _))) (by first | assumption | exact (RNV_FR hF rfl (by assumption : RNV S _))) (by first | assumption | omega) (by first | assumption | exact (by assumption : LXM S)) _) ?_
  rintro _ _ ⟨rfl, z678, rfl, w678, w676, w677⟩
  show Rl _ _ _ _ _ [iv z678, .ref 904] _ _
  have x386 : z678 ≠ -1 → z678 < 16 := fun q => by have t := (by assumption : z678 ≠ -1 → z678 < cM S 0) q; rw [cM0] at t; omega
  have r386 : z678 = rnR S 0 0 := by assumption
  refine l_aload_n rfl rfl ?_
  refine l_gfi rfl rfl rfl rfl rfl ?_
  refine l_iconst rfl ?_
  refine l_iadd rfl ?_
  refine l_callV rfl rfl rfl (t_mo_addAdjective hH z678 ((Xi S 904 23) + 1) ⟨by omega, by omega⟩ ⟨by omega, by omega⟩ (by first | assumption | omega) _) ?_
  rintro _ T27 ⟨hHT27, w688, z687, rfl, w687, w685, w686, e395, k395⟩
  have hFT27 : FR md_mo_does__g S T27 := FR.tr hF w688 rfl
  show Rl _ _ _ _ _ [iv z687] _ _
  have g395 : GR T27 S := gr_m GR.rf (Int.le_of_eq ((by assumption : FR md_mo_addAdjective S T27).x 904 16 rfl).symm) (Int.le_of_eq ((by assumption : FR md_mo_addAdjective S T27).x 904 18 rfl).symm) (Int.le_of_eq ((by assumption : FR md_mo_addAdjective S T27).x 904 19 rfl).symm) (by omega) (Int.le_of_eq ((by assumption : FR md_mo_addAdjective S T27).x 904 30 rfl).symm) (Int.le_of_eq ((by assumption : FR md_mo_addAdjective S T27).x 904 32 rfl).symm) (Int.le_of_eq ((by assumption : FR md_mo_addAdjective S T27).x 904 41 rfl).symm) (Int.le_of_eq ((by assumption : FR md_mo_addAdjective S T27).x 904 47 rfl).symm) (Int.le_of_eq ((by assumption : FR md_mo_addAdjective S T27).x 904 49 rfl).symm) (fun i hi => ⟨(k395 i hi).2.1, ((by assumption : FR md_mo_addAdjective S T27).cx 923 rfl i).1, (k395 i hi).2.2⟩) (fun i _ => ((by assumption : FR md_mo_addAdjective S T27).cx 928 rfl i).1) (fun i _ => ((by assumption : FR md_mo_addAdjective S T27).cx 942 rfl i).1)
  have x395 : LXK T27 S (Xi S 904 15) := LXK_FR (by assumption : FR md_mo_addAdjective S T27) rfl
  have c395 : Xi T27 904 15 = Xi S 904 15 := (by assumption : FR md_mo_addAdjective S T27).x 904 15 rfl
  have o395 : Xi T27 922 (Xi S 904 23).toNat = Xi S 904 23 + 1 ∧ Xi T27 924 (Xi S 904 23).toNat = 0 := e395
  refine l_istore_n rfl rfl rfl ?_
  refine l_aload_n rfl rfl ?_
  refine l_iconst rfl ?_
  refine l_iload_n rfl rfl ?_
  refine l_iconst rfl ?_
  have w689 : Xi T27 904 117 = Xi S 904 117 := (show Xi T27 904 117 = Xi S 904 117 from w688.x _ _ rfl)
  have w691 : Xi T27 904 15 = Xi S 904 15 := (show Xi T27 904 15 = Xi S 904 15 from w688.x _ _ rfl)
  have w693 : Xi T27 904 16 = Xi S 904 16 := (show Xi T27 904 16 = Xi S 904 16 from w688.x _ _ rfl)
  have w695 : Xi T27 904 19 = Xi S 904 19 := (show Xi T27 904 19 = Xi S 904 19 from w688.x _ _ rfl)
  have w697 : 0 ≤ Xi T27 904 23 ∧ Xi T27 904 23 ≤ 24 := hHT27.c _ _
  have w698 : Xi T27 904 60 = Xi S 904 60 := (show Xi T27 904 60 = Xi S 904 60 from w688.x _ _ rfl)
  have w700 : Xi T27 904 69 = Xi S 904 69 := (show Xi T27 904 69 = Xi S 904 69 from w688.x _ _ rfl)
  refine l_callV rfl rfl rfl (t_mo_tellRun hHT27 n 5 z687 1 ⟨by omega, by omega⟩ ⟨by omega, by omega⟩ ⟨by omega, by omega⟩ (by first | assumption | exact (TK_FR hFT27 rfl (by assumption : TK S _))) (by first | assumption | exact (RNV_FR hFT27 rfl (by assumption : RNV S _))) (by first | assumption | omega) (by first | (rw [(hFT27.cx 951 rfl _).1]; exact d382.2.2.1) | (rw [(hFT27.cx 951 rfl _).1]; exact d382.2.2.2) | (rw [(hFT27.cx 951 rfl _).1]; exact d426.2.1) | (rw [(hFT27.cx 951 rfl _).1]; have t := d300.2.2 v2 (by omega) (by omega); rw [show Xi S 904 71 = Xi S 904 71 by omega]; exact t)) (by first | omega | (have t := lcn_le hH L300; omega)) _) ?_
  rintro _ T28 ⟨hHT28, w704, rfl, w702, e403, k403⟩
  have hFT28 : FR md_mo_does__g S T28 := FR.tr hFT27 w704 rfl
  show Rl _ _ _ _ _ [] _ _
  have g403 : GR T28 S := GR_FR (by assumption : FR md_mo_tellRun T27 T28) rfl g395
  have x403 : LXK T28 S (Xi S 904 15) := x395.tr k403 (by omega)
  have f403 : Xi T28 904 23 = Xi S 904 23 + 1 := by have t : Xi T28 904 23 = Xi T27 904 23 := (by assumption : FR md_mo_tellRun T27 T28).x 904 23 rfl; omega
  have d403 : Xi T28 915 (Xi S 904 15).toNat < cM T28 (Xi T28 914 (Xi S 904 15).toNat) := by rw [← c395, e403.1, e403.2, cM5]; omega
  have M403 : LXM T28 := lxm_gr hM x403 g403 (by omega) (Or.inr ⟨by omega, d403⟩)
  have y403_16 : Xi T28 904 16 = Xi S 904 16 := ((show Xi T28 904 16 = Xi T27 904 16 from w704.x _ _ rfl).trans ((show Xi T27 904 16 = Xi S 904 16 from w688.x _ _ rfl)))
  have y403_18 : Xi T28 904 18 = Xi S 904 18 := ((show Xi T28 904 18 = Xi T27 904 18 from w704.x _ _ rfl).trans ((show Xi T27 904 18 = Xi S 904 18 from w688.x _ _ rfl)))
  have y403_19 : Xi T28 904 19 = Xi S 904 19 := ((show Xi T28 904 19 = Xi T27 904 19 from w704.x _ _ rfl).trans ((show Xi T27 904 19 = Xi S 904 19 from w688.x _ _ rfl)))
  have y403_30 : Xi T28 904 30 = Xi S 904 30 := ((show Xi T28 904 30 = Xi T27 904 30 from w704.x _ _ rfl).trans ((show Xi T27 904 30 = Xi S 904 30 from w688.x _ _ rfl)))
  have y403_32 : Xi T28 904 32 = Xi S 904 32 := ((show Xi T28 904 32 = Xi T27 904 32 from w704.x _ _ rfl).trans ((show Xi T27 904 32 = Xi S 904 32 from w688.x _ _ rfl)))
  have y403_41 : Xi T28 904 41 = Xi S 904 41 := ((show Xi T28 904 41 = Xi T27 904 41 from w704.x _ _ rfl).trans ((show Xi T27 904 41 = Xi S 904 41 from w688.x _ _ rfl)))
  have y403_47 : Xi T28 904 47 = Xi S 904 47 := ((show Xi T28 904 47 = Xi T27 904 47 from w704.x _ _ rfl).trans ((show Xi T27 904 47 = Xi S 904 47 from w688.x _ _ rfl)))
  have y403_49 : Xi T28 904 49 = Xi S 904 49 := ((show Xi T28 904 49 = Xi T27 904 49 from w704.x _ _ rfl).trans ((show Xi T27 904 49 = Xi S 904 49 from w688.x _ _ rfl)))
  have L403 : LCN T28 := lcn_i hLC (pls_le x403 (by omega) (by omega) (by omega)) (by omega)
  have l403 := lcn_le hHT28 L403
  have w403 : rnR T28 0 0 ≠ -1 := rn_up2 n382 x403 (by omega) (by omega) (fun j => (hFT28.cx 910 rfl j).2) (fun j => (hFT28.cx 950 rfl j).1) (fun j => (hFT28.cx 951 rfl j).1) rfl
  have o403 : Xi T28 922 (Xi S 904 23).toNat = Xi S 904 23 + 1 ∧ Xi T28 924 (Xi S 904 23).toNat = 0 := ⟨((by assumption : FR md_mo_tellRun T27 T28).cx 922 rfl _).1.trans o395.1, ((by assumption : FR md_mo_tellRun T27 T28).cx 924 rfl _).1.trans o395.2⟩
  have y403_60 : Xi T28 904 60 = Xi S 904 60 := ((show Xi T28 904 60 = Xi T27 904 60 from w704.x _ _ rfl).trans ((show Xi T27 904 60 = Xi S 904 60 from w688.x _ _ rfl)))
  have y403_117 : Xi T28 904 117 = Xi S 904 117 := ((show Xi T28 904 117 = Xi T27 904 117 from w704.x _ _ rfl).trans ((show Xi T27 904 117 = Xi S 904 117 from w688.x _ _ rfl)))
  have w705 : Xi T28 904 117 = Xi S 904 117 := (show Xi T28 904 117 = Xi T27 904 117 from w704.x _ _ rfl).trans ((show Xi T27 904 117 = Xi S 904 117 from w688.x _ _ rfl))
  have w707 : 0 ≤ Xi T28 904 15 ∧ Xi T28 904 15 ≤ 300 := hHT28.c _ _
  have w708 : Xi T28 904 16 = Xi S 904 16 := (show Xi T28 904 16 = Xi T27 904 16 from w704.x _ _ rfl).trans ((show Xi T27 904 16 = Xi S 904 16 from w688.x _ _ rfl))
  have w710 : Xi T28 904 18 = Xi S 904 18 := (show Xi T28 904 18 = Xi T27 904 18 from w704.x _ _ rfl).trans ((show Xi T27 904 18 = Xi S 904 18 from w688.x _ _ rfl))
  have w712 : Xi T28 904 19 = Xi S 904 19 := (show Xi T28 904 19 = Xi T27 904 19 from w704.x _ _ rfl).trans ((show Xi T27 904 19 = Xi S 904 19 from w688.x _ _ rfl))
  have w714 : Xi T28 904 23 = Xi T27 904 23 := (show Xi T28 904 23 = Xi T27 904 23 from w704.x _ _ rfl)
  have w716 : Xi T28 904 30 = Xi S 904 30 := (show Xi T28 904 30 = Xi T27 904 30 from w704.x _ _ rfl).trans ((show Xi T27 904 30 = Xi S 904 30 from w688.x _ _ rfl))
  have w718 : Xi T28 904 32 = Xi S 904 32 := (show Xi T28 904 32 = Xi T27 904 32 from w704.x _ _ rfl).trans ((show Xi T27 904 32 = Xi S 904 32 from w688.x _ _ rfl))
  have w720 : Xi T28 904 41 = Xi S 904 41 := (show Xi T28 904 41 = Xi T27 904 41 from w704.x _ _ rfl).trans ((show Xi T27 904 41 = Xi S 904 41 from w688.x _ _ rfl))
  have w722 : Xi T28 904 47 = Xi S 904 47 := (show Xi T28 904 47 = Xi T27 904 47 from w704.x _ _ rfl).trans ((show Xi T27 904 47 = Xi S 904 47 from w688.x _ _ rfl))
  have w724 : Xi T28 904 49 = Xi S 904 49 := (show Xi T28 904 49 = Xi T27 904 49 from w704.x _ _ rfl).trans ((show Xi T27 904 49 = Xi S 904 49 from w688.x _ _ rfl))
  have w726 : Xi T28 904 60 = Xi S 904 60 := (show Xi T28 904 60 = Xi T27 904 60 from w704.x _ _ rfl).trans ((show Xi T27 904 60 = Xi S 904 60 from w688.x _ _ rfl))
  exact Rl_weak (C406 T28 hHT28 hFT28 (z687) (by omega) (by omega) (by omega) (by omega) (by omega) (by omega) (by omega) (by omega) (by omega) (by omega) (by omega) (by omega) (by omega) (by omega) (by omega) (M403) (L403) (g403) (w403) (o403) (x403) (by first | assumption | exact (TXM_FR w704 rfl (TXM_FR w688 rfl (by assumption : TXM S)))) (by first | assumption | exact (WYM_FR w704 rfl (WYM_FR w688 rfl (by assumption : WYM S)))) (by first | assumption | exact (ABV_FR w704 rfl (ABV_FR w688 rfl (by assumption : ABV S)))) (by first | assumption | exact (VTM_FR w704 rfl (VTM_FR w688 rfl (by assumption : VTM S)))) (by first | assumption | exact (VCN_FR w704 rfl (VCN_FR w688 rfl (by assumption : VCN S)))) (by first | assumption | exact (WYD_FR w704 rfl (WYD_FR w688 rfl (by assumption : WYD S))))) (And.intro rfl (And.intro rfl (True.intro)))
set_option maxRecDepth 100000 in
set_option maxHeartbeats 1000000 in
theorem c426_mo_does__g {S : sS} (hH : HI S) (n : Nat) (first : Int) (hfirst : 0 ≤ first ∧ first ≤ 5001) (hT : TK S n) (hv : RNV S n) (hK : TXK S n) (hI : TIX S) (hq : SNQ S n) (hk : DOK S) (h11 : Xi S 904 70 = 11 → -1 ≤ Xi S 904 78) (d : Nat) : (Xi S 904 70 = 19) → Rl lay0 (d + 7) m_mo_does 426 [(0, .ref 904)] [] S (Q_mo_does__g S n first) := by
  have hF : FR md_mo_does__g S S := FR.rf
  have w1 : 0 ≤ Xi S 904 117 ∧ Xi S 904 117 ≤ 480 := hH.c _ _
  have w2 : 0 ≤ Xi S 904 15 ∧ Xi S 904 15 ≤ 300 := hH.c _ _
  have w3 : 0 ≤ Xi S 904 16 ∧ Xi S 904 16 ≤ 16 := hH.c _ _
  have w4 : 0 ≤ Xi S 904 18 ∧ Xi S 904 18 ≤ 8 := hH.c _ _
  have w5 : 0 ≤ Xi S 904 19 ∧ Xi S 904 19 ≤ 24 := hH.c _ _
  have w6 : 0 ≤ Xi S 904 23 ∧ Xi S 904 23 ≤ 24 := hH.c _ _
  have w7 : 0 ≤ Xi S 904 30 ∧ Xi S 904 30 ≤ 64 := hH.c _ _
  have w8 : 0 ≤ Xi S 904 32 ∧ Xi S 904 32 ≤ 12 := hH.c _ _
  have w9 : 0 ≤ Xi S 904 41 ∧ Xi S 904 41 ≤ 6 := hH.c _ _
  have w10 : 0 ≤ Xi S 904 47 ∧ Xi S 904 47 ≤ 8 := hH.c _ _
  have w11 : 0 ≤ Xi S 904 49 ∧ Xi S 904 49 ≤ 12 := hH.c _ _
  have w12 : -1 ≤ Xi S 904 60 ∧ Xi S 904 60 ≤ 23 := hH.c _ _
  have w13 : 0 ≤ Xi S 904 69 ∧ Xi S 904 69 ≤ 2600 := hH.c _ _
  have w14 : 0 ≤ Xi S 904 70 ∧ Xi S 904 70 ≤ 20 := hH.c _ _
  have w15 : 0 ≤ Xi S 904 71 ∧ Xi S 904 71 ≤ 2600 := hH.c _ _
  have w16 : 0 ≤ Xi S 904 72 ∧ Xi S 904 72 ≤ 2600 := hH.c _ _
  have w17 : -2 ≤ Xi S 904 78 ∧ Xi S 904 78 ≤ 5010 := hH.c _ _
  have hX : TXM S := hI.1
  have hW : WYM S := hI.2.1
  have hM : LXM S := hI.2.2.1
  have hLC : LCN S := hI.2.2.2.1
  have hB : ABV S := hI.2.2.2.2.1
  have hC : DCM S := hI.2.2.2.2.2.1
  have hV : VTM S := hI.2.2.2.2.2.2.1
  have hVC : VCN S := hI.2.2.2.2.2.2.2.1
  have hWD : WYD S := hI.2.2.2.2.2.2.2.2.1
  have hRD : RDT S := hI.2.2.2.2.2.2.2.2.2.1
  have hAK : AKR S := hI.2.2.2.2.2.2.2.2.2.2.1
  have hd6 : Xi S 904 60 < Xi S 904 19 := hI.2.2.2.2.2.2.2.2.2.2.2.1
  have h16 : 2 ≤ Xi S 904 16 := hI.2.2.2.2.2.2.2.2.2.2.2.2
  have h32 : 1 ≤ Xi S 904 32 := hAK.2.2.2.2.2.2.2
  have hn5 := hT.1
  have hc69 : 0 ≤ Xi S 904 69 ∧ Xi S 904 69 ≤ 2600 := hH.c _ _
  have hc70 : 0 ≤ Xi S 904 70 ∧ Xi S 904 70 ≤ 20 := hH.c _ _
  have hc16 : 0 ≤ Xi S 904 16 ∧ Xi S 904 16 ≤ 16 := hH.c _ _
  have hc18 : 0 ≤ Xi S 904 18 ∧ Xi S 904 18 ≤ 8 := hH.c _ _
  have hc19 : 0 ≤ Xi S 904 19 ∧ Xi S 904 19 ≤ 24 := hH.c _ _
  have hc23 : 0 ≤ Xi S 904 23 ∧ Xi S 904 23 ≤ 24 := hH.c _ _
  have hc30 : 0 ≤ Xi S 904 30 ∧ Xi S 904 30 ≤ 64 := hH.c _ _
  have hc32 : 0 ≤ Xi S 904 32 ∧ Xi S 904 32 ≤ 12 := hH.c _ _
  have hc41 : 0 ≤ Xi S 904 41 ∧ Xi S 904 41 ≤ 6 := hH.c _ _
  have hc47 : 0 ≤ Xi S 904 47 ∧ Xi S 904 47 ≤ 8 := hH.c _ _
  have hc49 : 0 ≤ Xi S 904 49 ∧ Xi S 904 49 ≤ 12 := hH.c _ _
  have hc15 : 0 ≤ Xi S 904 15 ∧ Xi S 904 15 ≤ 300 := hH.c _ _
  have hc117 : 0 ≤ Xi S 904 117 ∧ Xi S 904 117 ≤ 480 := hH.c _ _
  have hc125 : 0 ≤ Xi S 904 125 ∧ Xi S 904 125 ≤ 192 := hH.c _ _
  have hc130 : 0 ≤ Xi S 904 130 ∧ Xi S 904 130 ≤ 24 := hH.c _ _
  have hl9 := lcn_le hH hLC
  intro w728
  refine l_aload_n rfl rfl ?_
  have d426 := hk.2.2.2.2.2.2.2.2.2.2.2.2.2.2 (by omega)
  have s426 := hq.2.2.2.2.2.2.2.2.2 (by omega)
  have a426 := d426.1
  have b426 := d426.2.2.1
  have c426 := d426.2.2.2
  refine l_gfr rfl rfl rfl rfl rfl (hH.r 904 42 936 rfl) ?_
  refine l_aload_n rfl rfl ?_
  refine l_gfi rfl rfl rfl rfl rfl ?_
  refine l_aload_n rfl rfl ?_
  refine l_iconst rfl ?_
  refine l_callV rfl rfl rfl (t_mo_kindOrPlural__2 hH n 1 ⟨by omega, by omega⟩ (by first | assumption | exact (TK_FR hF rfl (by assumption : TK S _))) (by first | assumption | exact (RNV_FR hF rfl (by assumption : RNV S _))) (by first | assumption | omega) (by first | assumption | exact (by assumption : LXM S)) _) ?_
  rintro _ _ ⟨rfl, z738, rfl, w738, w736, w737⟩
  show Rl _ _ _ _ _ [iv z738, iv (Xi S 904 41), .ref 936] _ _
  have r436 : z738 = r2R S 1 0 1 := by assumption
  refine l_iastore (n := 6) rfl rfl (by omega) (by omega) (by unfold rg; omega) ?_
  obtain ⟨U29, eU29⟩ : ∃ T : sS, T = uI S 936 (((Xi S 904 41)).toNat) (Int32.ofInt z738) := ⟨_, rfl⟩
  rw [← eU29]
  have hHU29 : HI U29 := by rw [eU29]; exact HI_w hH (show 0 ≤ z738 by omega) (show z738 ≤ 15 by omega)
  have hFU29 : FR md_mo_does__g S U29 := by rw [eU29]; exact FR.wI hF (mdf_i (r := (936, 937, 0, 100000)) (List.mem_of_getElem? (i := 43) rfl) (inR_i (by omega) (by omega) (by omega) (by omega)))
  have w739 : Xi U29 936 (((Xi S 904 41)).toNat) = z738 := by rw [eU29]; exact Xi_same (by unfold rg; omega)
  refine l_aload_n rfl rfl ?_
  refine l_gfr rfl rfl rfl rfl rfl (hHU29.r 904 43 937 rfl) ?_
  refine l_aload_n rfl rfl ?_
  refine l_gfi rfl rfl rfl rfl rfl ?_
  have w740 : (Xi U29 904 41) = (Xi S 904 41) := (show Xi U29 904 41 = Xi S 904 41 from by rw [eU29]; exact Xi_ne (by omega))
  rw [w740]
  refine l_aload_n rfl rfl ?_
  refine l_iconst rfl ?_
  have w741 : Xi U29 904 117 = Xi S 904 117 := (show Xi U29 904 117 = Xi S 904 117 from by rw [eU29]; exact Xi_ne (by omega))
  have w743 : Xi U29 904 15 = Xi S 904 15 := (show Xi U29 904 15 = Xi S 904 15 from by rw [eU29]; exact Xi_ne (by omega))
  have w745 : Xi U29 904 16 = Xi S 904 16 := (show Xi U29 904 16 = Xi S 904 16 from by rw [eU29]; exact Xi_ne (by omega))
  have w747 : Xi U29 904 19 = Xi S 904 19 := (show Xi U29 904 19 = Xi S 904 19 from by rw [eU29]; exact Xi_ne (by omega))
  have w749 : Xi U29 904 23 = Xi S 904 23 := (show Xi U29 904 23 = Xi S 904 23 from by rw [eU29]; exact Xi_ne (by omega))
  have w751 : Xi U29 904 60 = Xi S 904 60 := (show Xi U29 904 60 = Xi S 904 60 from by rw [eU29]; exact Xi_ne (by omega))
  have w753 : Xi U29 904 69 = Xi S 904 69 := (show Xi U29 904 69 = Xi S 904 69 from by rw [eU29]; exact Xi_ne (by omega))
  refine l_callV rfl rfl rfl (t_mo_kindOrPlural__2 hHU29 n 2 ⟨by omega, by omega⟩ (by first | assumption | exact (TK_FR hFU29 rfl (by assumption : TK S _))) (by first | assumption | exact (RNV_FR hFU29 rfl (by assumption : RNV S _))) (by first | assumption | omega) (by first | assumption | exact (LXM_FR (FR_e eU29) rfl (by assumption : LXM S))) _) ?_
  rintro _ _ ⟨rfl, z757, rfl, w757, w755, w756⟩
  show Rl _ _ _ _ _ [iv z757, iv (Xi S 904 41), .ref 937] _ _
  have r450 : z757 = r2R S 2 0 1 := (by assumption : z757 = r2R U29 _ _ _).trans (r2R_FR (FR_e eU29) rfl rfl)
  refine l_iastore (n := 6) rfl rfl (by omega) (by omega) (by unfold rg; omega) ?_
  obtain ⟨U30, eU30⟩ : ∃ T : sS, T = uI U29 937 (((Xi S 904 41)).toNat) (Int32.ofInt z757) := ⟨_, rfl⟩
  rw [← eU30]
  have hHU30 : HI U30 := by rw [eU30]; exact HI_w hHU29 (show 0 ≤ z757 by omega) (show z757 ≤ 15 by omega)
  have hFU30 : FR md_mo_does__g S U30 := by rw [eU30]; exact FR.wI hFU29 (mdf_i (r := (937, 938, 0, 100000)) (List.mem_of_getElem? (i := 44) rfl) (inR_i (by omega) (by omega) (by omega) (by omega)))
  have w758 : Xi U30 937 (((Xi S 904 41)).toNat) = z757 := by rw [eU30]; exact Xi_same (by unfold rg; omega)
  refine l_aload_n rfl rfl ?_
  refine l_gfr rfl rfl rfl rfl rfl (hHU30.r 904 44 938 rfl) ?_
  refine l_aload_n rfl rfl ?_
  refine l_gfi rfl rfl rfl rfl rfl ?_
  have w759 : (Xi U30 904 41) = (Xi S 904 41) := (show Xi U30 904 41 = Xi U29 904 41 from by rw [eU30]; exact Xi_ne (by omega)).trans ((show Xi U29 904 41 = Xi S 904 41 from by rw [eU29]; exact Xi_ne (by omega)))
  rw [w759]
  refine l_aload_n rfl rfl ?_
  refine l_gfi rfl rfl rfl rfl rfl ?_
  have w760 : 0 ≤ (Xi U30 904 79) ∧ (Xi U30 904 79) ≤ 1 := hHU30.c _ _
  refine l_bastoreZ1 (n := 6) rfl rfl (by omega) (by omega) (by unfold rg; omega) ⟨by omega, by omega⟩ ?_
  obtain ⟨U31, eU31⟩ : ∃ T : sS, T = uI U30 938 (((Xi S 904 41)).toNat) (Int32.ofInt (Xi U30 904 79)) := ⟨_, rfl⟩
  rw [← eU31]
  have hHU31 : HI U31 := by rw [eU31]; exact HI_w hHU30 (show 0 ≤ (Xi U30 904 79) by omega) (show (Xi U30 904 79) ≤ 1 by omega)
  have hFU31 : FR md_mo_does__g S U31 := by rw [eU31]; exact FR.wI hFU30 (mdf_i (r := (938, 939, 0, 100000)) (List.mem_of_getElem? (i := 45) rfl) (inR_i (by omega) (by omega) (by omega) (by omega)))
  have w761 : Xi U31 938 (((Xi S 904 41)).toNat) = (Xi U30 904 79) := by rw [eU31]; exact Xi_same (by unfold rg; omega)
  refine l_aload_n rfl rfl ?_
  refine l_gfr rfl rfl rfl rfl rfl (hHU31.r 904 45 939 rfl) ?_
  refine l_aload_n rfl rfl ?_
  refine l_gfi rfl rfl rfl rfl rfl ?_
  have w762 : (Xi U31 904 41) = (Xi S 904 41) := (show Xi U31 904 41 = Xi U30 904 41 from by rw [eU31]; exact Xi_ne (by omega)).trans ( (show Xi U30 904 41 = Xi U29 904 41 from by rw [eU30]; exact Xi_ne (by omega)).trans ((show Xi U29 904 41 = Xi S 904 41 from by rw [eU29]; exact Xi_ne (by omega))))
  rw [w762]
  refine l_aload_n rfl rfl ?_
  refine l_gfi rfl rfl rfl rfl rfl ?_
  have w763 : 0 ≤ (Xi U31 904 80) ∧ (Xi U31 904 80) ≤ 1 := hHU31.c _ _
  refine l_bastoreZ1 (n := 6) rfl rfl (by omega) (by omega) (by unfold rg; omega) ⟨by omega, by omega⟩ ?_
  obtain ⟨U32, eU32⟩ : ∃ T : sS, T = uI U31 939 (((Xi S 904 41)).toNat) (Int32.ofInt (Xi U31 904 80)) := ⟨_, rfl⟩
  rw [← eU32]
  have hHU32 : HI U32 := by rw [eU32]; exact HI_w hHU31 (show 0 ≤ (Xi U31 904 80) by omega) (show (Xi U31 904 80) ≤ 1 by omega)
  have hFU32 : FR md_mo_does__g S U32 := by rw [eU32]; exact FR.wI hFU31 (mdf_i (r := (939, 940, 0, 100000)) (List.mem_of_getElem? (i := 46) rfl) (inR_i (by omega) (by omega) (by omega) (by omega)))
  have w764 : Xi U32 939 (((Xi S 904 41)).toNat) = (Xi U31 904 80) := by rw [eU32]; exact Xi_same (by unfold rg; omega)
  have x479 : LXK U32 S (Xi S 904 15) := (LXK.fr (LXK.fr (LXK.fr (LXK.fr LXK.rf (FR_e eU29) rfl) (FR_e eU30) rfl) (FR_e eU31) rfl) (FR_e eU32) rfl)
  have y479_15 : Xi U32 904 15 = Xi S 904 15 := ((show Xi U32 904 15 = Xi U31 904 15 from by rw [eU32]; exact Xi_ne (by omega)).trans ((show Xi U31 904 15 = Xi U30 904 15 from by rw [eU31]; exact Xi_ne (by omega)).trans ((show Xi U30 904 15 = Xi U29 904 15 from by rw [eU30]; exact Xi_ne (by omega)).trans ((show Xi U29 904 15 = Xi S 904 15 from by rw [eU29]; exact Xi_ne (by omega))))))
  have y479_41 : Xi U32 904 41 = Xi S 904 41 := ((show Xi U32 904 41 = Xi U31 904 41 from by rw [eU32]; exact Xi_ne (by omega)).trans ((show Xi U31 904 41 = Xi U30 904 41 from by rw [eU31]; exact Xi_ne (by omega)).trans ((show Xi U30 904 41 = Xi U29 904 41 from by rw [eU30]; exact Xi_ne (by omega)).trans ((show Xi U29 904 41 = Xi S 904 41 from by rw [eU29]; exact Xi_ne (by omega))))))
  refine l_aload_n rfl rfl ?_
  refine l_bipush rfl rfl ?_
  refine l_aload_n rfl rfl ?_
  refine l_gfi rfl rfl rfl rfl rfl ?_
  have w765 : (Xi U32 904 41) = (Xi S 904 41) := (show Xi U32 904 41 = Xi U31 904 41 from by rw [eU32]; exact Xi_ne (by omega)).trans ( (show Xi U31 904 41 = Xi U30 904 41 from by rw [eU31]; exact Xi_ne (by omega)).trans ( (show Xi U30 904 41 = Xi U29 904 41 from by rw [eU30]; exact Xi_ne (by omega)).trans ((show Xi U29 904 41 = Xi S 904 41 from by rw [eU29]; exact Xi_ne (by omega)))))
  rw [w765]
  refine l_iconst rfl ?_
  have w766 : Xi U32 904 117 = Xi S 904 117 := (show Xi U32 904 117 = Xi U31 904 117 from by rw [eU32]; exact Xi_ne (by omega)).trans ( (show Xi U31 904 117 = Xi U30 904 117 from by rw [eU31]; exact Xi_ne (by omega)).trans ( (show Xi U30 904 117 = Xi U29 904 117 from by rw [eU30]; exact Xi_ne (by omega)).trans ((show Xi U29 904 117 = Xi S 904 117 from by rw [eU29]; exact Xi_ne (by omega)))))
  have w768 : Xi U32 904 15 = Xi S 904 15 := (show Xi U32 904 15 = Xi U31 904 15 from by rw [eU32]; exact Xi_ne (by omega)).trans ( (show Xi U31 904 15 = Xi U30 904 15 from by rw [eU31]; exact Xi_ne (by omega)).trans ( (show Xi U30 904 15 = Xi U29 904 15 from by rw [eU30]; exact Xi_ne (by omega)).trans ((show Xi U29 904 15 = Xi S 904 15 from by rw [eU29]; exact Xi_ne (by omega)))))
  have w770 : Xi U32 904 16 = Xi S 904 16 := (show Xi U32 904 16 = Xi U31 904 16 from by rw [eU32]; exact Xi_ne (by omega)).trans ( (show Xi U31 904 16 = Xi U30 904 16 from by rw [eU31]; exact Xi_ne (by omega)).trans ( (show Xi U30 904 16 = Xi U29 904 16 from by rw [eU30]; exact Xi_ne (by omega)).trans ((show Xi U29 904 16 = Xi S 904 16 from by rw [eU29]; exact Xi_ne (by omega)))))
  have w772 : Xi U32 904 19 = Xi S 904 19 := (show Xi U32 904 19 = Xi U31 904 19 from by rw [eU32]; exact Xi_ne (by omega)).trans ( (show Xi U31 904 19 = Xi U30 904 19 from by rw [eU31]; exact Xi_ne (by omega)).trans ( (show Xi U30 904 19 = Xi U29 904 19 from by rw [eU30]; exact Xi_ne (by omega)).trans ((show Xi U29 904 19 = Xi S 904 19 from by rw [eU29]; exact Xi_ne (by omega)))))
  have w774 : Xi U32 904 23 = Xi S 904 23 := (show Xi U32 904 23 = Xi U31 904 23 from by rw [eU32]; exact Xi_ne (by omega)).trans ( (show Xi U31 904 23 = Xi U30 904 23 from by rw [eU31]; exact Xi_ne (by omega)).trans ( (show Xi U30 904 23 = Xi U29 904 23 from by rw [eU30]; exact Xi_ne (by omega)).trans ((show Xi U29 904 23 = Xi S 904 23 from by rw [eU29]; exact Xi_ne (by omega)))))
  have w776 : Xi U32 904 60 = Xi S 904 60 := (show Xi U32 904 60 = Xi U31 904 60 from by rw [eU32]; exact Xi_ne (by omega)).trans ( (show Xi U31 904 60 = Xi U30 904 60 from by rw [eU31]; exact Xi_ne (by omega)).trans ( (show Xi U30 904 60 = Xi U29 904 60 from by rw [eU30]; exact Xi_ne (by omega)).trans ((show Xi U29 904 60 = Xi S 904 60 from by rw [eU29]; exact Xi_ne (by omega)))))
  have w778 : Xi U32 904 69 = Xi S 904 69 := (show Xi U32 904 69 = Xi U31 904 69 from by rw [eU32]; exact Xi_ne (by omega)).trans ( (show Xi U31 904 69 = Xi U30 904 69 from by rw [eU31]; exact Xi_ne (by omega)).trans ( (show Xi U30 904 69 = Xi U29 904 69 from by rw [eU30]; exact Xi_ne (by omega)).trans ((show Xi U29 904 69 = Xi S 904 69 from by rw [eU29]; exact Xi_ne (by omega)))))
  refine l_callV rfl rfl rfl (t_mo_tellRun hHU32 n 8 (Xi S 904 41) 0 ⟨by omega, by omega⟩ ⟨by omega, by omega⟩ ⟨by omega, by omega⟩ (by first | assumption | exact (TK_FR hFU32 rfl (by assumption : TK S _))) (by first | assumption | exact (RNV_FR hFU32 rfl (by assumption : RNV S _))) (by first | assumption | omega) (by first | (rw [(hFU32.cx 951 rfl _).1]; exact d382.2.2.1) | (rw [(hFU32.cx 951 rfl _).1]; exact d382.2.2.2) | (rw [(hFU32.cx 951 rfl _).1]; exact d426.2.1) | (rw [(hFU32.cx 951 rfl _).1]; have t := d300.2.2 v2 (by omega) (by omega); rw [show Xi S 904 71 = Xi S 904 71 by omega]; exact t)) (by first | omega | (have t := lcn_le hH L300; omega)) _) ?_
  rintro _ T33 ⟨hHT33, w782, rfl, w780, e488, k488⟩
  have hFT33 : FR md_mo_does__g S T33 := FR.tr hFU32 w782 rfl
  show Rl _ _ _ _ _ [] _ _
  have x488 : LXK T33 S (Xi S 904 15) := x479.tr k488 (by omega)
  have d488 : Xi T33 914 (Xi S 904 15).toNat = 8 ∧ Xi T33 915 (Xi S 904 15).toNat = Xi S 904 41 := by have t := e488; rw [show Xi U32 904 15 = Xi S 904 15 by omega] at t; first | exact t | (rw [show Xi U32 904 41 = Xi S 904 41 by omega] at t; exact t)
  refine l_aload_n rfl rfl ?_
  refine l_dup rfl rfl ?_
  refine l_gfi rfl rfl rfl rfl rfl ?_
  have w783 : (Xi T33 904 41) = (Xi S 904 41) := (show Xi T33 904 41 = Xi U32 904 41 from w782.x _ _ rfl).trans ( (show Xi U32 904 41 = Xi U31 904 41 from by rw [eU32]; exact Xi_ne (by omega)).trans ( (show Xi U31 904 41 = Xi U30 904 41 from by rw [eU31]; exact Xi_ne (by omega)).trans ( (show Xi U30 904 41 = Xi U29 904 41 from by rw [eU30]; exact Xi_ne (by omega)).trans ((show Xi U29 904 41 = Xi S 904 41 from by rw [eU29]; exact Xi_ne (by omega))))))
  rw [w783]
  refine l_iconst rfl ?_
  refine l_iadd rfl ?_
  refine l_pfi rfl rfl rfl rfl ?_
  obtain ⟨U34, eU34⟩ : ∃ T : sS, T = uI T33 904 41 (Int32.ofInt ((Xi S 904 41) + 1)) := ⟨_, rfl⟩
  rw [← eU34]
  have hHU34 : HI U34 := by rw [eU34]; exact HI_w hHT33 (show 0 ≤ ((Xi S 904 41) + 1) by omega) (show ((Xi S 904 41) + 1) ≤ 6 by omega)
  have hFU34 : FR md_mo_does__g S U34 := by rw [eU34]; exact FR.wI hFT33 (mdf_i (r := (904, 905, 41, 42)) (List.mem_of_getElem? (i := 7) rfl) (inR_i (by omega) (by omega) (by omega) (by omega)))
  have w784 : Xi U34 904 41 = ((Xi S 904 41) + 1) := by rw [eU34]; exact Xi_same (by unfold rg; omega)
  have x498 : LXK U34 S (Xi S 904 15) := x488.fr (FR_e eU34) rfl
  have G498 : GR U34 S := (GR.w (GR_FR w782 rfl (GR_FR (FR_e eU32) rfl (GR_FR (FR_e eU31) rfl (GR_FR (FR_e eU30) rfl (GR_FR (FR_e eU29) rfl GR.rf))))) eU34 (by unfold rg; omega) (by omega))
  have w498 : Xi U34 904 15 = Xi S 904 15 + 1 := by have t : Xi U34 904 15 = Xi T33 904 15 := (by rw [eU34, Xi_ne (by omega)]); omega
  have v498 : Xi U34 904 41 = Xi S 904 41 + 1 := by omega
  have c498 : Xi U34 914 (Xi S 904 15).toNat = 8 ∧ Xi U34 915 (Xi S 904 15).toNat = Xi S 904 41 := ⟨by rw [eU34, Xi_ne (by omega)]; exact d488.1, by rw [eU34, Xi_ne (by omega)]; exact d488.2⟩
  have M498 : LXM U34 := lxm_gr hM x498 G498 (by omega) (Or.inr ⟨by omega, by rw [c498.1, c498.2, cM8]; omega⟩)
  have y498_16 : Xi U34 904 16 = Xi S 904 16 := ((show Xi U34 904 16 = Xi T33 904 16 from by rw [eU34]; exact Xi_ne (by omega)).trans ((show Xi T33 904 16 = Xi U32 904 16 from w782.x _ _ rfl).trans ((show Xi U32 904 16 = Xi U31 904 16 from by rw [eU32]; exact Xi_ne (by omega)).trans ((show Xi U31 904 16 = Xi U30 904 16 from by rw [eU31]; exact Xi_ne (by omega)).trans ((show Xi U30 904 16 = Xi U29 904 16 from by rw [eU30]; exact Xi_ne (by omega)).trans ((show Xi U29 904 16 = Xi S 904 16 from by rw [eU29]; exact Xi_ne (by omega))))))))
  have y498_18 : Xi U34 904 18 = Xi S 904 18 := ((show Xi U34 904 18 = Xi T33 904 18 from by rw [eU34]; exact Xi_ne (by omega)).trans ((show Xi T33 904 18 = Xi U32 904 18 from w782.x _ _ rfl).trans ((show Xi U32 904 18 = Xi U31 904 18 from by rw [eU32]; exact Xi_ne (by omega)).trans ((show Xi U31 904 18 = Xi U30 904 18 from by rw [eU31]; exact Xi_ne (by omega)).trans ((show Xi U30 904 18 = Xi U29 904 18 from by rw [eU30]; exact Xi_ne (by omega)).trans ((show Xi U29 904 18 = Xi S 904 18 from by rw [eU29]; exact Xi_ne (by omega))))))))
  have y498_19 : Xi U34 904 19 = Xi S 904 19 := ((show Xi U34 904 19 = Xi T33 904 19 from by rw [eU34]; exact Xi_ne (by omega)).trans ((show Xi T33 904 19 = Xi U32 904 19 from w782.x _ _ rfl).trans ((show Xi U32 904 19 = Xi U31 904 19 from by rw [eU32]; exact Xi_ne (by omega)).trans ((show Xi U31 904 19 = Xi U30 904 19 from by rw [eU31]; exact Xi_ne (by omega)).trans ((show Xi U30 904 19 = Xi U29 904 19 from by rw [eU30]; exact Xi_ne (by omega)).trans ((show Xi U29 904 19 = Xi S 904 19 from by rw [eU29]; exact Xi_ne (by omega))))))))
  have y498_23 : Xi U34 904 23 = Xi S 904 23 := ((show Xi U34 904 23 = Xi T33 904 23 from by rw [eU34]; exact Xi_ne (by omega)).trans ((show Xi T33 904 23 = Xi U32 904 23 from w782.x _ _ rfl).trans ((show Xi U32 904 23 = Xi U31 904 23 from by rw [eU32]; exact Xi_ne (by omega)).trans ((show Xi U31 904 23 = Xi U30 904 23 from by rw [eU31]; exact Xi_ne (by omega)).trans ((show Xi U30 904 23 = Xi U29 904 23 from by rw [eU30]; exact Xi_ne (by omega)).trans ((show Xi U29 904 23 = Xi S 904 23 from by rw [eU29]; exact Xi_ne (by omega))))))))
  have y498_30 : Xi U34 904 30 = Xi S 904 30 := ((show Xi U34 904 30 = Xi T33 904 30 from by rw [eU34]; exact Xi_ne (by omega)).trans ((show Xi T33 904 30 = Xi U32 904 30 from w782.x _ _ rfl).trans ((show Xi U32 904 30 = Xi U31 904 30 from by rw [eU32]; exact Xi_ne (by omega)).trans ((show Xi U31 904 30 = Xi U30 904 30 from by rw [eU31]; exact Xi_ne (by omega)).trans ((show Xi U30 904 30 = Xi U29 904 30 from by rw [eU30]; exact Xi_ne (by omega)).trans ((show Xi U29 904 30 = Xi S 904 30 from by rw [eU29]; exact Xi_ne (by omega))))))))
  have y498_32 : Xi U34 904 32 = Xi S 904 32 := ((show Xi U34 904 32 = Xi T33 904 32 from by rw [eU34]; exact Xi_ne (by omega)).trans ((show Xi T33 904 32 = Xi U32 904 32 from w782.x _ _ rfl).trans ((show Xi U32 904 32 = Xi U31 904 32 from by rw [eU32]; exact Xi_ne (by omega)).trans ((show Xi U31 904 32 = Xi U30 904 32 from by rw [eU31]; exact Xi_ne (by omega)).trans ((show Xi U30 904 32 = Xi U29 904 32 from by rw [eU30]; exact Xi_ne (by omega)).trans ((show Xi U29 904 32 = Xi S 904 32 from by rw [eU29]; exact Xi_ne (by omega))))))))
  have y498_47 : Xi U34 904 47 = Xi S 904 47 := ((show Xi U34 904 47 = Xi T33 904 47 from by rw [eU34]; exact Xi_ne (by omega)).trans ((show Xi T33 904 47 = Xi U32 904 47 from w782.x _ _ rfl).trans ((show Xi U32 904 47 = Xi U31 904 47 from by rw [eU32]; exact Xi_ne (by omega)).trans ((show Xi U31 904 47 = Xi U30 904 47 from by rw [eU31]; exact Xi_ne (by omega)).trans ((show Xi U30 904 47 = Xi U29 904 47 from by rw [eU30]; exact Xi_ne (by omega)).trans ((show Xi U29 904 47 = Xi S 904 47 from by rw [eU29]; exact Xi_ne (by omega))))))))
  have y498_49 : Xi U34 904 49 = Xi S 904 49 := ((show Xi U34 904 49 = Xi T33 904 49 from by rw [eU34]; exact Xi_ne (by omega)).trans ((show Xi T33 904 49 = Xi U32 904 49 from w782.x _ _ rfl).trans ((show Xi U32 904 49 = Xi U31 904 49 from by rw [eU32]; exact Xi_ne (by omega)).trans ((show Xi U31 904 49 = Xi U30 904 49 from by rw [eU31]; exact Xi_ne (by omega)).trans ((show Xi U30 904 49 = Xi U29 904 49 from by rw [eU30]; exact Xi_ne (by omega)).trans ((show Xi U29 904 49 = Xi S 904 49 from by rw [eU29]; exact Xi_ne (by omega))))))))
  have L498 : LCN U34 := lcn_i hLC (pls_le x498 (by omega) (by omega) (by omega)) (by omega)
  refine l_goto rfl rfl ?_
  refine l_return rfl rfl ?_
  have w785 : Xi U34 904 117 = Xi S 904 117 := (show Xi U34 904 117 = Xi T33 904 117 from by rw [eU34]; exact Xi_ne (by omega)).trans ( (show Xi T33 904 117 = Xi U32 904 117 from w782.x _ _ rfl).trans ( (show Xi U32 904 117 = Xi U31 904 117 from by rw [eU32]; exact Xi_ne (by omega)).trans ( (show Xi U31 904 117 = Xi U30 904 117 from by rw [eU31]; exact Xi_ne (by omega)).trans ( (show Xi U30 904 117 = Xi U29 904 117 from by rw [eU30]; exact Xi_ne (by omega)).trans ((show Xi U29 904 117 = Xi S 904 117 from by rw [eU29]; exact Xi_ne (by omega)))))))
  have w787 : Xi U34 904 15 = Xi T33 904 15 := (show Xi U34 904 15 = Xi T33 904 15 from by rw [eU34]; exact Xi_ne (by omega))
  have w788 : 0 ≤ Xi T33 904 15 ∧ Xi T33 904 15 ≤ 300 := hHT33.c _ _
  have w789 : Xi U34 904 16 = Xi S 904 16 := (show Xi U34 904 16 = Xi T33 904 16 from by rw [eU34]; exact Xi_ne (by omega)).trans ( (show Xi T33 904 16 = Xi U32 904 16 from w782.x _ _ rfl).trans ( (show Xi U32 904 16 = Xi U31 904 16 from by rw [eU32]; exact Xi_ne (by omega)).trans ( (show Xi U31 904 16 = Xi U30 904 16 from by rw [eU31]; exact Xi_ne (by omega)).trans ( (show Xi U30 904 16 = Xi U29 904 16 from by rw [eU30]; exact Xi_ne (by omega)).trans ((show Xi U29 904 16 = Xi S 904 16 from by rw [eU29]; exact Xi_ne (by omega)))))))
  have w791 : Xi U34 904 19 = Xi S 904 19 := (show Xi U34 904 19 = Xi T33 904 19 from by rw [eU34]; exact Xi_ne (by omega)).trans ( (show Xi T33 904 19 = Xi U32 904 19 from w782.x _ _ rfl).trans ( (show Xi U32 904 19 = Xi U31 904 19 from by rw [eU32]; exact Xi_ne (by omega)).trans ( (show Xi U31 904 19 = Xi U30 904 19 from by rw [eU31]; exact Xi_ne (by omega)).trans ( (show Xi U30 904 19 = Xi U29 904 19 from by rw [eU30]; exact Xi_ne (by omega)).trans ((show Xi U29 904 19 = Xi S 904 19 from by rw [eU29]; exact Xi_ne (by omega)))))))
  have w793 : Xi U34 904 23 = Xi S 904 23 := (show Xi U34 904 23 = Xi T33 904 23 from by rw [eU34]; exact Xi_ne (by omega)).trans ( (show Xi T33 904 23 = Xi U32 904 23 from w782.x _ _ rfl).trans ( (show Xi U32 904 23 = Xi U31 904 23 from by rw [eU32]; exact Xi_ne (by omega)).trans ( (show Xi U31 904 23 = Xi U30 904 23 from by rw [eU31]; exact Xi_ne (by omega)).trans ( (show Xi U30 904 23 = Xi U29 904 23 from by rw [eU30]; exact Xi_ne (by omega)).trans ((show Xi U29 904 23 = Xi S 904 23 from by rw [eU29]; exact Xi_ne (by omega)))))))
  have w795 : Xi U34 904 60 = Xi S 904 60 := (show Xi U34 904 60 = Xi T33 904 60 from by rw [eU34]; exact Xi_ne (by omega)).trans ( (show Xi T33 904 60 = Xi U32 904 60 from w782.x _ _ rfl).trans ( (show Xi U32 904 60 = Xi U31 904 60 from by rw [eU32]; exact Xi_ne (by omega)).trans ( (show Xi U31 904 60 = Xi U30 904 60 from by rw [eU31]; exact Xi_ne (by omega)).trans ( (show Xi U30 904 60 = Xi U29 904 60 from by rw [eU30]; exact Xi_ne (by omega)).trans ((show Xi U29 904 60 = Xi S 904 60 from by rw [eU29]; exact Xi_ne (by omega)))))))
  exact ⟨hHU34, hFU34, rfl, (⟨by first | assumption | exact (TXM_FR (FR_e eU34) rfl (TXM_FR w782 rfl (TXM_FR (FR_e eU32) rfl (TXM_FR (FR_e eU31) rfl (TXM_FR (FR_e eU30) rfl (TXM_FR (FR_e eU29) rfl (by assumption : TXM S))))))), by first | assumption | exact (WYM_FR (FR_e eU34) rfl (WYM_FR w782 rfl (WYM_FR (FR_e eU32) rfl (WYM_FR (FR_e eU31) rfl (WYM_FR (FR_e eU30) rfl (WYM_FR (FR_e eU29) rfl (by assumption : WYM S))))))), by first | assumption | exact (by assumption : LXM U34), by first | assumption | exact (by assumption : LCN U34), by first | assumption | exact (ABV_FR (FR_e eU34) rfl (ABV_FR w782 rfl (ABV_FR (FR_e eU32) rfl (ABV_FR (FR_e eU31) rfl (ABV_FR (FR_e eU30) rfl (ABV_FR (FR_e eU29) rfl (by assumption : ABV S))))))), by first | assumption | exact (DCM_FR (FR_e eU34) rfl (DCM_FR w782 rfl (DCM_FR (FR_e eU32) rfl (DCM_FR (FR_e eU31) rfl (DCM_FR (FR_e eU30) rfl (DCM_FR (FR_e eU29) rfl (by assumption : DCM S))))))), by first | assumption | exact (VTM_FR (FR_e eU34) rfl (VTM_FR w782 rfl (VTM_FR (FR_e eU32) rfl (VTM_FR (FR_e eU31) rfl (VTM_FR (FR_e eU30) rfl (VTM_FR (FR_e eU29) rfl (by assumption : VTM S))))))), by first | assumption | exact (VCN_FR (FR_e eU34) rfl (VCN_FR w782 rfl (VCN_FR (FR_e eU32) rfl (VCN_FR (FR_e eU31) rfl (VCN_FR (FR_e eU30) rfl (VCN_FR (FR_e eU29) rfl (by assumption : VCN S))))))), by first | assumption | exact (WYD_FR (FR_e eU34) rfl (WYD_FR w782 rfl (WYD_FR (FR_e eU32) rfl (WYD_FR (FR_e eU31) rfl (WYD_FR (FR_e eU30) rfl (WYD_FR (FR_e eU29) rfl (by assumption : WYD S))))))), by first | assumption | exact (by assumption : RDT U34) | exact rdt_df hRD (GR.w (GR_FR w782 rfl (GR_FR (FR_e eU32) rfl (GR_FR (FR_e eU31) rfl (GR_FR (FR_e eU30) rfl (GR_FR (FR_e eU29) rfl GR.rf))))) eU34 (by unfold rg; omega) (by omega)) df153 (by omega) (by omega) (by omega) (hFU34.x 904 125 rfl) (hFU34.x 904 130 rfl) (smk_q9 hFU34 rfl) dn153 | exact rdt_gr hRD (by first | assumption | exact (GR.w (GR_FR w782 rfl (GR_FR (FR_e eU32) rfl (GR_FR (FR_e eU31) rfl (GR_FR (FR_e eU30) rfl (GR_FR (FR_e eU29) rfl GR.rf))))) eU34 (by unfold rg; omega) (by omega))) (by omega) (hFU34.x 904 125 rfl) (hFU34.x 904 130 rfl) (smk_q9 hFU34 rfl) (fun a x y => absurd y (by omega)), akr_gr hAK (by first | assumption | exact (GR.w (GR_FR w782 rfl (GR_FR (FR_e eU32) rfl (GR_FR (FR_e eU31) rfl (GR_FR (FR_e eU30) rfl (GR_FR (FR_e eU29) rfl GR.rf))))) eU34 (by unfold rg; omega) (by omega))), by first | omega | (have g := (by first | assumption | exact (GR.w (GR_FR w782 rfl (GR_FR (FR_e eU32) rfl (GR_FR (FR_e eU31) rfl (GR_FR (FR_e eU30) rfl (GR_FR (FR_e eU29) rfl GR.rf))))) eU34 (by unfold rg; omega) (by omega)) : GR U34 S); have t := g.1; omega), by first | omega | (have g := (by first | assumption | exact (GR.w (GR_FR w782 rfl (GR_FR (FR_e eU32) rfl (GR_FR (FR_e eU31) rfl (GR_FR (FR_e eU30) rfl (GR_FR (FR_e eU29) rfl GR.rf))))) eU34 (by unfold rg; omega) (by omega)) : GR U34 S); have t := g.1; omega)⟩), (by first | assumption | exact (GR.w (GR_FR w782 rfl (GR_FR (FR_e eU32) rfl (GR_FR (FR_e eU31) rfl (GR_FR (FR_e eU30) rfl (GR_FR (FR_e eU29) rfl GR.rf))))) eU34 (by unfold rg; omega) (by omega)))⟩
set_option maxRecDepth 100000 in
set_option maxHeartbeats 1000000 in
theorem c504_mo_does__g {S : sS} (hH : HI S) (n : Nat) (first : Int) (hfirst : 0 ≤ first ∧ first ≤ 5001) (hT : TK S n) (hv : RNV S n) (hK : TXK S n) (hI : TIX S) (hq : SNQ S n) (hk : DOK S) (h11 : Xi S 904 70 = 11 → -1 ≤ Xi S 904 78) (d : Nat) : (Xi S 904 70 = 20) → Rl lay0 (d + 7) m_mo_does 504 [(0, .ref 904), (1, iv first)] [] S (Q_mo_does__g S n first) := by
  have hF : FR md_mo_does__g S S := FR.rf
  have w1 : 0 ≤ Xi S 904 117 ∧ Xi S 904 117 ≤ 480 := hH.c _ _
  have w2 : 0 ≤ Xi S 904 15 ∧ Xi S 904 15 ≤ 300 := hH.c _ _
  have w3 : 0 ≤ Xi S 904 16 ∧ Xi S 904 16 ≤ 16 := hH.c _ _
  have w4 : 0 ≤ Xi S 904 18 ∧ Xi S 904 18 ≤ 8 := hH.c _ _
  have w5 : 0 ≤ Xi S 904 19 ∧ Xi S 904 19 ≤ 24 := hH.c _ _
  have w6 : 0 ≤ Xi S 904 23 ∧ Xi S 904 23 ≤ 24 := hH.c _ _
  have w7 : 0 ≤ Xi S 904 30 ∧ Xi S 904 30 ≤ 64 := hH.c _ _
  have w8 : 0 ≤ Xi S 904 32 ∧ Xi S 904 32 ≤ 12 := hH.c _ _
  have w9 : 0 ≤ Xi S 904 41 ∧ Xi S 904 41 ≤ 6 := hH.c _ _
  have w10 : 0 ≤ Xi S 904 47 ∧ Xi S 904 47 ≤ 8 := hH.c _ _
  have w11 : 0 ≤ Xi S 904 49 ∧ Xi S 904 49 ≤ 12 := hH.c _ _
  have w12 : -1 ≤ Xi S 904 60 ∧ Xi S 904 60 ≤ 23 := hH.c _ _
  have w13 : 0 ≤ Xi S 904 69 ∧ Xi S 904 69 ≤ 2600 := hH.c _ _
  have w14 : 0 ≤ Xi S 904 70 ∧ Xi S 904 70 ≤ 20 := hH.c _ _
  have w15 : 0 ≤ Xi S 904 71 ∧ Xi S 904 71 ≤ 2600 := hH.c _ _
  have w16 : 0 ≤ Xi S 904 72 ∧ Xi S 904 72 ≤ 2600 := hH.c _ _
  have w17 : -2 ≤ Xi S 904 78 ∧ Xi S 904 78 ≤ 5010 := hH.c _ _
  have hX : TXM S := hI.1
  have hW : WYM S := hI.2.1
  have hM : LXM S := hI.2.2.1
  have hLC : LCN S := hI.2.2.2.1
  have hB : ABV S := hI.2.2.2.2.1
  have hC : DCM S := hI.2.2.2.2.2.1
  have hV : VTM S := hI.2.2.2.2.2.2.1
  have hVC : VCN S := hI.2.2.2.2.2.2.2.1
  have hWD : WYD S := hI.2.2.2.2.2.2.2.2.1
  have hRD : RDT S := hI.2.2.2.2.2.2.2.2.2.1
  have hAK : AKR S := hI.2.2.2.2.2.2.2.2.2.2.1
  have hd6 : Xi S 904 60 < Xi S 904 19 := hI.2.2.2.2.2.2.2.2.2.2.2.1
  have h16 : 2 ≤ Xi S 904 16 := hI.2.2.2.2.2.2.2.2.2.2.2.2
  have h32 : 1 ≤ Xi S 904 32 := hAK.2.2.2.2.2.2.2
  have hn5 := hT.1
  have hc69 : 0 ≤ Xi S 904 69 ∧ Xi S 904 69 ≤ 2600 := hH.c _ _
  have hc70 : 0 ≤ Xi S 904 70 ∧ Xi S 904 70 ≤ 20 := hH.c _ _
  have hc16 : 0 ≤ Xi S 904 16 ∧ Xi S 904 16 ≤ 16 := hH.c _ _
  have hc18 : 0 ≤ Xi S 904 18 ∧ Xi S 904 18 ≤ 8 := hH.c _ _
  have hc19 : 0 ≤ Xi S 904 19 ∧ Xi S 904 19 ≤ 24 := hH.c _ _
  have hc23 : 0 ≤ Xi S 904 23 ∧ Xi S 904 23 ≤ 24 := hH.c _ _
  have hc30 : 0 ≤ Xi S 904 30 ∧ Xi S 904 30 ≤ 64 := hH.c _ _
  have hc32 : 0 ≤ Xi S 904 32 ∧ Xi S 904 32 ≤ 12 := hH.c _ _
  have hc41 : 0 ≤ Xi S 904 41 ∧ Xi S 904 41 ≤ 6 := hH.c _ _
  have hc47 : 0 ≤ Xi S 904 47 ∧ Xi S 904 47 ≤ 8 := hH.c _ _
  have hc49 : 0 ≤ Xi S 904 49 ∧ Xi S 904 49 ≤ 12 := hH.c _ _
  have hc15 : 0 ≤ Xi S 904 15 ∧ Xi S 904 15 ≤ 300 := hH.c _ _
  have hc117 : 0 ≤ Xi S 904 117 ∧ Xi S 904 117 ≤ 480 := hH.c _ _
  have hc125 : 0 ≤ Xi S 904 125 ∧ Xi S 904 125 ≤ 192 := hH.c _ _
  have hc130 : 0 ≤ Xi S 904 130 ∧ Xi S 904 130 ≤ 24 := hH.c _ _
  have hl9 := lcn_le hH hLC
  intro w797
  refine l_aload_n rfl rfl ?_
  refine l_iload_n rfl rfl ?_
  refine l_callV rfl rfl rfl (t_mo_doSaying hH first ⟨by omega, by omega⟩ _) ?_
  rintro _ T35 ⟨hHT35, w805, rfl⟩
  have hFT35 : FR md_mo_does__g S T35 := FR.tr hF w805 rfl
  show Rl _ _ _ _ _ [] _ _
  refine l_goto rfl rfl ?_
  refine l_return rfl rfl ?_
  have w806 : Xi T35 904 117 = Xi S 904 117 := (show Xi T35 904 117 = Xi S 904 117 from w805.x _ _ rfl)
  have w808 : Xi T35 904 15 = Xi S 904 15 := (show Xi T35 904 15 = Xi S 904 15 from w805.x _ _ rfl)
  have w810 : Xi T35 904 16 = Xi S 904 16 := (show Xi T35 904 16 = Xi S 904 16 from w805.x _ _ rfl)
  have w812 : Xi T35 904 19 = Xi S 904 19 := (show Xi T35 904 19 = Xi S 904 19 from w805.x _ _ rfl)
  have w814 : Xi T35 904 23 = Xi S 904 23 := (show Xi T35 904 23 = Xi S 904 23 from w805.x _ _ rfl)
  have w816 : Xi T35 904 60 = Xi S 904 60 := (show Xi T35 904 60 = Xi S 904 60 from w805.x _ _ rfl)
  exact ⟨hHT35, hFT35, rfl, (⟨by first | assumption | exact (TXM_FR w805 rfl (by assumption : TXM S)), by first | assumption | exact (WYM_FR w805 rfl (by assumption : WYM S)), by first | assumption | exact (LXM_FR w805 rfl (by assumption : LXM S)), by first | assumption | exact (LCN_FR w805 rfl (by assumption : LCN S)), by first | assumption | exact (ABV_FR w805 rfl (by assumption : ABV S)), by first | assumption | exact (DCM_FR w805 rfl (by assumption : DCM S)), by first | assumption | exact (VTM_FR w805 rfl (by assumption : VTM S)), by first | assumption | exact (VCN_FR w805 rfl (by assumption : VCN S)), by first | assumption | exact (WYD_FR w805 rfl (by assumption : WYD S)), by first | assumption | exact (RDT_FR hH w805 rfl rfl rfl (by assumption : RDT S)) | exact rdt_df hRD (GR_FR w805 rfl GR.rf) df153 (by omega) (by omega) (by omega) (hFT35.x 904 125 rfl) (hFT35.x 904 130 rfl) (smk_q9 hFT35 rfl) dn153 | exact rdt_gr hRD (by first | assumption | exact (GR_FR w805 rfl GR.rf)) (by omega) (hFT35.x 904 125 rfl) (hFT35.x 904 130 rfl) (smk_q9 hFT35 rfl) (fun a x y => absurd y (by omega)), akr_gr hAK (by first | assumption | exact (GR_FR w805 rfl GR.rf)), by first | omega | (have g := (by first | assumption | exact (GR_FR w805 rfl GR.rf) : GR T35 S); have t := g.1; omega), by first | omega | (have g := (by first | assumption | exact (GR_FR w805 rfl GR.rf) : GR T35 S); have t := g.1; omega)⟩), (by first | assumption | exact (GR_FR w805 rfl GR.rf))⟩
set_option maxRecDepth 100000 in
set_option maxHeartbeats 1000000 in
theorem t_mo_does__g {S : sS} (hH : HI S) (n : Nat) (first : Int) (hfirst : 0 ≤ first ∧ first ≤ 5001) (hT : TK S n) (hv : RNV S n) (hK : TXK S n) (hI : TIX S) (hq : SNQ S n) (hk : DOK S) (h11 : Xi S 904 70 = 11 → -1 ≤ Xi S 904 78) (d : Nat) : Mt lay0 (d + 8) m_mo_does [.ref 904, iv first] S (Q_mo_does__g S n first) := by
  refine Mt_R rfl rfl ?_
  have C104 := c104_mo_does__g hH n first hfirst hT hv hK hI hq hk h11 d 
  have C145 := c145_mo_does__g hH n first hfirst hT hv hK hI hq hk h11 d 
  have C152 := c152_mo_does__g hH n first hfirst hT hv hK hI hq hk h11 d 
  have C159 := c159_mo_does__g hH n first hfirst hT hv hK hI hq hk h11 d 
  have C277 := c277_mo_does__g hH n first hfirst hT hv hK hI hq hk h11 d 
  have C284 := c284_mo_does__g hH n first hfirst hT hv hK hI hq hk h11 d 
  have C291 := c291_mo_does__g hH n first hfirst hT hv hK hI hq hk h11 d 
  have C300 := c300_mo_does__g hH n first hfirst hT hv hK hI hq hk h11 d 
  have C298 := c298_mo_does__g hH n first hfirst hT hv hK hI hq hk h11 d 
  have C354 := c354_mo_does__g hH n first hfirst hT hv hK hI hq hk h11 d 
  have C361 := c361_mo_does__g hH n first hfirst hT hv hK hI hq hk h11 d 
  have C368 := c368_mo_does__g hH n first hfirst hT hv hK hI hq hk h11 d 
  have C375 := c375_mo_does__g hH n first hfirst hT hv hK hI hq hk h11 d 
  have C406 := c406_mo_does__g hH n first hfirst hT hv hK hI hq hk h11 d 
  have C382 := c382_mo_does__g hH n first hfirst hT hv hK hI hq hk h11 d 
  have C426 := c426_mo_does__g hH n first hfirst hT hv hK hI hq hk h11 d 
  have C504 := c504_mo_does__g hH n first hfirst hT hv hK hI hq hk h11 d 
  have hF : FR md_mo_does__g S S := FR.rf
  have w1 : 0 ≤ Xi S 904 117 ∧ Xi S 904 117 ≤ 480 := hH.c _ _
  have w2 : 0 ≤ Xi S 904 15 ∧ Xi S 904 15 ≤ 300 := hH.c _ _
  have w3 : 0 ≤ Xi S 904 16 ∧ Xi S 904 16 ≤ 16 := hH.c _ _
  have w4 : 0 ≤ Xi S 904 18 ∧ Xi S 904 18 ≤ 8 := hH.c _ _
  have w5 : 0 ≤ Xi S 904 19 ∧ Xi S 904 19 ≤ 24 := hH.c _ _
  have w6 : 0 ≤ Xi S 904 23 ∧ Xi S 904 23 ≤ 24 := hH.c _ _
  have w7 : 0 ≤ Xi S 904 30 ∧ Xi S 904 30 ≤ 64 := hH.c _ _
  have w8 : 0 ≤ Xi S 904 32 ∧ Xi S 904 32 ≤ 12 := hH.c _ _
  have w9 : 0 ≤ Xi S 904 41 ∧ Xi S 904 41 ≤ 6 := hH.c _ _
  have w10 : 0 ≤ Xi S 904 47 ∧ Xi S 904 47 ≤ 8 := hH.c _ _
  have w11 : 0 ≤ Xi S 904 49 ∧ Xi S 904 49 ≤ 12 := hH.c _ _
  have w12 : -1 ≤ Xi S 904 60 ∧ Xi S 904 60 ≤ 23 := hH.c _ _
  have w13 : 0 ≤ Xi S 904 69 ∧ Xi S 904 69 ≤ 2600 := hH.c _ _
  have w14 : 0 ≤ Xi S 904 70 ∧ Xi S 904 70 ≤ 20 := hH.c _ _
  have w15 : 0 ≤ Xi S 904 71 ∧ Xi S 904 71 ≤ 2600 := hH.c _ _
  have w16 : 0 ≤ Xi S 904 72 ∧ Xi S 904 72 ≤ 2600 := hH.c _ _
  have w17 : -2 ≤ Xi S 904 78 ∧ Xi S 904 78 ≤ 5010 := hH.c _ _
  have hX : TXM S := hI.1
  have hW : WYM S := hI.2.1
  have hM : LXM S := hI.2.2.1
  have hLC : LCN S := hI.2.2.2.1
  have hB : ABV S := hI.2.2.2.2.1
  have hC : DCM S := hI.2.2.2.2.2.1
  have hV : VTM S := hI.2.2.2.2.2.2.1
  have hVC : VCN S := hI.2.2.2.2.2.2.2.1
  have hWD : WYD S := hI.2.2.2.2.2.2.2.2.1
  have hRD : RDT S := hI.2.2.2.2.2.2.2.2.2.1
  have hAK : AKR S := hI.2.2.2.2.2.2.2.2.2.2.1
  have hd6 : Xi S 904 60 < Xi S 904 19 := hI.2.2.2.2.2.2.2.2.2.2.2.1
  have h16 : 2 ≤ Xi S 904 16 := hI.2.2.2.2.2.2.2.2.2.2.2.2
  have h32 : 1 ≤ Xi S 904 32 := hAK.2.2.2.2.2.2.2
  have hn5 := hT.1
  have hc69 : 0 ≤ Xi S 904 69 ∧ Xi S 904 69 ≤ 2600 := hH.c _ _
  have hc70 : 0 ≤ Xi S 904 70 ∧ Xi S 904 70 ≤ 20 := hH.c _ _
  have hc16 : 0 ≤ Xi S 904 16 ∧ Xi S 904 16 ≤ 16 := hH.c _ _
  have hc18 : 0 ≤ Xi S 904 18 ∧ Xi S 904 18 ≤ 8 := hH.c _ _
  have hc19 : 0 ≤ Xi S 904 19 ∧ Xi S 904 19 ≤ 24 := hH.c _ _
  have hc23 : 0 ≤ Xi S 904 23 ∧ Xi S 904 23 ≤ 24 := hH.c _ _
  have hc30 : 0 ≤ Xi S 904 30 ∧ Xi S 904 30 ≤ 64 := hH.c _ _
  have hc32 : 0 ≤ Xi S 904 32 ∧ Xi S 904 32 ≤ 12 := hH.c _ _
  have hc41 : 0 ≤ Xi S 904 41 ∧ Xi S 904 41 ≤ 6 := hH.c _ _
  have hc47 : 0 ≤ Xi S 904 47 ∧ Xi S 904 47 ≤ 8 := hH.c _ _
  have hc49 : 0 ≤ Xi S 904 49 ∧ Xi S 904 49 ≤ 12 := hH.c _ _
  have hc15 : 0 ≤ Xi S 904 15 ∧ Xi S 904 15 ≤ 300 := hH.c _ _
  have hc117 : 0 ≤ Xi S 904 117 ∧ Xi S 904 117 ≤ 480 := hH.c _ _
  have hc125 : 0 ≤ Xi S 904 125 ∧ Xi S 904 125 ≤ 192 := hH.c _ _
  have hc130 : 0 ≤ Xi S 904 130 ∧ Xi S 904 130 ≤ 24 := hH.c _ _
  have hl9 := lcn_le hH hLC
  refine l_aload_n rfl rfl ?_
  refine l_gfi rfl rfl rfl rfl rfl ?_
  refine l_tsw rfl rfl rfl rfl (by unfold rg; omega) (fun w818 => ?_) (fun ii tt hii w818 => ?_)
  · refine l_return rfl rfl ?_
    exact ⟨hH, hF, rfl, (⟨by first | assumption | exact (by assumption : TXM S), by first | assumption | exact (by assumption : WYM S), by first | assumption | exact (by assumption : LXM S), by first | assumption | exact (by assumption : LCN S), by first | assumption | exact (by assumption : ABV S), by first | assumption | exact (by assumption : DCM S), by first | assumption | exact (by assumption : VTM S), by first | assumption | exact (by assumption : VCN S), by first | assumption | exact (by assumption : WYD S), by first | assumption | exact (by assumption : RDT S) | exact rdt_df hRD GR.rf df153 (by omega) (by omega) (by omega) (hF.x 904 125 rfl) (hF.x 904 130 rfl) (smk_q9 hF rfl) dn153 | exact rdt_gr hRD (by first | assumption | exact GR.rf) (by omega) (hF.x 904 125 rfl) (hF.x 904 130 rfl) (smk_q9 hF rfl) (fun a x y => absurd y (by omega)), akr_gr hAK (by first | assumption | exact GR.rf), by first | omega | (have g := (by first | assumption | exact GR.rf : GR S S); have t := g.1; omega), by first | omega | (have g := (by first | assumption | exact GR.rf : GR S S); have t := g.1; omega)⟩), (by first | assumption | exact GR.rf)⟩
  · match ii, hii with
    | 0, hii =>
      cases hii
      have w825 : (Xi S 904 70) = 0 := by simpa using w818
      exact Rl_weak (C104  (by omega)) (And.intro rfl (And.intro rfl (True.intro)))
    | 1, hii =>
      cases hii
      have w832 : (Xi S 904 70) = 1 := by simpa using w818
      exact Rl_weak (C145  (by omega)) (And.intro rfl (True.intro))
    | 2, hii =>
      cases hii
      have w839 : (Xi S 904 70) = 2 := by simpa using w818
      exact Rl_weak (C152  (by omega)) (And.intro rfl (True.intro))
    | 3, hii =>
      cases hii
      have w846 : (Xi S 904 70) = 3 := by simpa using w818
      refine l_return rfl rfl ?_
      exact ⟨hH, hF, rfl, (⟨by first | assumption | exact (by assumption : TXM S), by first | assumption | exact (by assumption : WYM S), by first | assumption | exact (by assumption : LXM S), by first | assumption | exact (by assumption : LCN S), by first | assumption | exact (by assumption : ABV S), by first | assumption | exact (by assumption : DCM S), by first | assumption | exact (by assumption : VTM S), by first | assumption | exact (by assumption : VCN S), by first | assumption | exact (by assumption : WYD S), by first | assumption | exact (by assumption : RDT S) | exact rdt_df hRD GR.rf df153 (by omega) (by omega) (by omega) (hF.x 904 125 rfl) (hF.x 904 130 rfl) (smk_q9 hF rfl) dn153 | exact rdt_gr hRD (by first | assumption | exact GR.rf) (by omega) (hF.x 904 125 rfl) (hF.x 904 130 rfl) (smk_q9 hF rfl) (fun a x y => absurd y (by omega)), akr_gr hAK (by first | assumption | exact GR.rf), by first | omega | (have g := (by first | assumption | exact GR.rf : GR S S); have t := g.1; omega), by first | omega | (have g := (by first | assumption | exact GR.rf : GR S S); have t := g.1; omega)⟩), (by first | assumption | exact GR.rf)⟩
    | 4, hii =>
      cases hii
      have w853 : (Xi S 904 70) = 4 := by simpa using w818
      refine l_return rfl rfl ?_
      exact ⟨hH, hF, rfl, (⟨by first | assumption | exact (by assumption : TXM S), by first | assumption | exact (by assumption : WYM S), by first | assumption | exact (by assumption : LXM S), by first | assumption | exact (by assumption : LCN S), by first | assumption | exact (by assumption : ABV S), by first | assumption | exact (by assumption : DCM S), by first | assumption | exact (by assumption : VTM S), by first | assumption | exact (by assumption : VCN S), by first | assumption | exact (by assumption : WYD S), by first | assumption | exact (by assumption : RDT S) | exact rdt_df hRD GR.rf df153 (by omega) (by omega) (by omega) (hF.x 904 125 rfl) (hF.x 904 130 rfl) (smk_q9 hF rfl) dn153 | exact rdt_gr hRD (by first | assumption | exact GR.rf) (by omega) (hF.x 904 125 rfl) (hF.x 904 130 rfl) (smk_q9 hF rfl) (fun a x y => absurd y (by omega)), akr_gr hAK (by first | assumption | exact GR.rf), by first | omega | (have g := (by first | assumption | exact GR.rf : GR S S); have t := g.1; omega), by first | omega | (have g := (by first | assumption | exact GR.rf : GR S S); have t := g.1; omega)⟩), (by first | assumption | exact GR.rf)⟩
    | 5, hii =>
      cases hii
      have w860 : (Xi S 904 70) = 5 := by simpa using w818
      refine l_return rfl rfl ?_
      exact ⟨hH, hF, rfl, (⟨by first | assumption | exact (by assumption : TXM S), by first | assumption | exact (by assumption : WYM S), by first | assumption | exact (by assumption : LXM S), by first | assumption | exact (by assumption : LCN S), by first | assumption | exact (by assumption : ABV S), by first | assumption | exact (by assumption : DCM S), by first | assumption | exact (by assumption : VTM S), by first | assumption | exact (by assumption : VCN S), by first | assumption | exact (by assumption : WYD S), by first | assumption | exact (by assumption : RDT S) | exact rdt_df hRD GR.rf df153 (by omega) (by omega) (by omega) (hF.x 904 125 rfl) (hF.x 904 130 rfl) (smk_q9 hF rfl) dn153 | exact rdt_gr hRD (by first | assumption | exact GR.rf) (by omega) (hF.x 904 125 rfl) (hF.x 904 130 rfl) (smk_q9 hF rfl) (fun a x y => absurd y (by omega)), akr_gr hAK (by first | assumption | exact GR.rf), by first | omega | (have g := (by first | assumption | exact GR.rf : GR S S); have t := g.1; omega), by first | omega | (have g := (by first | assumption | exact GR.rf : GR S S); have t := g.1; omega)⟩), (by first | assumption | exact GR.rf)⟩
    | 6, hii =>
      cases hii
      have w867 : (Xi S 904 70) = 6 := by simpa using w818
      refine l_return rfl rfl ?_
      exact ⟨hH, hF, rfl, (⟨by first | assumption | exact (by assumption : TXM S), by first | assumption | exact (by assumption : WYM S), by first | assumption | exact (by assumption : LXM S), by first | assumption | exact (by assumption : LCN S), by first | assumption | exact (by assumption : ABV S), by first | assumption | exact (by assumption : DCM S), by first | assumption | exact (by assumption : VTM S), by first | assumption | exact (by assumption : VCN S), by first | assumption | exact (by assumption : WYD S), by first | assumption | exact (by assumption : RDT S) | exact rdt_df hRD GR.rf df153 (by omega) (by omega) (by omega) (hF.x 904 125 rfl) (hF.x 904 130 rfl) (smk_q9 hF rfl) dn153 | exact rdt_gr hRD (by first | assumption | exact GR.rf) (by omega) (hF.x 904 125 rfl) (hF.x 904 130 rfl) (smk_q9 hF rfl) (fun a x y => absurd y (by omega)), akr_gr hAK (by first | assumption | exact GR.rf), by first | omega | (have g := (by first | assumption | exact GR.rf : GR S S); have t := g.1; omega), by first | omega | (have g := (by first | assumption | exact GR.rf : GR S S); have t := g.1; omega)⟩), (by first | assumption | exact GR.rf)⟩
    | 7, hii =>
      cases hii
      have w874 : (Xi S 904 70) = 7 := by simpa using w818
      exact Rl_weak (C159  (by omega)) (And.intro rfl (True.intro))
    | 8, hii =>
      cases hii
      have w881 : (Xi S 904 70) = 8 := by simpa using w818
      exact Rl_weak (C277  (by omega)) (And.intro rfl (True.intro))
    | 9, hii =>
      cases hii
      have w888 : (Xi S 904 70) = 9 := by simpa using w818
      exact Rl_weak (C284  (by omega)) (And.intro rfl (True.intro))
    | 10, hii =>
      cases hii
      have w895 : (Xi S 904 70) = 10 := by simpa using w818
      exact Rl_weak (C291  (by omega)) (And.intro rfl (True.intro))
    | 11, hii =>
      cases hii
      have w902 : (Xi S 904 70) = 11 := by simpa using w818
      exact Rl_weak (C298  (by omega)) (And.intro rfl (True.intro))
    | 12, hii =>
      cases hii
      have w909 : (Xi S 904 70) = 12 := by simpa using w818
      exact Rl_weak (C354  (by omega)) (And.intro rfl (True.intro))
    | 13, hii =>
      cases hii
      have w916 : (Xi S 904 70) = 13 := by simpa using w818
      exact Rl_weak (C354  (by omega)) (And.intro rfl (True.intro))
    | 14, hii =>
      cases hii
      have w923 : (Xi S 904 70) = 14 := by simpa using w818
      exact Rl_weak (C361  (by omega)) (And.intro rfl (True.intro))
    | 15, hii =>
      cases hii
      have w930 : (Xi S 904 70) = 15 := by simpa using w818
      exact Rl_weak (C368  (by omega)) (And.intro rfl (True.intro))
    | 16, hii =>
      cases hii
      have w937 : (Xi S 904 70) = 16 := by simpa using w818
      exact Rl_weak (C368  (by omega)) (And.intro rfl (True.intro))
    | 17, hii =>
      cases hii
      have w944 : (Xi S 904 70) = 17 := by simpa using w818
      exact Rl_weak (C375  (by omega)) (And.intro rfl (True.intro))
    | 18, hii =>
      cases hii
      have w951 : (Xi S 904 70) = 18 := by simpa using w818
      exact Rl_weak (C382  (by omega)) (And.intro rfl (True.intro))
    | 19, hii =>
      cases hii
      have w958 : (Xi S 904 70) = 19 := by simpa using w818
      exact Rl_weak (C426  (by omega)) (And.intro rfl (True.intro))
    | 20, hii =>
      cases hii
      have w965 : (Xi S 904 70) = 20 := by simpa using w818
      exact Rl_weak (C504  (by omega)) (And.intro rfl (And.intro rfl (True.intro)))
    | n + 21, hii => exact absurd hii (by simp)
end
