/-! SAFETY of methods: printed by wip/safe (vc.py, decl.py) -/
def md_mo_doDefined : List rec := [(904, 905, 15, 16), (904, 905, 23, 24), (904, 905, 117, 118), (912, 913, 0, 100000), (913, 914, 0, 100000), (914, 915, 0, 100000), (915, 916, 0, 100000), (916, 917, 0, 100000), (921, 922, 0, 100000), (922, 923, 0, 100000), (923, 924, 0, 100000), (924, 925, 0, 100000)]
abbrev Q_mo_doDefined (S : sS) (n : Nat) : pst := fun r S1 => HI S1 ∧ FR md_mo_doDefined S S1 ∧ (r = none ∧ (LXM S1) ∧ (LCN S1) ∧ (GR S1 S) ∧ (DEFM S1) ∧ (DCM S1) ∧ (Xi S1 904 117 = Xi S 904 117 + Xi S 904 94) ∧ (Xi S1 904 23 = Xi S 904 23 + 1) ∧ (Xi S1 923 (Xi S 904 23).toNat + Xi S1 924 (Xi S 904 23).toNat ≤ Xi S1 904 117))
set_option maxRecDepth 100000 in
theorem t_mo_doDefined {S : sS} (hH : HI S) (n : Nat) (hT : TK S n) (hv : RNV S n) (hM : LXM S) (hLC : LCN S) (hC : DCM S) (hD : DEFM S) (h : Xi S 904 23 ≤ 23) (h2 : 2 ≤ Xi S 904 69) (hs : Xi S 951 1 ≤ 3) (hk : rnR S 0 0 ≠ -1) (ht : 1 ≤ Xi S 904 94 ∧ Xi S 904 94 ≤ 6) (hq : TQA S True False (Xi S 904 117) (Xi S 904 94)) (hb : Xi S 904 117 ≤ 474) (d : Nat) : Mt lay0 (d + 5) m_mo_doDefined [.ref 904] S (Q_mo_doDefined S n) := by
  refine Mt_R rfl rfl ?_
  have hF : FR md_mo_doDefined S S := FR.rf
  have w1 : 0 ≤ Xi S 904 117 ∧ Xi S 904 117 ≤ 480 := hH.c _ _
  have w2 : 0 ≤ Xi S 904 23 ∧ Xi S 904 23 ≤ 24 := hH.c _ _
  have w3 : 0 ≤ Xi S 904 69 ∧ Xi S 904 69 ≤ 2600 := hH.c _ _
  have w4 : 0 ≤ Xi S 904 94 ∧ Xi S 904 94 ≤ 1700 := hH.c _ _
  have w5 : 0 ≤ Xi S 951 1 ∧ Xi S 951 1 ≤ 5010 := hH.c _ _
  have hn5 := hT.1
  have hc69 : 0 ≤ Xi S 904 69 ∧ Xi S 904 69 ≤ 2600 := hH.c _ _
  have q0 := hv 0 (by omega)
  have q1 := hv 1 (by omega)
  have g0 : 0 ≤ Xi S 950 0 ∧ Xi S 950 0 ≤ 5010 := hH.c 950 0
  have g1 : 0 ≤ Xi S 950 1 ∧ Xi S 950 1 ≤ 5010 := hH.c 950 1
  have hc15 : 0 ≤ Xi S 904 15 ∧ Xi S 904 15 ≤ 300 := hH.c _ _
  have hl9 := lcn_le hH hLC
  have hc16 : 0 ≤ Xi S 904 16 ∧ Xi S 904 16 ≤ 16 := hH.c _ _
  have hc23 : 0 ≤ Xi S 904 23 := (hH.c 904 23).1
  have hc117 : 0 ≤ Xi S 904 117 := (hH.c 904 117).1
  refine l_aload_n rfl rfl ?_
  refine l_aload_n rfl rfl ?_
  refine l_iconst rfl ?_
  refine l_iconst rfl ?_
  have w6 : 0 ≤ Xi S 904 117 ∧ Xi S 904 117 ≤ 480 := hH.c _ _
  have w7 : 0 ≤ Xi S 904 15 ∧ Xi S 904 15 ≤ 300 := hH.c _ _
  have w8 : 0 ≤ Xi S 904 23 ∧ Xi S 904 23 ≤ 24 := hH.c _ _
  have w9 : 0 ≤ Xi S 904 69 ∧ Xi S 904 69 ≤ 2600 := hH.c _ _
  have w10 : 0 ≤ Xi S 904 94 ∧ Xi S 904 94 ≤ 1700 := hH.c _ _
  refine l_callV rfl rfl rfl (t_mo_meansRun__2 hH n 0 0 ⟨by omega, by omega⟩ ⟨by omega, by omega⟩ (by first | assumption | exact (TK_FR hF rfl (by assumption : TK S _))) (by first | assumption | exact (RNV_FR hF rfl (by assumption : RNV S _))) (by first | assumption | omega) (by first | assumption | exact (by assumption : LXM S)) _) ?_
  rintro _ _ ⟨rfl, z13, rfl, w13, w11, w12⟩
  show Rl _ _ _ _ _ [iv z13, .ref 904] _ _
  have x4 : z13 ≠ -1 → z13 < Xi S 904 16 := fun q => by have t := (by assumption : z13 ≠ -1 → z13 < cM S 0) q; rw [cM0] at t; exact t
  have r4 : z13 = rnR S 0 0 := by assumption
  refine l_iconst rfl ?_
  have w14 : 0 ≤ Xi S 904 117 ∧ Xi S 904 117 ≤ 480 := hH.c _ _
  have w15 : 0 ≤ Xi S 904 15 ∧ Xi S 904 15 ≤ 300 := hH.c _ _
  have w16 : 0 ≤ Xi S 904 23 ∧ Xi S 904 23 ≤ 24 := hH.c _ _
  have w17 : 0 ≤ Xi S 904 69 ∧ Xi S 904 69 ≤ 2600 := hH.c _ _
  have w18 : 0 ≤ Xi S 904 94 ∧ Xi S 904 94 ≤ 1700 := hH.c _ _
  refine l_callV rfl rfl rfl (t_mo_addAdjective hH z13 (-1) ⟨by omega, by omega⟩ ⟨by omega, by omega⟩ (by first | assumption | omega) _) ?_
  rintro _ T1 ⟨hHT1, w22, z21, rfl, w21, w19, w20, e8, k8⟩
  have hFT1 : FR md_mo_doDefined S T1 := FR.tr hF w22 rfl
  show Rl _ _ _ _ _ [iv z21] _ _
  have t8 : Xi T1 904 117 = Xi S 904 117 ∧ Xi T1 904 94 = Xi S 904 94 := ⟨(by assumption : FR md_mo_addAdjective S T1).x 904 117 rfl, (by assumption : FR md_mo_addAdjective S T1).x 904 94 rfl⟩
  have g8 : GR T1 S := gr_m GR.rf (Int.le_of_eq ((by assumption : FR md_mo_addAdjective S T1).x 904 16 rfl).symm) (Int.le_of_eq ((by assumption : FR md_mo_addAdjective S T1).x 904 18 rfl).symm) (Int.le_of_eq ((by assumption : FR md_mo_addAdjective S T1).x 904 19 rfl).symm) (by omega) (Int.le_of_eq ((by assumption : FR md_mo_addAdjective S T1).x 904 30 rfl).symm) (Int.le_of_eq ((by assumption : FR md_mo_addAdjective S T1).x 904 32 rfl).symm) (Int.le_of_eq ((by assumption : FR md_mo_addAdjective S T1).x 904 41 rfl).symm) (Int.le_of_eq ((by assumption : FR md_mo_addAdjective S T1).x 904 47 rfl).symm) (Int.le_of_eq ((by assumption : FR md_mo_addAdjective S T1).x 904 49 rfl).symm) (fun i hi => ⟨(k8 i hi).2.1, ((by assumption : FR md_mo_addAdjective S T1).cx 923 rfl i).1, (k8 i hi).2.2⟩) (fun i _ => ((by assumption : FR md_mo_addAdjective S T1).cx 928 rfl i).1) (fun i _ => ((by assumption : FR md_mo_addAdjective S T1).cx 942 rfl i).1)
  refine l_istore_n rfl rfl rfl ?_
  refine l_aload_n rfl rfl ?_
  refine l_gfr rfl rfl rfl rfl rfl (hHT1.r 904 26 923 rfl) ?_
  refine l_iload_n rfl rfl ?_
  refine l_aload_n rfl rfl ?_
  refine l_gfi rfl rfl rfl rfl rfl ?_
  have w23 : (Xi T1 904 117) = (Xi S 904 117) := (show Xi T1 904 117 = Xi S 904 117 from w22.x _ _ rfl)
  rw [w23]
  refine l_iastore (n := 24) rfl rfl (by omega) (by omega) (by unfold rg; omega) ?_
  obtain ⟨U2, eU2⟩ : ∃ T : sS, T = uI T1 923 ((z21).toNat) (Int32.ofInt (Xi S 904 117)) := ⟨_, rfl⟩
  rw [← eU2]
  have hHU2 : HI U2 := by rw [eU2]; exact HI_w hHT1 (show 0 ≤ (Xi S 904 117) by omega) (show (Xi S 904 117) ≤ 480 by omega)
  have hFU2 : FR md_mo_doDefined S U2 := by rw [eU2]; exact FR.wI hFT1 (mdf_i (r := (923, 924, 0, 100000)) (List.mem_of_getElem? (i := 10) rfl) (inR_i (by omega) (by omega) (by omega) (by omega)))
  have w24 : Xi U2 923 ((z21).toNat) = (Xi S 904 117) := by rw [eU2]; exact Xi_same (by unfold rg; omega)
  have g21 : GR U2 S := GR.w g8 eU2 (by unfold rg; omega) (by omega)
  have q21 : Xi U2 923 (Xi S 904 23).toNat = Xi S 904 117 := by rw [show (Xi S 904 23).toNat = (z21).toNat by omega, eU2, Xi_same (by unfold rg; omega)] <;> omega
  have t21 : Xi U2 904 94 = Xi S 904 94 := by have t : Xi U2 904 94 = Xi T1 904 94 := (by rw [eU2, Xi_ne (by omega)]); omega
  refine l_aload_n rfl rfl ?_
  refine l_gfr rfl rfl rfl rfl rfl (hHU2.r 904 27 924 rfl) ?_
  refine l_iload_n rfl rfl ?_
  refine l_aload_n rfl rfl ?_
  refine l_gfi rfl rfl rfl rfl rfl ?_
  have w25 : (Xi U2 904 94) = (Xi S 904 94) := (show Xi U2 904 94 = Xi T1 904 94 from by rw [eU2]; exact Xi_ne (by omega)).trans ((show Xi T1 904 94 = Xi S 904 94 from w22.x _ _ rfl))
  rw [w25]
  refine l_iastore (n := 24) rfl rfl (by omega) (by omega) (by unfold rg; omega) ?_
  obtain ⟨U3, eU3⟩ : ∃ T : sS, T = uI U2 924 ((z21).toNat) (Int32.ofInt (Xi S 904 94)) := ⟨_, rfl⟩
  rw [← eU3]
  have hHU3 : HI U3 := by rw [eU3]; exact HI_w hHU2 (show 0 ≤ (Xi S 904 94) by omega) (show (Xi S 904 94) ≤ 6 by omega)
  have hFU3 : FR md_mo_doDefined S U3 := by rw [eU3]; exact FR.wI hFU2 (mdf_i (r := (924, 925, 0, 100000)) (List.mem_of_getElem? (i := 11) rfl) (inR_i (by omega) (by omega) (by omega) (by omega)))
  have w26 : Xi U3 924 ((z21).toNat) = (Xi S 904 94) := by rw [eU3]; exact Xi_same (by unfold rg; omega)
  have g31 : GR U3 S := GR.w g21 eU3 (by unfold rg; omega) (by omega)
  have q31 : Xi U3 923 (Xi S 904 23).toNat = Xi S 904 117 := by rw [eU3, Xi_ne (by omega)]; exact q21
  have p31 : Xi U3 924 (Xi S 904 23).toNat = Xi S 904 94 := by rw [show (Xi S 904 23).toNat = (z21).toNat by omega, eU3, Xi_same (by unfold rg; omega)] <;> omega
  refine l_aload_n rfl rfl ?_
  refine l_dup rfl rfl ?_
  refine l_gfi rfl rfl rfl rfl rfl ?_
  have w27 : (Xi U3 904 117) = (Xi S 904 117) := (show Xi U3 904 117 = Xi U2 904 117 from by rw [eU3]; exact Xi_ne (by omega)).trans ( (show Xi U2 904 117 = Xi T1 904 117 from by rw [eU2]; exact Xi_ne (by omega)).trans ((show Xi T1 904 117 = Xi S 904 117 from w22.x _ _ rfl)))
  rw [w27]
  refine l_aload_n rfl rfl ?_
  refine l_gfi rfl rfl rfl rfl rfl ?_
  have w28 : (Xi U3 904 94) = (Xi S 904 94) := (show Xi U3 904 94 = Xi U2 904 94 from by rw [eU3]; exact Xi_ne (by omega)).trans ( (show Xi U2 904 94 = Xi T1 904 94 from by rw [eU2]; exact Xi_ne (by omega)).trans ((show Xi T1 904 94 = Xi S 904 94 from w22.x _ _ rfl)))
  rw [w28]
  refine l_iadd rfl ?_
  refine l_pfi rfl rfl rfl rfl ?_
  obtain ⟨U4, eU4⟩ : ∃ T : sS, T = uI U3 904 117 (Int32.ofInt ((Xi S 904 117) + (Xi S 904 94))) := ⟨_, rfl⟩
  rw [← eU4]
  have hHU4 : HI U4 := by rw [eU4]; exact HI_w hHU3 (show 0 ≤ ((Xi S 904 117) + (Xi S 904 94)) by omega) (show ((Xi S 904 117) + (Xi S 904 94)) ≤ 480 by omega)
  have hFU4 : FR md_mo_doDefined S U4 := by rw [eU4]; exact FR.wI hFU3 (mdf_i (r := (904, 905, 117, 118)) (List.mem_of_getElem? (i := 2) rfl) (inR_i (by omega) (by omega) (by omega) (by omega)))
  have w29 : Xi U4 904 117 = ((Xi S 904 117) + (Xi S 904 94)) := by rw [eU4]; exact Xi_same (by unfold rg; omega)
  have g42 : GR U4 S := GR_FR (FR_e eU4) rfl g31
  have x42 : LXK U4 S (Xi S 904 15) := (LXK.fr (LXK.fr (LXK.fr (LXK.fr LXK.rf w22 rfl) (FR_e eU2) rfl) (FR_e eU3) rfl) (FR_e eU4) rfl)
  have c42 : Xi U4 904 15 = Xi S 904 15 := ((show Xi U4 904 15 = Xi U3 904 15 from by rw [eU4]; exact Xi_ne (by omega)).trans ((show Xi U3 904 15 = Xi U2 904 15 from by rw [eU3]; exact Xi_ne (by omega)).trans ((show Xi U2 904 15 = Xi T1 904 15 from by rw [eU2]; exact Xi_ne (by omega)).trans ((show Xi T1 904 15 = Xi S 904 15 from w22.x _ _ rfl)))))
  have d42 : Xi U4 904 23 = Xi S 904 23 + 1 := by rw [eU4, Xi_ne (by omega), eU3, Xi_ne (by omega), eU2, Xi_ne (by omega)]; assumption
  have q42 : Xi U4 923 (Xi S 904 23).toNat = Xi S 904 117 ∧ Xi U4 924 (Xi S 904 23).toNat = Xi S 904 94 := ⟨by rw [eU4, Xi_ne (by omega)]; exact q31, by rw [eU4, Xi_ne (by omega)]; exact p31⟩
  refine l_aload_n rfl rfl ?_
  refine l_iconst rfl ?_
  refine l_iload_n rfl rfl ?_
  refine l_iconst rfl ?_
  have w30 : 0 ≤ Xi U4 904 117 ∧ Xi U4 904 117 ≤ 480 := hHU4.c _ _
  have w31 : Xi U4 904 15 = Xi S 904 15 := (show Xi U4 904 15 = Xi U3 904 15 from by rw [eU4]; exact Xi_ne (by omega)).trans ( (show Xi U3 904 15 = Xi U2 904 15 from by rw [eU3]; exact Xi_ne (by omega)).trans ( (show Xi U2 904 15 = Xi T1 904 15 from by rw [eU2]; exact Xi_ne (by omega)).trans ((show Xi T1 904 15 = Xi S 904 15 from w22.x _ _ rfl))))
  have w32 : 0 ≤ Xi S 904 15 ∧ Xi S 904 15 ≤ 300 := hH.c _ _
  have w33 : Xi U4 904 23 = Xi T1 904 23 := (show Xi U4 904 23 = Xi U3 904 23 from by rw [eU4]; exact Xi_ne (by omega)).trans ( (show Xi U3 904 23 = Xi U2 904 23 from by rw [eU3]; exact Xi_ne (by omega)).trans ((show Xi U2 904 23 = Xi T1 904 23 from by rw [eU2]; exact Xi_ne (by omega))))
  have w34 : 0 ≤ Xi T1 904 23 ∧ Xi T1 904 23 ≤ 24 := hHT1.c _ _
  have w35 : Xi U4 904 69 = Xi S 904 69 := (show Xi U4 904 69 = Xi U3 904 69 from by rw [eU4]; exact Xi_ne (by omega)).trans ( (show Xi U3 904 69 = Xi U2 904 69 from by rw [eU3]; exact Xi_ne (by omega)).trans ( (show Xi U2 904 69 = Xi T1 904 69 from by rw [eU2]; exact Xi_ne (by omega)).trans ((show Xi T1 904 69 = Xi S 904 69 from w22.x _ _ rfl))))
  have w36 : 0 ≤ Xi S 904 69 ∧ Xi S 904 69 ≤ 2600 := hH.c _ _
  have w37 : Xi U4 904 94 = Xi S 904 94 := (show Xi U4 904 94 = Xi U3 904 94 from by rw [eU4]; exact Xi_ne (by omega)).trans ( (show Xi U3 904 94 = Xi U2 904 94 from by rw [eU3]; exact Xi_ne (by omega)).trans ( (show Xi U2 904 94 = Xi T1 904 94 from by rw [eU2]; exact Xi_ne (by omega)).trans ((show Xi T1 904 94 = Xi S 904 94 from w22.x _ _ rfl))))
  have w38 : 0 ≤ Xi S 904 94 ∧ Xi S 904 94 ≤ 1700 := hH.c _ _
  refine l_callV rfl rfl rfl (t_mo_tellRun hHU4 n 5 z21 1 ⟨by omega, by omega⟩ ⟨by omega, by omega⟩ ⟨by omega, by omega⟩ (by first | assumption | exact (TK_FR hFU4 rfl (by assumption : TK S _))) (by first | assumption | exact (RNV_FR hFU4 rfl (by assumption : RNV S _))) (by first | assumption | omega) (by rw [(hFU4.cx 951 rfl _).1]; exact hs) (by first | assumption | omega) _) ?_
  rintro _ T5 ⟨hHT5, w41, rfl, w39, e49, k49⟩
  have hFT5 : FR md_mo_doDefined S T5 := FR.tr hFU4 w41 rfl
  show Rl _ _ _ _ _ [] _ _
  have g49 : GR T5 S := GR_FR (by assumption : FR md_mo_tellRun U4 T5) rfl g42
  have x49 : LXK T5 S (Xi S 904 15) := x42.tr k49 (by omega)
  have n49 : Xi T5 923 (Xi S 904 23).toNat = Xi S 904 117 ∧ Xi T5 924 (Xi S 904 23).toNat = Xi S 904 94 := ⟨((by assumption : FR md_mo_tellRun U4 T5).cx 923 rfl _).1.trans q42.1, ((by assumption : FR md_mo_tellRun U4 T5).cx 924 rfl _).1.trans q42.2⟩
  have f49 : Xi T5 904 23 = Xi S 904 23 + 1 := ((by assumption : FR md_mo_tellRun U4 T5).x 904 23 rfl).trans d42
  have d49 : Xi T5 915 (Xi S 904 15).toNat < cM T5 (Xi T5 914 (Xi S 904 15).toNat) := by rw [← c42, e49.1, e49.2, cM5]; omega
  have M49 : LXM T5 := lxm_gr hM x49 g49 (by omega) (Or.inr ⟨by omega, d49⟩)
  have y49_16 : Xi T5 904 16 = Xi S 904 16 := hFT5.x 904 16 rfl
  have y49_18 : Xi T5 904 18 = Xi S 904 18 := hFT5.x 904 18 rfl
  have y49_19 : Xi T5 904 19 = Xi S 904 19 := hFT5.x 904 19 rfl
  have y49_30 : Xi T5 904 30 = Xi S 904 30 := hFT5.x 904 30 rfl
  have y49_32 : Xi T5 904 32 = Xi S 904 32 := hFT5.x 904 32 rfl
  have y49_41 : Xi T5 904 41 = Xi S 904 41 := hFT5.x 904 41 rfl
  have y49_47 : Xi T5 904 47 = Xi S 904 47 := hFT5.x 904 47 rfl
  have y49_49 : Xi T5 904 49 = Xi S 904 49 := hFT5.x 904 49 rfl
  have L49 : LCN T5 := lcn_i hLC (pls_le x49 (by omega) (by omega) (by omega)) (by omega)
  have Q49 : ∀ k, 969 ≤ k → k ≤ 975 → ∀ i, Xi T5 k i = Xi S k i := fun k a b i => kdis_q hFT5 rfl k a b i
  have D49 : DEFM T5 := defm_gr hD g49 Q49 (fun a b c e => by rw [show a = (Xi S 904 23).toNat by omega, n49.1, n49.2]; refine ⟨by omega, fun k hk => tq_gr g49 (fun j x y => Q49 j x y _) ?_⟩; have t := hq (k : Int) (by omega) (by omega); rw [show (Xi S 904 117 + (k : Int)).toNat = (Xi S 904 117).toNat + k by omega] at t; exact t)
  have C49 : DCM T5 := dcm_gr hC g49 (fun a b c e => by rw [show a = (Xi S 904 23).toNat by omega, n49.2] at e; omega)
  refine l_return rfl rfl ?_
  have w42 : Xi T5 923 (Xi S 904 23).toNat = Xi U2 923 (Xi S 904 23).toNat := (show Xi T5 923 (Xi S 904 23).toNat = Xi U4 923 (Xi S 904 23).toNat from (w41.cx 923 rfl _).1).trans ( (show Xi U4 923 (Xi S 904 23).toNat = Xi U3 923 (Xi S 904 23).toNat from by rw [eU4]; exact Xi_ne (by omega)).trans ((show Xi U3 923 (Xi S 904 23).toNat = Xi U2 923 (Xi S 904 23).toNat from by rw [eU3]; exact Xi_ne (by omega))))
  have w43 : Xi T5 924 (Xi S 904 23).toNat = Xi U3 924 (Xi S 904 23).toNat := (show Xi T5 924 (Xi S 904 23).toNat = Xi U4 924 (Xi S 904 23).toNat from (w41.cx 924 rfl _).1).trans ((show Xi U4 924 (Xi S 904 23).toNat = Xi U3 924 (Xi S 904 23).toNat from by rw [eU4]; exact Xi_ne (by omega)))
  have w44 : Xi T5 904 117 = Xi U4 904 117 := (show Xi T5 904 117 = Xi U4 904 117 from w41.x _ _ rfl)
  have w45 : 0 ≤ Xi U4 904 117 ∧ Xi U4 904 117 ≤ 480 := hHU4.c _ _
  have w46 : 0 ≤ Xi T5 904 15 ∧ Xi T5 904 15 ≤ 300 := hHT5.c _ _
  have w47 : Xi T5 904 23 = Xi T1 904 23 := (show Xi T5 904 23 = Xi U4 904 23 from w41.x _ _ rfl).trans ( (show Xi U4 904 23 = Xi U3 904 23 from by rw [eU4]; exact Xi_ne (by omega)).trans ( (show Xi U3 904 23 = Xi U2 904 23 from by rw [eU3]; exact Xi_ne (by omega)).trans ((show Xi U2 904 23 = Xi T1 904 23 from by rw [eU2]; exact Xi_ne (by omega)))))
  have w48 : 0 ≤ Xi T1 904 23 ∧ Xi T1 904 23 ≤ 24 := hHT1.c _ _
  have w49 : Xi T5 904 69 = Xi S 904 69 := (show Xi T5 904 69 = Xi U4 904 69 from w41.x _ _ rfl).trans ( (show Xi U4 904 69 = Xi U3 904 69 from by rw [eU4]; exact Xi_ne (by omega)).trans ( (show Xi U3 904 69 = Xi U2 904 69 from by rw [eU3]; exact Xi_ne (by omega)).trans ( (show Xi U2 904 69 = Xi T1 904 69 from by rw [eU2]; exact Xi_ne (by omega)).trans ((show Xi T1 904 69 = Xi S 904 69 from w22.x _ _ rfl)))))
  have w50 : 0 ≤ Xi S 904 69 ∧ Xi S 904 69 ≤ 2600 := hH.c _ _
  have w51 : Xi T5 904 94 = Xi S 904 94 := (show Xi T5 904 94 = Xi U4 904 94 from w41.x _ _ rfl).trans ( (show Xi U4 904 94 = Xi U3 904 94 from by rw [eU4]; exact Xi_ne (by omega)).trans ( (show Xi U3 904 94 = Xi U2 904 94 from by rw [eU3]; exact Xi_ne (by omega)).trans ( (show Xi U2 904 94 = Xi T1 904 94 from by rw [eU2]; exact Xi_ne (by omega)).trans ((show Xi T1 904 94 = Xi S 904 94 from w22.x _ _ rfl)))))
  have w52 : 0 ≤ Xi S 904 94 ∧ Xi S 904 94 ≤ 1700 := hH.c _ _
  exact ⟨hHT5, hFT5, rfl, (by first | assumption | exact (by assumption : LXM T5)), (by first | assumption | exact (by assumption : LCN T5)), (g49), (D49), (C49), (by omega), (by omega), (by have t := n49; omega)⟩

