/-! SAFETY of methods: printed by wip/safe (vc.py, decl.py) -/
def md_mo_doDefined : List rec := [(904, 905, 15, 16), (904, 905, 23, 24), (904, 905, 117, 118), (912, 913, 0, 100000), (913, 914, 0, 100000), (914, 915, 0, 100000), (915, 916, 0, 100000), (916, 917, 0, 100000), (921, 922, 0, 100000), (922, 923, 0, 100000), (923, 924, 0, 100000), (924, 925, 0, 100000)]
abbrev Q_mo_doDefined (S : sS) (n : Nat) : pst := fun r S1 => HI S1 ∧ FR md_mo_doDefined S S1 ∧ (r = none ∧ (LXM S1) ∧ (LCN S1) ∧ (GR S1 S) ∧ (DEFM S1) ∧ (DCM S1) ∧ (Xi S1 904 117 = Xi S 904 117 + Xi S 904 94) ∧ (Xi S1 904 23 = Xi S 904 23 + 1) ∧ (Xi S1 923 (Xi S 904 23).toNat + Xi S1 924 (Xi S 904 23).toNat ≤ Xi S1 904 117))
set_option maxRecDepth 100000 in
theorem t_mo_doDefined {S : sS} (hH : HI S) (n : Nat) (hT : TK S n) (hv : RNV S n) (hM : LXM S) (hLC : LCN S) (hC : DCM S) (hD : DEFM S) (h : Xi S 904 23 ≤ 23) (h2 : 2 ≤ Xi S 904 69) (hs : Xi S 951 1 ≤ 3) (hk : rnR S 0 0 ≠ -1) (ht : 1 ≤ Xi S 904 94 ∧ Xi S 904 94 ≤ 6) (hq : TQA S True False (Xi S 904 117) (Xi S 904 94)) (hb : Xi S 904 117 ≤ 474) (d : Nat) : Mt lay0 (d + 5) m_mo_doDefined [.ref 904] S (Q_mo_doDefined S n) := by
  refine Mt_R rfl rfl ?_
  have hF : FR md_mo_doDefined S S := FR.rf
  have w1 : 0 ≤ Xi S 904 117 ∧ Xi S 904 117 ≤ 480 := hH.c _ _
  have w2 : 0 ≤ Xi S 904 23 ∧ Xi S 904 23 ≤ 24 := hH.c _ _
  have w3 : 0 ≤ Xi S 904 69 ∧ Xi S 904 69 ≤ 2600 := hH.c _ _
  have w4 : 0 ≤ Xi S 904 94 ∧ Xi S 904 94 ≤ 1700 := hH.c _ _
  have w5 : 0 ≤ Xi S 951 1 ∧ Xi S 951 1 ≤ 5010 := hH.c _ _
  have hn5 := hT.1
  have hc69 : 0 ≤ Xi S 904 69 ∧ Xi S 904 69 ≤ 2600 := hH.c _ _
  have q0 := hv 0 (by omega)
  have q1 := hv 1 (by omega)
  have g0 : 0 ≤ Xi S 950 0 ∧ Xi S 950 0 ≤ 5010 := hH.c 950 0
  have g1 : 0 ≤ Xi S 950 1 ∧ Xi S 950 1 ≤ 5010 := hH.c 950 1
  have hc15 : 0 ≤ Xi S 904 15 ∧ Xi S 904 15 ≤ 300 := hH.c _ _
  have hl9 := lcn_le hH hLC
  have hc16 : 0 ≤ Xi S 904 16 ∧ Xi S 904 16 ≤ 16 := hH.c _ _
  have hc23 : 0 ≤ Xi S 904 23 := (hH.c 904 23).1
  have hc117 : 0 ≤ Xi S 904 117 := (hH.c 904 117).1
  refine l_aload_n rfl rfl ?_
  refine l_aload_n rfl rfl ?_
  refine l_iconst rfl ?_
  refine l_iconst rfl ?_
  have w6 : 0 ≤ Xi S 904 117 ∧ Xi S 904 117 ≤ 480 := hH.c _ _
  have w7 : 0 ≤ Xi S 904 15 ∧ Xi S 904 15 ≤ 300 := hH.c _ _
  have w8 : 0 ≤ Xi S 904 23 ∧ Xi S 904 23 ≤ 24 := hH.c _ _
  have w9 : 0 ≤ Xi S 904 69 ∧ Xi S 904 69 ≤ 2600 := hH.c _ _
  have w10 : 0 ≤ Xi S 904 94 ∧ Xi S 904 94 ≤ 1700 := hH.c _ _
  refine l_callV rfl rfl rfl (t_mo_meansRun__2 hH n 0 0 ⟨by omega, by omega⟩ ⟨by omega, by omega⟩ (by first | assumption | exact (TK_FR hF rfl (by assumption : TK S _))) (by first | assumption | exact (RNV_FR hF rfl (by assumption : RNV S _))) (by first | assumption | omega) (by first | assumption | exact (by assumption : LXM S)) _) ?_
  rintro _ _ ⟨rfl, z13, rfl, w13, w11, w12⟩
  show Rl _ _ _ _ _ [iv z13, .ref 904] _ _
  have x4 : z13 ≠ -1 → z13 < Xi S 904 16 := fun q => by have t := (by assumption : z13 ≠ -1 → z13 < cM S 0) q; rw [cM0] at t; exact t
  have r4 : z13 = rnR S 0 0 := by assumption
  refine l_iconst rfl ?_
  have w14 : 0 ≤ Xi S 904 117 ∧ Xi S 904 117 ≤ 480 := hH.c _ _
  have w15 : 0 ≤ Xi S 904 15 ∧ Xi S 904 15 ≤ 300 := hH.c _ _
  have w16 : 0 ≤ Xi S 904 23 ∧ Xi S 904 23 ≤ 24 := hH.c _ _
  have w17 : 0 ≤ Xi S 904 69 ∧ Xi S 904 69 ≤ 2600 := hH.c _ _
  have w18 : 0 ≤ Xi S 904 94 ∧ Xi S 904 94 ≤ 1700 := hH.c _ _
  refine l_callV rfl rfl rfl (t_mo_addAdjective hH z13 (-1) ⟨by omega, by omega⟩ ⟨by omega, by omega⟩ (by first | assumption | omega) _) ?_
  rintro _ T1 ⟨hHT1, w22, z21, rfl, w21, w19, w20, e8, k8⟩
  have hFT1 : FR md_mo_doDefined S T1 := FR.tr hF w22 rfl
  show Rl _ _ _ _ _ [iv z21] _ _
  have t8 : Xi T1 904 117 = Xi S 904 117 ∧ Xi T1 904 94 = Xi S 904 94 := ⟨(by assumption : FR md_mo_addAdjective S T1).x 904 117 rfl, (by assumption : FR md_mo_addAdjective S T1).x 904 94 rfl⟩
  have g8 : GR T1 S := gr_m GR.rf (Int.le_of_eq ((by assumption : FR md_mo_addAdjective S T1).x 904 16 rfl).symm) (Int.le_of_eq ((by assumption : FR md_mo_addAdjective S T1).x 904 18 rfl).symm) (Int.le_of_eq ((by assumption : FR md_mo_addAdjective S T1).x 904 19 rfl).symm) (by omega) (Int.le_of_eq ((by assumption : FR md_mo_addAdjective S T1).x 904 30 rfl).symm) (Int.le_of_eq ((by assumption : FR md_mo_addAdjective S T1).x 904 32 rfl).symm) (Int.le_of_eq ((by assumption : FR md_mo_addAdjective S T1).x 904 41 rfl).symm) (Int.le_of_eq ((by assumption : FR md_mo_addAdjective S T1).x 904 47 rfl).symm) (Int.le_of_eq ((by assumption : FR md_mo_addAdjective S T1).x 904 49 rfl).symm) (fun i hi => ⟨(k8 i hi).2.1, ((by assumption : FR md_mo_addAdjective S T1).cx 923 rfl i).1, (k8 i hi).2.2⟩) (fun i _ => ((by assumption : FR md_mo_addAdjective S T1).cx 928 rfl i).1) (fun i _ => ((by assumption : FR md_mo_addAdjective S T1).cx 942 rfl i).1)
  refine l_istore_n rfl rfl rfl ?_
  refine l_aload_n rfl rfl ?_
  refine l_gfr rfl rfl rfl rfl rfl (hHT1.r 904 26 923 rfl) ?_
  refine l_iload_n rfl rfl ?_
  refine l_aload_n rfl rfl ?_
  refine l_gfi rfl rfl rfl rfl rfl ?_
  have w23 : (Xi T1 904 117) = (Xi S 904 117) := (show Xi T1 904 117 = Xi S 904 117 from w22.x _ _ rfl)
  rw [w23]
  refine l_iastore (n := 24) rfl rfl (by omega) (by omega) (by unfold rg; omega) ?_
  obtain ⟨U2, eU2⟩ : ∃ T : sS, T = uI T1 923 ((z21).toNat) (Int32.ofInt (Xi S 904 117)) := ⟨_, rfl⟩
  rw [← eU2]
  have hHU2 : HI U2 := by rw [eU2]; exact HI_w hHT1 (show 0 ≤ (Xi S 904 117) by omega) (show (Xi S 904 117) ≤ 480 by omega)
  have hFU2 : FR md_mo_doDefined S U2 := by rw [eU2]; exact FR.wI hFT1 (mdf_i (r := (923, 924, 0, 100000)) (List.mem_of_getElem? (i := 10) rfl) (inR_i (by omega) (by omega) (by omega) (by omega)))
  have w24 : Xi U2 923 ((z21).toNat) = (Xi S 904 117) := by rw [eU2]; exact Xi_same (by unfold rg; omega)
  have g21 : GR U2 S := GR.w g8 eU2 (by unfold rg; omega) (by omega)
  have q21 : Xi U2 923 (Xi S 904 23).toNat = Xi S 904 117 := by rw [show (Xi S 904 23).toNat = (z21).toNat by omega, eU2, Xi_same (by unfold rg; omega)] <;> omega
  have t21 : Xi U2 904 94 = Xi S 904 94 := by have t : Xi U2 904 94 = Xi T1 904 94 := (by rw [eU2, Xi_ne (by omega)]); omega
  refine l_aload_n rfl rfl ?_
  refine l_gfr rfl rfl rfl rfl rfl (hHU2.r 904 27 924 rfl) ?_
  refine l_iload_n rfl rfl ?_
  refine l_aload_n rfl rfl ?_
  refine l_gfi rfl rfl rfl rfl rfl ?_
  have w25 : (Xi U2 904 94) = (Xi S 904 94) := (show Xi U2 904 94 = Xi T1 904 94 from by rw [eU2]; exact Xi_ne (by omega)).trans ((show Xi T1 904 94 = Xi S 904 94 from w22.x _ _ rfl))
  rw [w25]
  refine l_iastore (n := 24) rfl rfl (by omega) (by omega) (by unfold rg; omega) ?_
  obtain ⟨U3, eU3⟩ : ∃ T : sS, T = uI U2 924 ((z21).toNat) (Int32.ofInt (Xi S 904 94)) := ⟨_, rfl⟩
  rw [← eU3]
  have hHU3 : HI U3 := by rw [eU3]; exact HI_w hHU2 (show 0 ≤ (Xi S 904 94) by omega) (show (Xi S 904 94) ≤ 6 by omega)
  have hFU3 : FR md_mo_doDefined S U3 := by rw [eU3]; exact FR.wI hFU2 (mdf_i (r := (924, 925, 0, 100000)) (List.mem_of_getElem? (i := 11) rfl) (inR_i (by omega) (by omega) (by omega) (by omega)))
  have w26 : Xi U3 924 ((z21).toNat) = (Xi S 904 94) := by rw [eU3]; exact Xi_same (by unfold rg; omega)
  have g31 : GR U3 S := GR.w g21 eU3 (by unfold rg; omega) (by omega)
  have q31 : Xi U3 923 (Xi S 904 23).toNat = Xi S 904 117 := by rw [eU3, Xi_ne (by omega)]; exact q21
  have p31 : Xi U3 924 (Xi S 904 23).toNat = Xi S 904 94 := by rw [show (Xi S 904 23).toNat = (z21).toNat by omega, eU3, Xi_same (by unfold rg; omega)] <;> omega
  refine l_aload_n rfl rfl ?_
  refine l_dup rfl rfl ?_
  refine l_gfi rfl rfl rfl rfl rfl ?_
  have w27 : (Xi U3 904 117) = (Xi S 904 117) := (show Xi U3 904 117 = Xi U2 904 117 from by rw [eU3]; exact Xi_ne (by omega)).trans ( (show Xi U2 904 117 = Xi T1 904 117 from by rw [eU2]; exact Xi_ne (by omega)).trans ((show Xi T1 904 117 = Xi S 904 117 from w22.x _ _ rfl)))
  rw [w27]
  refine l_aload_n rfl rfl ?_
  refine l_gfi rfl rfl rfl rfl rfl ?_
  have w28 : (Xi U3 904 94) = (Xi S 904 94) := (show Xi U3 904 94 = Xi U2 904 94 from by rw [eU3]; exact Xi_ne (by omega)).trans ( (show Xi U2 904 94 = Xi T1 904 94 from by rw [eU2]; exact Xi_ne (by omega)).trans ((show Xi T1 904 94 = Xi S 904 94 from w22.x _ _ rfl)))
  rw [w28]
  refine l_iadd rfl ?_
  refine l_pfi rfl rfl rfl rfl ?_
  obtain ⟨U4, eU4⟩ : ∃ T : sS, T = uI U3 904 117 (Int32.ofInt ((Xi S 904 117) + (Xi S 904 94))) := ⟨_, rfl⟩
  rw [← eU4]
  have hHU4 : HI U4 := by rw [eU4]; exact HI_w hHU3 (show 0 ≤ ((Xi S 904 117) + (Xi S 904 94)) by omega) (show ((Xi S 904 117) + (Xi S 904 94)) ≤ 480 by omega)
  have hFU4 : FR md_mo_doDefined S U4 := by rw [eU4]; exact FR.wI hFU3 (mdf_i (r := (904, 905, 117, 118)) (List.mem_of_getElem? (i := 2) rfl) (inR_i (by omega) (by omega) (by omega) (by omega)))
  have w29 : Xi U4 904 117 = ((Xi S 904 117) + (Xi S 904 94)) := by rw [eU4]; exact Xi_same (by unfold rg; omega)
  have g42 : GR U4 S := GR_FR (FR_e eU4) rfl g31
  have x42 : LXK U4 S (Xi S 904 15) := (LXK.fr (LXK.fr (LXK.fr (LXK.fr LXK.rf w22 rfl) (FR_e eU2) rfl) (FR_e eU3) rfl) (FR_e eU4) rfl)
  have c42 : Xi U4 904 15 = Xi S 904 15 := ((show Xi U4 904 15 = Xi U3 904 15 from by rw [eU4]; exact Xi_ne (by omega)).trans ((show Xi U3 904 15 = Xi U2 904 15 from by rw [eU3]; exact Xi_ne (by omega)).trans ((show Xi U2 904 15 = Xi T1 904 15 from by rw [eU2]; exact Xi_ne (by omega)).trans ((show Xi T1 904 15 = Xi S 904 15 from w22.x _ _ rfl)))))
  have d42 : Xi U4 904 23 = Xi S 904 23 + 1 := by rw [eU4, Xi_ne (by omega), eU3, Xi_ne (by omega), eU2, Xi_ne (by omega)]; assumption
  have q42 : Xi U4 923 (Xi S 904 23).toNat = Xi S 904 117 ∧ Xi U4 924 (Xi S 904 23).toNat = Xi S 904 94 := ⟨by rw [eU4, Xi_ne (by omega)]; exact q31, by rw [eU4, Xi_ne (by omega)]; exact p31⟩
  refine l_aload_n rfl rfl ?_
  refine l_iconst rfl ?_
  refine l_iload_n rfl rfl ?_
  refine l_iconst rfl ?_
  have w30 : 0 ≤ Xi U4 904 117 ∧ Xi U4 904 117 ≤ 480 := hHU4.c _ _
  have w31 : Xi U4 904 15 = Xi S 904 15 := (show Xi U4 904 15 = Xi U3 904 15 from by rw [eU4]; exact Xi_ne (by omega)).trans ( (show Xi U3 904 15 = Xi U2 904 15 from by rw [eU3]; exact Xi_ne (by omega)).trans ( (show Xi U2 904 15 = Xi T1 904 15 from by rw [eU2]; exact Xi_ne (by omega)).trans ((show Xi T1 904 15 = Xi S 904 15 from w22.x _ _ rfl))))
  have w32 : 0 ≤ Xi S 904 15 ∧ Xi S 904 15 ≤ 300 := hH.c _ _
  have w33 : Xi U4 904 23 = Xi T1 904 23 := (show Xi U4 904 23 = Xi U3 904 23 from by rw [eU4]; exact Xi_ne (by omega)).trans ( (show Xi U3 904 23 = Xi U2 904 23 from by rw [eU3]; exact Xi_ne (by omega)).trans ((show Xi U2 904 23 = Xi T1 904 23 from by rw [eU2]; exact Xi_ne (by omega))))
  have w34 : 0 ≤ Xi T1 904 23 ∧ Xi T1 904 23 ≤ 24 := hHT1.c _ _
  have w35 : Xi U4 904 69 = Xi S 904 69 := (show Xi U4 904 69 = Xi U3 904 69 from by rw [eU4]; exact Xi_ne (by omega)).trans ( (show Xi U3 904 69 = Xi U2 904 69 from by rw [eU3]; exact Xi_ne (by omega)).trans ( (show Xi U2 904 69 = Xi T1 904 69 from by rw [eU2]; exact Xi_ne (by omega)).trans ((show Xi T1 904 69 = Xi S 904 69 from w22.x _ _ rfl))))
  have w36 : 0 ≤ Xi S 904 69 ∧ Xi S 904 69 ≤ 2600 := hH.c _ _
  have w37 : Xi U4 904 94 = Xi S 904 94 := (show Xi U4 904 94 = Xi U3 904 94 from by rw [eU4]; exact Xi_ne (by omega)).trans ( (show Xi U3 904 94 = Xi U2 904 94 from by rw [eU3]; exact Xi_ne (by omega)).trans ( (show Xi U2 904 94 = Xi T1 904 94 from by rw [eU2]; exact Xi_ne (by omega)).trans ((show Xi T1 904 94 = Xi S 904 94 from w22.x _ _ rfl))))
  have w38 : 0 ≤ Xi S 904 94 ∧ Xi S 904 94 ≤ 1700 := hH.c _ _
  refine l_callV rfl rfl rfl (t_mo_tellRun hHU4 n 5 z21 1 ⟨by omega, by omega⟩ ⟨by omega, by omega⟩ ⟨by omega, by omega⟩ (by first | assumption | exact (TK_FR hFU4 rfl (by assumption : TK S _))) (by first | assumption | exact (RNV_FR hFU4 rfl (by assumption : RNV S _))) (by first | assumption | omega) (by rw [(hFU4.cx 951 rfl _).1]; exact hs) (by first | assumption | omega) _) ?_
  rintro _ T5 ⟨hHT5, w41, rfl, w39, e49, k49⟩
  have hFT5 : FR md_mo_doDefined S T5 := FR.tr hFU4 w41 rfl
  show Rl _ _ _ _ _ [] _ _
  have g49 : GR T5 S := GR_FR (by assumption : FR md_mo_tellRun U4 T5) rfl g42
  have x49 : LXK T5 S (Xi S 904 15) := x42.tr k49 (by omega)
  have n49 : Xi T5 923 (Xi S 904 23).toNat = Xi S 904 117 ∧ Xi T5 924 (Xi S 904 23).toNat = Xi S 904 94 := ⟨((by assumption : FR md_mo_tellRun U4 T5).cx 923 rfl _).1.trans q42.1, ((by assumption : FR md_mo_tellRun U4 T5).cx 924 rfl _).1.trans q42.2⟩
  have f49 : Xi T5 904 23 = Xi S 904 23 + 1 := ((by assumption : FR md_mo_tellRun U4 T5).x 904 23 rfl).trans d42
  have d49 : Xi T5 915 (Xi S 904 15).toNat < cM T5 (Xi T5 914 (Xi S 904 15).toNat) := by rw [← c42, e49.1, e49.2, cM5]; omega
  have M49 : LXM T5 := lxm_gr hM x49 g49 (by omega) (Or.inr ⟨by omega, d49⟩)
  have y49_16 : Xi T5 904 16 = Xi S 904 16 := hFT5.x 904 16 rfl
  have y49_18 : Xi T5 904 18 = Xi S 904 18 := hFT5.x 904 18 rfl
  have y49_19 : Xi T5 904 19 = Xi S 904 19 := hFT5.x 904 19 rfl
  have y49_30 : Xi T5 904 30 = Xi S 904 30 := hFT5.x 904 30 rfl
  have y49_32 : Xi T5 904 32 = Xi S 904 32 := hFT5.x 904 32 rfl
  have y49_41 : Xi T5 904 41 = Xi S 904 41 := hFT5.x 904 41 rfl
  have y49_47 : Xi T5 904 47 = Xi S 904 47 := hFT5.x 904 47 rfl
  have y49_49 : Xi T5 904 49 = Xi S 904 49 := hFT5.x 904 49 rfl
  have L49 : LCN T5 := lcn_i hLC (pls_le x49 (by omega) (by omega) (by omega)) (by omega)
  have Q49 : ∀ k, 969 ≤ k → k ≤ 975 → ∀ i, Xi T5 k i = Xi S k i := fun k a b i => kdis_q hFT5 rfl k a b i
  have D49 : DEFM T5 := defm_gr hD g49 Q49 (fun a b c e => by rw [show a = (Xi S 904 23).toNat by omega, n49.1, n49.2]; refine ⟨by omega, fun k hk => tq_gr g49 (fun j x y => Q49 j x y _) ?_⟩; have t := hq (k : Int) (by omega) (by omega); rw [show (Xi S 904 117 + (k : Int)).toNat = (Xi S 904 117).toNat + k by omega] at t; exact t)
  have C49 : DCM T5 := dcm_gr hC g49 (fun a b c e => by rw [show a = (Xi S 904 23).toNat by omega, n49.2] at e; omega)
  refine l_return rfl rfl ?_
  have w42 : Xi T5 923 (Xi S 904 23).toNat = Xi U2 923 (Xi S 904 23).toNat := (show Xi T5 923 (Xi S 904 23).toNat = Xi U4 923 (Xi S 904 23).toNat from (w41.cx 923 rfl _).1).trans ( (show Xi U4 923 (Xi S 904 23).toNat = Xi U3 923 (Xi S 904 23).toNat from by rw [eU4]; exact Xi_ne (by omega)).trans ((show Xi U3 923 (Xi S 904 23).toNat = Xi U2 923 (Xi S 904 23).toNat from by rw [eU3]; exact Xi_ne (by omega))))
  have w43 : Xi T5 924 (Xi S 904 23).toNat = Xi U3 924 (Xi S 904 23).toNat := (show Xi T5 924 (Xi S 904 23).toNat = Xi U4 924 (Xi S 904 23).toNat from (w41.cx 924 rfl _).1).trans ((show Xi U4 924 (Xi S 904 23).toNat = Xi U3 924 (Xi S 904 23).toNat from by rw [eU4]; exact Xi_ne (by omega)))
  have w44 : Xi T5 904 117 = Xi U4 904 117 := (show Xi T5 904 117 = Xi U4 904 117 from w41.x _ _ rfl)
  have w45 : 0 ≤ Xi U4 904 117 ∧ Xi U4 904 117 ≤ 480 := hHU4.c _ _
  have w46 : 0 ≤ Xi T5 904 15 ∧ Xi T5 904 15 ≤ 300 := hHT5.c _ _
  have w47 : Xi T5 904 23 = Xi T1 904 23 := (show Xi T5 904 23 = Xi U4 904 23 from w41.x _ _ rfl).trans ( (show Xi U4 904 23 = Xi U3 904 23 from by rw [eU4]; exact Xi_ne (by omega)).trans ( (show Xi U3 904 23 = Xi U2 904 23 from by rw [eU3]; exact Xi_ne (by omega)).trans ((show Xi U2 904 23 = Xi T1 904 23 from by rw [eU2]; exact Xi_ne (by omega)))))
  have w48 : 0 ≤ Xi T1 904 23 ∧ Xi T1 904 23 ≤ 24 := hHT1.c _ _
  have w49 : Xi T5 904 69 = Xi S 904 69 := (show Xi T5 904 69 = Xi U4 904 69 from w41.x _ _ rfl).trans ( (show Xi U4 904 69 = Xi U3 904 69 from by rw [eU4]; exact Xi_ne (by omega)).trans ( (show Xi U3 904 69 = Xi U2 904 69 from by rw [eU3]; exact Xi_ne (by omega)).trans ( (show Xi U2 904 69 = Xi T1 904 69 from by rw [eU2]; exact Xi_ne (by omega)).trans ((show Xi T1 904 69 = Xi S 904 69 from w22.x _ _ rfl)))))
  have w50 : 0 ≤ Xi S 904 69 ∧ Xi S 904 69 ≤ 2600 := hH.c _ _
  have w51 : Xi T5 904 94 = Xi S 904 94 := (show Xi T5 904 94 = Xi U4 904 94 from w41.x _ _ rfl).trans ( (show Xi U4 904 94 = Xi U3 904 94 from by rw [eU4]; exact Xi_ne (by omega)).trans ( (show Xi U3 904 94 = Xi U2 904 94 from by rw [eU3]; exact Xi_ne (by omega)).trans ( (show Xi U2 904 94 = Xi T1 904 94 from by rw [eU2]; exact Xi_ne (by omega)).trans ((show Xi T1 904 94 = Xi S 904 94 from w22.x _ _ rfl)))))
  have w52 : 0 ≤ Xi S 904 94 ∧ Xi S 904 94 ≤ 1700 := hH.c _ _
  exact ⟨hHT5, hFT5, rfl, (by first | assumption | exact (by assumption : LXM T5)), (by first | assumption | exact (by assumption : LCN T5)), (g49), (D49), (C49), (by omega), (by omega), (by have t := n49; omega)⟩
def md_mo_phraseMeant : List rec := [(904, 905, 64, 65), (904, 905, 104, 105), (904, 905, 105, 106), (904, 905, 106, 107), (904, 905, 113, 114), (904, 905, 128, 129), (904, 905, 129, 130), (904, 905, 154, 155), (904, 905, 156, 157), (904, 905, 157, 158), (904, 905, 158, 159), (904, 905, 160, 161), (969, 970, 0, 100000), (970, 971, 0, 100000), (971, 972, 0, 100000), (972, 973, 0, 100000), (973, 974, 0, 100000), (974, 975, 0, 100000), (975, 976, 0, 100000), (976, 977, 0, 100000), (977, 978, 0, 100000), (993, 994, 0, 100000), (994, 995, 0, 100000)]
abbrev Q_mo_phraseMeant (S : sS) (n : Nat) (i : Int) (q : Int) (p : Int) : pst := fun r S1 => HI S1 ∧ FR md_mo_phraseMeant S S1 ∧ (r = none ∧ (Xi S 904 106 ≠ 0 → Xi S1 904 106 ≠ 0) ∧ (Xi S1 904 106 = 0 → PQ S1 (0 ≤ Xi S 904 116) p.toNat) ∧ (KQ S1 S q) ∧ (KH S1 S p) ∧ (Xi S1 977 (p).toNat = q))
set_option maxRecDepth 100000 in
set_option maxHeartbeats 16000000 in
theorem t_mo_phraseMeant {S : sS} (hH : HI S) (n : Nat) (i : Int) (q : Int) (p : Int) (hi : 0 ≤ i ∧ i ≤ 1699) (hq : 0 ≤ q ∧ q ≤ 2399) (hp : 0 ≤ p ∧ p ≤ 1999) (hT : TK S n) (hv : RNV S n) (hM : LXM S) (hB : ABV S) (hC : DCM S) (hK : TXK S n) (hX : TXM S) (hit : Xi S 904 115 = -1) (hpv : PV S n i.toNat) (h64 : Xi S 964 i.toNat ≤ 1699) (d : Nat) : Mt lay0 (d + 8) m_mo_phraseMeant [.ref 904, iv i, iv q, iv p] S (Q_mo_phraseMeant S n i q p) := by
  refine Mt_R rfl rfl ?_
  have hF : FR md_mo_phraseMeant S S := FR.rf
  have w1 : 0 ≤ Xi S 904 106 ∧ Xi S 904 106 ≤ 9 := hH.c _ _
  have w2 : -1 ≤ Xi S 904 115 ∧ Xi S 904 115 ≤ 15 := hH.c _ _
  have w3 : -1 ≤ Xi S 904 116 ∧ Xi S 904 116 ≤ 15 := hH.c _ _
  have w4 : 0 ≤ Xi S 904 128 ∧ Xi S 904 128 ≤ 11 := hH.c _ _
  have w5 : -1 ≤ Xi S 904 129 ∧ Xi S 904 129 ≤ 23 := hH.c _ _
  have w6 : 0 ≤ Xi S 904 19 ∧ Xi S 904 19 ≤ 24 := hH.c _ _
  have w7 : 0 ≤ Xi S 904 49 ∧ Xi S 904 49 ≤ 12 := hH.c _ _
  have w8 : 0 ≤ Xi S 904 69 ∧ Xi S 904 69 ≤ 2600 := hH.c _ _
  have hn5 := hT.1
  have hc69 : 0 ≤ Xi S 904 69 ∧ Xi S 904 69 ≤ 2600 := hH.c _ _
  have hc19 : 0 ≤ Xi S 904 19 ∧ Xi S 904 19 ≤ 24 := hH.c _ _
  have hc32 : 0 ≤ Xi S 904 32 ∧ Xi S 904 32 ≤ 12 := hH.c _ _
  have hc49 : 0 ≤ Xi S 904 49 ∧ Xi S 904 49 ≤ 12 := hH.c _ _
  have h963 : 0 ≤ Xi S 963 (i).toNat ∧ Xi S 963 (i).toNat ≤ 6 := hH.c 963 _
  have h964 : 0 ≤ Xi S 964 (i).toNat := (hH.c 964 (i).toNat).1
  have hp : PVt S n (Xi S 963 (i).toNat) (Xi S 964 (i).toNat).toNat := hpv
  have hrf : ∀ r : Int, 0 ≤ r → r < Xi S 904 69 → Xi S 950 r.toNat + Xi S 951 r.toNat ≤ n ∧ 1 ≤ Xi S 951 r.toNat := fun r a b => hv r.toNat (by omega)
  have h956 : 0 ≤ Xi S 956 (Xi S 964 (i).toNat).toNat := (hH.c 956 _).1
  have C210 : ∀  (T1 : sS) (_ : HI T1) (_ : FR md_mo_phraseMeant S T1) (v4 : Int), (0 ≤ v4 ∧ v4 ≤ 1699) → (KQ T1 S q) → (KH T1 S p) → (Xi T1 976 (p).toNat = 2) → (Xi T1 977 (p).toNat = q) → (Xi S 904 106 ≠ 0 → Xi T1 904 106 ≠ 0) → (Xi T1 904 69 = Xi S 904 69) → (Xi T1 904 115 = -1) → (v4 = Xi S 964 (i).toNat) → (Xi S 963 (i).toNat = 2) → (Xi T1 904 106 = 0 → thK S False (0 ≤ Xi S 904 116) (Xi T1 971 (q).toNat)) → Rl lay0 (d + 7) m_mo_phraseMeant 210 [(0, .ref 904), (2, iv q), (4, iv v4)] [] T1 (Q_mo_phraseMeant S n i q p) := by
    intro T1 hHT1 hFT1 v4 w9 K210 P210 w10 w11 w12 w13 w14 w15 w16 H210
    have w17 : Xi T1 904 115 = Xi S 904 115 := hFT1.x _ _ rfl
    have w18 : Xi T1 904 116 = Xi S 904 116 := hFT1.x _ _ rfl
    have w19 : Xi T1 904 19 = Xi S 904 19 := hFT1.x _ _ rfl
    have w20 : Xi T1 904 32 = Xi S 904 32 := hFT1.x _ _ rfl
    have w21 : Xi T1 904 49 = Xi S 904 49 := hFT1.x _ _ rfl
    have w22 : Xi T1 904 69 = Xi S 904 69 := hFT1.x _ _ rfl
    have w23 : 0 ≤ Xi T1 904 106 ∧ Xi T1 904 106 ≤ 9 := hHT1.c _ _
    have w24 : -1 ≤ Xi T1 904 115 ∧ Xi T1 904 115 ≤ 15 := hHT1.c _ _
    have w25 : 0 ≤ Xi T1 904 69 ∧ Xi T1 904 69 ≤ 2600 := hHT1.c _ _
    refine l_aload_n rfl rfl ?_
    refine l_gfr rfl rfl rfl rfl rfl (hHT1.r 904 124 975 rfl) ?_
    refine l_iload_n rfl rfl ?_
    refine l_aload_n rfl rfl ?_
    refine l_aload_n rfl rfl ?_
    refine l_gfr rfl rfl rfl rfl rfl (hHT1.r 904 89 959 rfl) ?_
    refine l_iload rfl rfl ?_
    refine l_iaload (n := 1700) rfl rfl (by omega) (by omega) (by unfold rg; omega) ?_
    have w26 : 0 ≤ (Xi T1 959 ((v4).toNat)) ∧ (Xi T1 959 ((v4).toNat)) ≤ 25010 := hHT1.c _ _
    have e222 : (Xi T1 959 ((v4).toNat)) = Xi S 959 (Xi S 964 (i).toNat).toNat := by first | rfl | exact (hFT1.cx 959 rfl _).1 | exact (hFT1.cx 959 rfl _).1 | exact (hFT1.cx 959 rfl _).1 | (rw [(hFT1.cx 959 rfl _).1]; exact congrArg (fun t : Int => Xi S 959 t.toNat) (by omega)) | (rw [(hFT1.cx 959 rfl _).1]; exact congrArg (fun t : Int => Xi S 959 t.toNat) (by omega)) | (rw [(hFT1.cx 959 rfl _).1]; exact congrArg (fun t : Int => Xi S 959 t.toNat) (by omega))
    refine l_aload_n rfl rfl ?_
    refine l_gfr rfl rfl rfl rfl rfl (hHT1.r 904 90 960 rfl) ?_
    refine l_iload rfl rfl ?_
    refine l_iaload (n := 1700) rfl rfl (by omega) (by omega) (by unfold rg; omega) ?_
    have w27 : -1 ≤ (Xi T1 960 ((v4).toNat)) ∧ (Xi T1 960 ((v4).toNat)) ≤ 2600 := hHT1.c _ _
    have e229 : (Xi T1 960 ((v4).toNat)) = Xi S 960 (Xi S 964 (i).toNat).toNat := by first | rfl | exact (hFT1.cx 960 rfl _).1 | exact (hFT1.cx 960 rfl _).1 | exact (hFT1.cx 960 rfl _).1 | (rw [(hFT1.cx 960 rfl _).1]; exact congrArg (fun t : Int => Xi S 960 t.toNat) (by omega)) | (rw [(hFT1.cx 960 rfl _).1]; exact congrArg (fun t : Int => Xi S 960 t.toNat) (by omega)) | (rw [(hFT1.cx 960 rfl _).1]; exact congrArg (fun t : Int => Xi S 960 t.toNat) (by omega))
    have q229 := q_thv (hp.2.2.2.1 (by omega)) e222 e229 (hFT1.x 904 69 rfl) hn5
    have w28 : 0 ≤ Xi T1 904 106 ∧ Xi T1 904 106 ≤ 9 := hHT1.c _ _
    have w29 : -1 ≤ Xi T1 904 115 ∧ Xi T1 904 115 ≤ 15 := hHT1.c _ _
    have w30 : 0 ≤ Xi T1 904 128 ∧ Xi T1 904 128 ≤ 11 := hHT1.c _ _
    have w31 : -1 ≤ Xi T1 904 129 ∧ Xi T1 904 129 ≤ 23 := hHT1.c _ _
    have w32 : 0 ≤ Xi T1 904 19 ∧ Xi T1 904 19 ≤ 24 := hHT1.c _ _
    have w33 : 0 ≤ Xi T1 904 69 ∧ Xi T1 904 69 ≤ 2600 := hHT1.c _ _
    refine l_callV rfl rfl rfl (t_mo_meant hHT1 n (Xi T1 959 ((v4).toNat)) (Xi T1 960 ((v4).toNat)) ⟨by omega, by omega⟩ ⟨by omega, by omega⟩ (by first | assumption | exact (TK_FR hFT1 rfl (by assumption : TK S _))) (by first | assumption | exact (RNV_FR hFT1 rfl (by assumption : RNV S _))) (by first | exact q436.1 | exact q276.1 | exact q229.1 | exact q155.1) (by first | exact q436.2 | exact q276.2 | exact q229.2 | exact q155.2) (by first | assumption | exact (LXM_FR hFT1 rfl (by assumption : LXM S))) _) ?_
    rintro _ T2 ⟨hHT2, w37, z36, rfl, w36, p230, i230, j230, w34, w35⟩
    have hFT2 : FR md_mo_phraseMeant S T2 := FR.tr hFT1 w37 rfl
    show Rl _ _ _ _ _ [iv z36, iv q, .ref 975] _ _
    have th230 : z36 ≠ -9 → thK S False (0 ≤ Xi S 904 116) z36 := fun x => by unfold thK; have a := hFT1.x 904 19 rfl; have b := hFT2.x 904 115 rfl; have c := hFT2.x 904 116 rfl; omega
    have m230 : z36 ≠ -9 → -2 ≤ z36 := by omega
    clear p230 i230 j230
    refine l_iastore (n := 2400) rfl rfl (by omega) (by omega) (by unfold rg; omega) ?_
    obtain ⟨U3, eU3⟩ : ∃ T : sS, T = uI T2 975 ((q).toNat) (Int32.ofInt z36) := ⟨_, rfl⟩
    rw [← eU3]
    have hHU3 : HI U3 := by rw [eU3]; exact HI_w hHT2 (show -9 ≤ z36 by omega) (show z36 ≤ 23 by omega)
    have hFU3 : FR md_mo_phraseMeant S U3 := by rw [eU3]; exact FR.wI hFT2 (mdf_i (r := (975, 976, 0, 100000)) (List.mem_of_getElem? (i := 18) rfl) (inR_i (by omega) (by omega) (by omega) (by omega)))
    have w38 : Xi U3 975 ((q).toNat) = z36 := by rw [eU3]; exact Xi_same (by unfold rg; omega)
    refine l_goto rfl rfl ?_
    refine l_return rfl rfl ?_
    have w39 : Xi U3 970 (q).toNat = Xi T1 970 (q).toNat := (show Xi U3 970 (q).toNat = Xi T2 970 (q).toNat from by rw [eU3]; exact Xi_ne (by omega)).trans ((show Xi T2 970 (q).toNat = Xi T1 970 (q).toNat from (w37.cx 970 rfl _).1))
    have w40 : Xi U3 971 (q).toNat = Xi T1 971 (q).toNat := (show Xi U3 971 (q).toNat = Xi T2 971 (q).toNat from by rw [eU3]; exact Xi_ne (by omega)).trans ((show Xi T2 971 (q).toNat = Xi T1 971 (q).toNat from (w37.cx 971 rfl _).1))
    have w41 : Xi U3 972 (q).toNat = Xi T1 972 (q).toNat := (show Xi U3 972 (q).toNat = Xi T2 972 (q).toNat from by rw [eU3]; exact Xi_ne (by omega)).trans ((show Xi T2 972 (q).toNat = Xi T1 972 (q).toNat from (w37.cx 972 rfl _).1))
    have w42 : Xi U3 973 (q).toNat = Xi T1 973 (q).toNat := (show Xi U3 973 (q).toNat = Xi T2 973 (q).toNat from by rw [eU3]; exact Xi_ne (by omega)).trans ((show Xi T2 973 (q).toNat = Xi T1 973 (q).toNat from (w37.cx 973 rfl _).1))
    have w43 : Xi U3 974 (q).toNat = Xi T1 974 (q).toNat := (show Xi U3 974 (q).toNat = Xi T2 974 (q).toNat from by rw [eU3]; exact Xi_ne (by omega)).trans ((show Xi T2 974 (q).toNat = Xi T1 974 (q).toNat from (w37.cx 974 rfl _).1))
    have w44 : Xi U3 976 (p).toNat = Xi T1 976 (p).toNat := (show Xi U3 976 (p).toNat = Xi T2 976 (p).toNat from by rw [eU3]; exact Xi_ne (by omega)).trans ((show Xi T2 976 (p).toNat = Xi T1 976 (p).toNat from (w37.cx 976 rfl _).1))
    have w45 : Xi U3 977 (p).toNat = Xi T1 977 (p).toNat := (show Xi U3 977 (p).toNat = Xi T2 977 (p).toNat from by rw [eU3]; exact Xi_ne (by omega)).trans ((show Xi T2 977 (p).toNat = Xi T1 977 (p).toNat from (w37.cx 977 rfl _).1))
    have w46 : Xi U3 904 106 = Xi T2 904 106 := (show Xi U3 904 106 = Xi T2 904 106 from by rw [eU3]; exact Xi_ne (by omega))
    have w47 : 0 ≤ Xi T2 904 106 ∧ Xi T2 904 106 ≤ 9 := hHT2.c _ _
    have w48 : Xi U3 904 115 = Xi T1 904 115 := (show Xi U3 904 115 = Xi T2 904 115 from by rw [eU3]; exact Xi_ne (by omega)).trans ((show Xi T2 904 115 = Xi T1 904 115 from w37.x _ _ rfl))
    have w49 : -1 ≤ Xi T1 904 115 ∧ Xi T1 904 115 ≤ 15 := hHT1.c _ _
    have w50 : Xi U3 904 128 = Xi T1 904 128 := (show Xi U3 904 128 = Xi T2 904 128 from by rw [eU3]; exact Xi_ne (by omega)).trans ((show Xi T2 904 128 = Xi T1 904 128 from w37.x _ _ rfl))
    have w51 : 0 ≤ Xi T1 904 128 ∧ Xi T1 904 128 ≤ 11 := hHT1.c _ _
    have w52 : Xi U3 904 129 = Xi T1 904 129 := (show Xi U3 904 129 = Xi T2 904 129 from by rw [eU3]; exact Xi_ne (by omega)).trans ((show Xi T2 904 129 = Xi T1 904 129 from w37.x _ _ rfl))
    have w53 : -1 ≤ Xi T1 904 129 ∧ Xi T1 904 129 ≤ 23 := hHT1.c _ _
    have w54 : Xi U3 904 69 = Xi T1 904 69 := (show Xi U3 904 69 = Xi T2 904 69 from by rw [eU3]; exact Xi_ne (by omega)).trans ((show Xi T2 904 69 = Xi T1 904 69 from w37.x _ _ rfl))
    have w55 : 0 ≤ Xi T1 904 69 ∧ Xi T1 904 69 ≤ 2600 := hHT1.c _ _
    exact ⟨hHU3, hFU3, rfl, (by omega), (by first | exact (fun _ q => pq_i (q := (q).toNat) (w := 0) (pqt_0 (by omega)) (by omega) (by omega) (by omega)) o42 | exact (fun _ q => pq_i (q := (q).toNat) (w := 1) (pqt_1 ⟨(t120 (by omega)).mono (fun y => absurd y (by omega)) (fun y => by omega), (n120 (by omega) rfl).1, (n120 (by omega) rfl).2⟩) (by omega) (by omega) (by omega)) t120 | exact (fun _ q => pq_i (q := (q).toNat) (w := 2) (pqt_2 (thk_c (H210 (by omega)) (hFU3.x 904 19 rfl) (by omega)) (thk_c (th230 (by omega)) (hFU3.x 904 19 rfl) (by omega))) (by omega) (by omega) (by omega)) th230 | exact (fun _ q => pq_i (q := (q).toNat) (w := Xi U3 976 (p).toNat) (pqt_3 (by omega) (thk_c (th277 (by omega)) (hFU3.x 904 19 rfl) (by omega)) (by have a := hFU3.x 904 32 rfl; omega) (by rw [(hFU3.cx 928 rfl _).1, show Xi U3 972 (q).toNat = rnR S (Xi S 956 (Xi S 964 (i).toNat).toNat) 7 from by have t := p300 (by omega); omega]; have t := n312 (by omega); omega)) (by omega) (by omega) (by omega)) th277 | exact (fun _ q => pq_i (q := (q).toNat) (w := 5) (pqt_5 (by have a := hFU3.x 904 49 rfl; have t := (Z537 (by omega)).1; omega) (fun y => (by by_cases c : Xi S 953 (Xi S 964 (i).toNat).toNat = 0; exact Or.inl (by have t := (Z537 (by omega)).2.1 c (by omega); have a := hFU3.x 904 19 rfl; omega); exact thk_c (Y537 (by omega) c) (hFU3.x 904 19 rfl) (by omega))) (fun y => by rw [(hFU3.cx 942 rfl _).1, show Xi U3 972 (q).toNat = Xi T1 972 (q).toNat by omega]; exact (Z537 (by omega)).2.2 (by omega) (by omega))) (by omega) (by omega) (by omega)) Z537 | exact fun x => pq_i (q := (q).toNat) (w := 6) pqt_6 (by omega) (by omega) (by omega) | exact fun x => absurd x (by omega)), ((KQ.w (KQ_FR w37 rfl (by assumption : KQ T1 S _)) eU3 (by omega))), ((KH_FR (FR_e eU3) rfl (KH_FR w37 rfl (by assumption : KH T1 _ _)))), (by omega)⟩
  have C257 : ∀  (T4 : sS) (_ : HI T4) (_ : FR md_mo_phraseMeant S T4) (v4 : Int), (0 ≤ v4 ∧ v4 ≤ 1700) → (KQ T4 S q) → (KH T4 S p) → (Xi T4 976 (p).toNat = Xi S 963 (i).toNat) → (Xi T4 977 (p).toNat = q) → (Xi S 904 106 ≠ 0 → Xi T4 904 106 ≠ 0) → (Xi T4 904 69 = Xi S 904 69) → (Xi T4 904 115 = -1) → (v4 = Xi S 964 (i).toNat) → (3 ≤ Xi S 963 (i).toNat ∧ Xi S 963 (i).toNat ≤ 4) → Rl lay0 (d + 7) m_mo_phraseMeant 257 [(0, .ref 904), (2, iv q), (4, iv v4)] [] T4 (Q_mo_phraseMeant S n i q p) := by
    intro T4 hHT4 hFT4 v4 w56 K257 P257 w57 w58 w59 w60 w61 w62 w63
    have w64 : Xi T4 904 115 = Xi S 904 115 := hFT4.x _ _ rfl
    have w65 : Xi T4 904 116 = Xi S 904 116 := hFT4.x _ _ rfl
    have w66 : Xi T4 904 19 = Xi S 904 19 := hFT4.x _ _ rfl
    have w67 : Xi T4 904 32 = Xi S 904 32 := hFT4.x _ _ rfl
    have w68 : Xi T4 904 49 = Xi S 904 49 := hFT4.x _ _ rfl
    have w69 : Xi T4 904 69 = Xi S 904 69 := hFT4.x _ _ rfl
    have w70 : 0 ≤ Xi T4 904 106 ∧ Xi T4 904 106 ≤ 9 := hHT4.c _ _
    have w71 : -1 ≤ Xi T4 904 115 ∧ Xi T4 904 115 ≤ 15 := hHT4.c _ _
    have w72 : 0 ≤ Xi T4 904 69 ∧ Xi T4 904 69 ≤ 2600 := hHT4.c _ _
    refine l_aload_n rfl rfl ?_
    refine l_gfr rfl rfl rfl rfl rfl (hHT4.r 904 120 971 rfl) ?_
    refine l_iload_n rfl rfl ?_
    refine l_aload_n rfl rfl ?_
    refine l_aload_n rfl rfl ?_
    refine l_gfr rfl rfl rfl rfl rfl (hHT4.r 904 84 954 rfl) ?_
    refine l_iload rfl rfl ?_
    refine l_iaload (n := 1700) rfl rfl (by omega) (by omega) (by unfold rg; omega) ?_
    have w73 : 0 ≤ (Xi T4 954 ((v4).toNat)) ∧ (Xi T4 954 ((v4).toNat)) ≤ 25010 := hHT4.c _ _
    have e269 : (Xi T4 954 ((v4).toNat)) = Xi S 954 (Xi S 964 (i).toNat).toNat := by first | rfl | exact (hFT4.cx 954 rfl _).1 | exact (hFT4.cx 954 rfl _).1 | exact (hFT4.cx 954 rfl _).1 | (rw [(hFT4.cx 954 rfl _).1]; exact congrArg (fun t : Int => Xi S 954 t.toNat) (by omega)) | (rw [(hFT4.cx 954 rfl _).1]; exact congrArg (fun t : Int => Xi S 954 t.toNat) (by omega)) | (rw [(hFT4.cx 954 rfl _).1]; exact congrArg (fun t : Int => Xi S 954 t.toNat) (by omega))
    refine l_aload_n rfl rfl ?_
    refine l_gfr rfl rfl rfl rfl rfl (hHT4.r 904 85 955 rfl) ?_
    refine l_iload rfl rfl ?_
    refine l_iaload (n := 1700) rfl rfl (by omega) (by omega) (by unfold rg; omega) ?_
    have w74 : 0 ≤ (Xi T4 955 ((v4).toNat)) ∧ (Xi T4 955 ((v4).toNat)) ≤ 2600 := hHT4.c _ _
    have e276 : (Xi T4 955 ((v4).toNat)) = Xi S 955 (Xi S 964 (i).toNat).toNat := by first | rfl | exact (hFT4.cx 955 rfl _).1 | exact (hFT4.cx 955 rfl _).1 | exact (hFT4.cx 955 rfl _).1 | (rw [(hFT4.cx 955 rfl _).1]; exact congrArg (fun t : Int => Xi S 955 t.toNat) (by omega)) | (rw [(hFT4.cx 955 rfl _).1]; exact congrArg (fun t : Int => Xi S 955 t.toNat) (by omega)) | (rw [(hFT4.cx 955 rfl _).1]; exact congrArg (fun t : Int => Xi S 955 t.toNat) (by omega))
    have q276 := q_thv (hp.2.2.1 (by omega)) e269 e276 (hFT4.x 904 69 rfl) hn5
    have w75 : 0 ≤ Xi T4 904 106 ∧ Xi T4 904 106 ≤ 9 := hHT4.c _ _
    have w76 : -1 ≤ Xi T4 904 115 ∧ Xi T4 904 115 ≤ 15 := hHT4.c _ _
    have w77 : 0 ≤ Xi T4 904 128 ∧ Xi T4 904 128 ≤ 11 := hHT4.c _ _
    have w78 : -1 ≤ Xi T4 904 129 ∧ Xi T4 904 129 ≤ 23 := hHT4.c _ _
    have w79 : 0 ≤ Xi T4 904 19 ∧ Xi T4 904 19 ≤ 24 := hHT4.c _ _
    have w80 : 0 ≤ Xi T4 904 69 ∧ Xi T4 904 69 ≤ 2600 := hHT4.c _ _
    refine l_callV rfl rfl rfl (t_mo_meant hHT4 n (Xi T4 954 ((v4).toNat)) (Xi T4 955 ((v4).toNat)) ⟨by omega, by omega⟩ ⟨by omega, by omega⟩ (by first | assumption | exact (TK_FR hFT4 rfl (by assumption : TK S _))) (by first | assumption | exact (RNV_FR hFT4 rfl (by assumption : RNV S _))) (by first | exact q436.1 | exact q276.1 | exact q229.1 | exact q155.1) (by first | exact q436.2 | exact q276.2 | exact q229.2 | exact q155.2) (by first | assumption | exact (LXM_FR hFT4 rfl (by assumption : LXM S))) _) ?_
    rintro _ T5 ⟨hHT5, w84, z83, rfl, w83, p277, i277, j277, w81, w82⟩
    have hFT5 : FR md_mo_phraseMeant S T5 := FR.tr hFT4 w84 rfl
    show Rl _ _ _ _ _ [iv z83, iv q, .ref 971] _ _
    have th277 : z83 ≠ -9 → thK S False (0 ≤ Xi S 904 116) z83 := fun x => by unfold thK; have a := hFT4.x 904 19 rfl; have b := hFT5.x 904 115 rfl; have c := hFT5.x 904 116 rfl; omega
    have m277 : z83 ≠ -9 → -2 ≤ z83 := by omega
    clear p277 i277 j277
    refine l_iastore (n := 2400) rfl rfl (by omega) (by omega) (by unfold rg; omega) ?_
    obtain ⟨U6, eU6⟩ : ∃ T : sS, T = uI T5 971 ((q).toNat) (Int32.ofInt z83) := ⟨_, rfl⟩
    rw [← eU6]
    have hHU6 : HI U6 := by rw [eU6]; exact HI_w hHT5 (show -9 ≤ z83 by omega) (show z83 ≤ 23 by omega)
    have hFU6 : FR md_mo_phraseMeant S U6 := by rw [eU6]; exact FR.wI hFT5 (mdf_i (r := (971, 972, 0, 100000)) (List.mem_of_getElem? (i := 14) rfl) (inR_i (by omega) (by omega) (by omega) (by omega)))
    have w85 : Xi U6 971 ((q).toNat) = z83 := by rw [eU6]; exact Xi_same (by unfold rg; omega)
    refine l_aload_n rfl rfl ?_
    refine l_gfr rfl rfl rfl rfl rfl (hHU6.r 904 121 972 rfl) ?_
    refine l_iload_n rfl rfl ?_
    refine l_aload_n rfl rfl ?_
    refine l_aload_n rfl rfl ?_
    refine l_gfr rfl rfl rfl rfl rfl (hHU6.r 904 86 956 rfl) ?_
    refine l_iload rfl rfl ?_
    refine l_iaload (n := 1700) rfl rfl (by omega) (by omega) (by unfold rg; omega) ?_
    have w86 : 0 ≤ (Xi U6 956 ((v4).toNat)) ∧ (Xi U6 956 ((v4).toNat)) ≤ 2600 := hHU6.c _ _
    have e293 : (Xi U6 956 ((v4).toNat)) = Xi S 956 (Xi S 964 (i).toNat).toNat := by first | rfl | exact (hFU6.cx 956 rfl _).1 | exact (hFT5.cx 956 rfl _).1 | exact (hFT4.cx 956 rfl _).1 | (rw [(hFU6.cx 956 rfl _).1]; exact congrArg (fun t : Int => Xi S 956 t.toNat) (by omega)) | (rw [(hFT5.cx 956 rfl _).1]; exact congrArg (fun t : Int => Xi S 956 t.toNat) (by omega)) | (rw [(hFT4.cx 956 rfl _).1]; exact congrArg (fun t : Int => Xi S 956 t.toNat) (by omega))
    have r293 := hp.2.2.2.2.1 (by omega)
    refine l_aload_n rfl rfl ?_
    refine l_gfr rfl rfl rfl rfl rfl (hHU6.r 904 120 971 rfl) ?_
    refine l_iload_n rfl rfl ?_
    refine l_iaload (n := 2400) rfl rfl (by omega) (by omega) (by unfold rg; omega) ?_
    have w87 : Xi U6 904 106 = Xi T5 904 106 := (show Xi U6 904 106 = Xi T5 904 106 from by rw [eU6]; exact Xi_ne (by omega))
    have w88 : 0 ≤ Xi T5 904 106 ∧ Xi T5 904 106 ≤ 9 := hHT5.c _ _
    have w89 : Xi U6 904 115 = Xi T4 904 115 := (show Xi U6 904 115 = Xi T5 904 115 from by rw [eU6]; exact Xi_ne (by omega)).trans ((show Xi T5 904 115 = Xi T4 904 115 from w84.x _ _ rfl))
    have w90 : -1 ≤ Xi T4 904 115 ∧ Xi T4 904 115 ≤ 15 := hHT4.c _ _
    have w91 : Xi U6 904 128 = Xi T4 904 128 := (show Xi U6 904 128 = Xi T5 904 128 from by rw [eU6]; exact Xi_ne (by omega)).trans ((show Xi T5 904 128 = Xi T4 904 128 from w84.x _ _ rfl))
    have w92 : 0 ≤ Xi T4 904 128 ∧ Xi T4 904 128 ≤ 11 := hHT4.c _ _
    have w93 : Xi U6 904 129 = Xi T4 904 129 := (show Xi U6 904 129 = Xi T5 904 129 from by rw [eU6]; exact Xi_ne (by omega)).trans ((show Xi T5 904 129 = Xi T4 904 129 from w84.x _ _ rfl))
    have w94 : -1 ≤ Xi T4 904 129 ∧ Xi T4 904 129 ≤ 23 := hHT4.c _ _
    have w95 : Xi U6 904 32 = Xi T4 904 32 := (show Xi U6 904 32 = Xi T5 904 32 from by rw [eU6]; exact Xi_ne (by omega)).trans ((show Xi T5 904 32 = Xi T4 904 32 from w84.x _ _ rfl))
    have w96 : 0 ≤ Xi T4 904 32 ∧ Xi T4 904 32 ≤ 12 := hHT4.c _ _
    have w97 : Xi U6 904 69 = Xi T4 904 69 := (show Xi U6 904 69 = Xi T5 904 69 from by rw [eU6]; exact Xi_ne (by omega)).trans ((show Xi T5 904 69 = Xi T4 904 69 from w84.x _ _ rfl))
    have w98 : 0 ≤ Xi T4 904 69 ∧ Xi T4 904 69 ≤ 2600 := hHT4.c _ _
    refine l_callV rfl rfl rfl (t_mo_propertyMeant__2 hHU6 n (Xi U6 956 ((v4).toNat)) (Xi U6 971 ((q).toNat)) ⟨by omega, by omega⟩ ⟨by omega, by omega⟩ (by first | assumption | exact (TK_FR hFU6 rfl (by assumption : TK S _))) (by first | assumption | exact (RNV_FR hFU6 rfl (by assumption : RNV S _))) (by first | assumption | omega) (by first | assumption | exact (LXM_FR hFU6 rfl (by assumption : LXM S))) (by first | assumption | exact (ABV_FR hFU6 rfl (by assumption : ABV S))) (by first | assumption | omega) _) ?_
    rintro _ T7 ⟨hHT7, w104, z103, rfl, w103, w99, w100, w101, w102, g300⟩
    have hFT7 : FR md_mo_phraseMeant S T7 := FR.tr hFU6 w104 rfl
    show Rl _ _ _ _ _ [iv z103, iv q, .ref 972] _ _
    have p300 : z103 ≠ -1 → z103 = rnR S (Xi S 956 (Xi S 964 (i).toNat).toNat) 7 := fun x => by rw [g300 x, rnR_FR hFU6 rfl rfl, e293]
    refine l_iastore (n := 2400) rfl rfl (by omega) (by omega) (by unfold rg; omega) ?_
    obtain ⟨U8, eU8⟩ : ∃ T : sS, T = uI T7 972 ((q).toNat) (Int32.ofInt z103) := ⟨_, rfl⟩
    rw [← eU8]
    have hHU8 : HI U8 := by rw [eU8]; exact HI_w hHT7 (show -1 ≤ z103 by omega) (show z103 ≤ 11 by omega)
    have hFU8 : FR md_mo_phraseMeant S U8 := by rw [eU8]; exact FR.wI hFT7 (mdf_i (r := (972, 973, 0, 100000)) (List.mem_of_getElem? (i := 15) rfl) (inR_i (by omega) (by omega) (by omega) (by omega)))
    have w105 : Xi U8 972 ((q).toNat) = z103 := by rw [eU8]; exact Xi_same (by unfold rg; omega)
    refine l_aload_n rfl rfl ?_
    refine l_aload_n rfl rfl ?_
    refine l_gfr rfl rfl rfl rfl rfl (hHU8.r 904 86 956 rfl) ?_
    refine l_iload rfl rfl ?_
    refine l_iaload (n := 1700) rfl rfl (by omega) (by omega) (by unfold rg; omega) ?_
    have w106 : (Xi U8 956 ((v4).toNat)) = (Xi U6 956 ((v4).toNat)) := (show Xi U8 956 ((v4).toNat) = Xi T7 956 ((v4).toNat) from by rw [eU8]; exact Xi_ne (by omega)).trans ((show Xi T7 956 ((v4).toNat) = Xi U6 956 ((v4).toNat) from w104.x _ _ rfl))
    rw [w106]
    have e311 : (Xi U6 956 ((v4).toNat)) = Xi S 956 (Xi S 964 (i).toNat).toNat := by first | rfl | exact (hFU8.cx 956 rfl _).1 | exact (hFT7.cx 956 rfl _).1 | exact (hFT4.cx 956 rfl _).1 | (rw [(hFU8.cx 956 rfl _).1]; exact congrArg (fun t : Int => Xi S 956 t.toNat) (by omega)) | (rw [(hFT7.cx 956 rfl _).1]; exact congrArg (fun t : Int => Xi S 956 t.toNat) (by omega)) | (rw [(hFT4.cx 956 rfl _).1]; exact congrArg (fun t : Int => Xi S 956 t.toNat) (by omega))
    have w107 : Xi U8 904 106 = Xi T7 904 106 := (show Xi U8 904 106 = Xi T7 904 106 from by rw [eU8]; exact Xi_ne (by omega))
    have w108 : 0 ≤ Xi T7 904 106 ∧ Xi T7 904 106 ≤ 9 := hHT7.c _ _
    have w109 : Xi U8 904 115 = Xi T4 904 115 := (show Xi U8 904 115 = Xi T7 904 115 from by rw [eU8]; exact Xi_ne (by omega)).trans ( (show Xi T7 904 115 = Xi U6 904 115 from w104.x _ _ rfl).trans ( (show Xi U6 904 115 = Xi T5 904 115 from by rw [eU6]; exact Xi_ne (by omega)).trans ((show Xi T5 904 115 = Xi T4 904 115 from w84.x _ _ rfl))))
    have w110 : -1 ≤ Xi T4 904 115 ∧ Xi T4 904 115 ≤ 15 := hHT4.c _ _
    have w111 : Xi U8 904 128 = Xi T4 904 128 := (show Xi U8 904 128 = Xi T7 904 128 from by rw [eU8]; exact Xi_ne (by omega)).trans ( (show Xi T7 904 128 = Xi U6 904 128 from w104.x _ _ rfl).trans ( (show Xi U6 904 128 = Xi T5 904 128 from by rw [eU6]; exact Xi_ne (by omega)).trans ((show Xi T5 904 128 = Xi T4 904 128 from w84.x _ _ rfl))))
    have w112 : 0 ≤ Xi T4 904 128 ∧ Xi T4 904 128 ≤ 11 := hHT4.c _ _
    have w113 : Xi U8 904 129 = Xi T4 904 129 := (show Xi U8 904 129 = Xi T7 904 129 from by rw [eU8]; exact Xi_ne (by omega)).trans ( (show Xi T7 904 129 = Xi U6 904 129 from w104.x _ _ rfl).trans ( (show Xi U6 904 129 = Xi T5 904 129 from by rw [eU6]; exact Xi_ne (by omega)).trans ((show Xi T5 904 129 = Xi T4 904 129 from w84.x _ _ rfl))))
    have w114 : -1 ≤ Xi T4 904 129 ∧ Xi T4 904 129 ≤ 23 := hHT4.c _ _
    have w115 : Xi U8 904 69 = Xi T4 904 69 := (show Xi U8 904 69 = Xi T7 904 69 from by rw [eU8]; exact Xi_ne (by omega)).trans ( (show Xi T7 904 69 = Xi U6 904 69 from w104.x _ _ rfl).trans ( (show Xi U6 904 69 = Xi T5 904 69 from by rw [eU6]; exact Xi_ne (by omega)).trans ((show Xi T5 904 69 = Xi T4 904 69 from w84.x _ _ rfl))))
    have w116 : 0 ≤ Xi T4 904 69 ∧ Xi T4 904 69 ≤ 2600 := hHT4.c _ _
    refine l_callV rfl rfl rfl (t_mo_numberMeant__2 hHU8 n (Xi U6 956 ((v4).toNat)) ⟨by omega, by omega⟩ (by first | assumption | exact (TK_FR hFU8 rfl (by assumption : TK S _))) (by first | assumption | exact (RNV_FR hFU8 rfl (by assumption : RNV S _))) (by first | assumption | omega) (by first | assumption | exact (LXM_FR hFU8 rfl (by assumption : LXM S))) _) ?_
    rintro _ T9 ⟨hHT9, w119, rfl, w117, g312⟩
    have hFT9 : FR md_mo_phraseMeant S T9 := FR.tr hFU8 w119 rfl
    show Rl _ _ _ _ _ [] _ _
    have n312 : Xi T9 904 106 = 0 → rnR S (Xi S 956 (Xi S 964 (i).toNat).toNat) 7 = -1 ∨ Xi S 928 (rnR S (Xi S 956 (Xi S 964 (i).toNat).toNat) 7).toNat = 0 := fun x => by have t := g312 x; rw [rnR_FR hFU8 rfl rfl, e311, (hFU8.cx 928 rfl _).1] at t; exact t
    refine l_aload_n rfl rfl ?_
    refine l_gfr rfl rfl rfl rfl rfl (hHT9.r 904 122 973 rfl) ?_
    refine l_iload_n rfl rfl ?_
    refine l_aload_n rfl rfl ?_
    refine l_gfr rfl rfl rfl rfl rfl (hHT9.r 904 7 910 rfl) ?_
    refine l_aload_n rfl rfl ?_
    refine l_gfr rfl rfl rfl rfl rfl (hHT9.r 904 87 957 rfl) ?_
    refine l_iload rfl rfl ?_
    refine l_iaload (n := 1700) rfl rfl (by omega) (by omega) (by unfold rg; omega) ?_
    have w120 : 0 ≤ (Xi T9 957 ((v4).toNat)) ∧ (Xi T9 957 ((v4).toNat)) ≤ 5010 := hHT9.c _ _
    have e330 : (Xi T9 957 ((v4).toNat)) = Xi S 957 (Xi S 964 (i).toNat).toNat := by first | rfl | exact (hFT9.cx 957 rfl _).1 | exact (hFU8.cx 957 rfl _).1 | exact (hFT4.cx 957 rfl _).1 | (rw [(hFT9.cx 957 rfl _).1]; exact congrArg (fun t : Int => Xi S 957 t.toNat) (by omega)) | (rw [(hFU8.cx 957 rfl _).1]; exact congrArg (fun t : Int => Xi S 957 t.toNat) (by omega)) | (rw [(hFT4.cx 957 rfl _).1]; exact congrArg (fun t : Int => Xi S 957 t.toNat) (by omega))
    have b330 := hp.2.2.2.2.2.1 (by omega)
    refine l_laload (n := 5002) rfl rfl (by omega) (by omega) (by unfold rg; omega) ?_
    have w121 : -9223372036854775808 ≤ (Xj T9 910 (((Xi T9 957 ((v4).toNat))).toNat)) ∧ (Xj T9 910 (((Xi T9 957 ((v4).toNat))).toNat)) < 9223372036854775808 := Xj_rg
    refine l_l2iA rfl (fun c122 w122 => ?_)
    refine l_iastore (n := 2400) rfl rfl (by omega) (by omega) (by unfold rg; omega) ?_
    obtain ⟨U10, eU10⟩ : ∃ T : sS, T = uI T9 973 ((q).toNat) (Int32.ofInt c122) := ⟨_, rfl⟩
    rw [← eU10]
    have hHU10 : HI U10 := by rw [eU10]; exact HI_any hHT9 (rfl)
    have hFU10 : FR md_mo_phraseMeant S U10 := by rw [eU10]; exact FR.wI hFT9 (mdf_i (r := (973, 974, 0, 100000)) (List.mem_of_getElem? (i := 16) rfl) (inR_i (by omega) (by omega) (by omega) (by omega)))
    have w123 : Xi U10 973 ((q).toNat) = c122 := by rw [eU10]; exact Xi_same (by unfold rg; omega)
    refine l_goto rfl rfl ?_
    refine l_return rfl rfl ?_
    have w124 : Xi U10 970 (q).toNat = Xi T4 970 (q).toNat := (show Xi U10 970 (q).toNat = Xi T9 970 (q).toNat from by rw [eU10]; exact Xi_ne (by omega)).trans ( (show Xi T9 970 (q).toNat = Xi U8 970 (q).toNat from (w119.cx 970 rfl _).1).trans ( (show Xi U8 970 (q).toNat = Xi T7 970 (q).toNat from by rw [eU8]; exact Xi_ne (by omega)).trans ( (show Xi T7 970 (q).toNat = Xi U6 970 (q).toNat from (w104.cx 970 rfl _).1).trans ( (show Xi U6 970 (q).toNat = Xi T5 970 (q).toNat from by rw [eU6]; exact Xi_ne (by omega)).trans ((show Xi T5 970 (q).toNat = Xi T4 970 (q).toNat from (w84.cx 970 rfl _).1))))))
    have w125 : Xi U10 971 (q).toNat = Xi U6 971 (q).toNat := (show Xi U10 971 (q).toNat = Xi T9 971 (q).toNat from by rw [eU10]; exact Xi_ne (by omega)).trans ( (show Xi T9 971 (q).toNat = Xi U8 971 (q).toNat from (w119.cx 971 rfl _).1).trans ( (show Xi U8 971 (q).toNat = Xi T7 971 (q).toNat from by rw [eU8]; exact Xi_ne (by omega)).trans ((show Xi T7 971 (q).toNat = Xi U6 971 (q).toNat from (w104.cx 971 rfl _).1))))
    have w126 : Xi U10 972 (q).toNat = Xi U8 972 (q).toNat := (show Xi U10 972 (q).toNat = Xi T9 972 (q).toNat from by rw [eU10]; exact Xi_ne (by omega)).trans ((show Xi T9 972 (q).toNat = Xi U8 972 (q).toNat from (w119.cx 972 rfl _).1))
    have w127 : Xi U10 974 (q).toNat = Xi T4 974 (q).toNat := (show Xi U10 974 (q).toNat = Xi T9 974 (q).toNat from by rw [eU10]; exact Xi_ne (by omega)).trans ( (show Xi T9 974 (q).toNat = Xi U8 974 (q).toNat from (w119.cx 974 rfl _).1).trans ( (show Xi U8 974 (q).toNat = Xi T7 974 (q).toNat from by rw [eU8]; exact Xi_ne (by omega)).trans ( (show Xi T7 974 (q).toNat = Xi U6 974 (q).toNat from (w104.cx 974 rfl _).1).trans ( (show Xi U6 974 (q).toNat = Xi T5 974 (q).toNat from by rw [eU6]; exact Xi_ne (by omega)).trans ((show Xi T5 974 (q).toNat = Xi T4 974 (q).toNat from (w84.cx 974 rfl _).1))))))
    have w128 : Xi U10 975 (q).toNat = Xi T4 975 (q).toNat := (show Xi U10 975 (q).toNat = Xi T9 975 (q).toNat from by rw [eU10]; exact Xi_ne (by omega)).trans ( (show Xi T9 975 (q).toNat = Xi U8 975 (q).toNat from (w119.cx 975 rfl _).1).trans ( (show Xi U8 975 (q).toNat = Xi T7 975 (q).toNat from by rw [eU8]; exact Xi_ne (by omega)).trans ( (show Xi T7 975 (q).toNat = Xi U6 975 (q).toNat from (w104.cx 975 rfl _).1).trans ( (show Xi U6 975 (q).toNat = Xi T5 975 (q).toNat from by rw [eU6]; exact Xi_ne (by omega)).trans ((show Xi T5 975 (q).toNat = Xi T4 975 (q).toNat from (w84.cx 975 rfl _).1))))))
    have w129 : Xi U10 976 (p).toNat = Xi T4 976 (p).toNat := (show Xi U10 976 (p).toNat = Xi T9 976 (p).toNat from by rw [eU10]; exact Xi_ne (by omega)).trans ( (show Xi T9 976 (p).toNat = Xi U8 976 (p).toNat from (w119.cx 976 rfl _).1).trans ( (show Xi U8 976 (p).toNat = Xi T7 976 (p).toNat from by rw [eU8]; exact Xi_ne (by omega)).trans ( (show Xi T7 976 (p).toNat = Xi U6 976 (p).toNat from (w104.cx 976 rfl _).1).trans ( (show Xi U6 976 (p).toNat = Xi T5 976 (p).toNat from by rw [eU6]; exact Xi_ne (by omega)).trans ((show Xi T5 976 (p).toNat = Xi T4 976 (p).toNat from (w84.cx 976 rfl _).1))))))
    have w130 : Xi U10 977 (p).toNat = Xi T4 977 (p).toNat := (show Xi U10 977 (p).toNat = Xi T9 977 (p).toNat from by rw [eU10]; exact Xi_ne (by omega)).trans ( (show Xi T9 977 (p).toNat = Xi U8 977 (p).toNat from (w119.cx 977 rfl _).1).trans ( (show Xi U8 977 (p).toNat = Xi T7 977 (p).toNat from by rw [eU8]; exact Xi_ne (by omega)).trans ( (show Xi T7 977 (p).toNat = Xi U6 977 (p).toNat from (w104.cx 977 rfl _).1).trans ( (show Xi U6 977 (p).toNat = Xi T5 977 (p).toNat from by rw [eU6]; exact Xi_ne (by omega)).trans ((show Xi T5 977 (p).toNat = Xi T4 977 (p).toNat from (w84.cx 977 rfl _).1))))))
    have w131 : Xi U10 904 106 = Xi T9 904 106 := (show Xi U10 904 106 = Xi T9 904 106 from by rw [eU10]; exact Xi_ne (by omega))
    have w132 : 0 ≤ Xi T9 904 106 ∧ Xi T9 904 106 ≤ 9 := hHT9.c _ _
    have w133 : Xi U10 904 115 = Xi T4 904 115 := (show Xi U10 904 115 = Xi T9 904 115 from by rw [eU10]; exact Xi_ne (by omega)).trans ( (show Xi T9 904 115 = Xi U8 904 115 from w119.x _ _ rfl).trans ( (show Xi U8 904 115 = Xi T7 904 115 from by rw [eU8]; exact Xi_ne (by omega)).trans ( (show Xi T7 904 115 = Xi U6 904 115 from w104.x _ _ rfl).trans ( (show Xi U6 904 115 = Xi T5 904 115 from by rw [eU6]; exact Xi_ne (by omega)).trans ((show Xi T5 904 115 = Xi T4 904 115 from w84.x _ _ rfl))))))
    have w134 : -1 ≤ Xi T4 904 115 ∧ Xi T4 904 115 ≤ 15 := hHT4.c _ _
    have w135 : Xi U10 904 128 = Xi T4 904 128 := (show Xi U10 904 128 = Xi T9 904 128 from by rw [eU10]; exact Xi_ne (by omega)).trans ( (show Xi T9 904 128 = Xi U8 904 128 from w119.x _ _ rfl).trans ( (show Xi U8 904 128 = Xi T7 904 128 from by rw [eU8]; exact Xi_ne (by omega)).trans ( (show Xi T7 904 128 = Xi U6 904 128 from w104.x _ _ rfl).trans ( (show Xi U6 904 128 = Xi T5 904 128 from by rw [eU6]; exact Xi_ne (by omega)).trans ((show Xi T5 904 128 = Xi T4 904 128 from w84.x _ _ rfl))))))
    have w136 : 0 ≤ Xi T4 904 128 ∧ Xi T4 904 128 ≤ 11 := hHT4.c _ _
    have w137 : Xi U10 904 129 = Xi T4 904 129 := (show Xi U10 904 129 = Xi T9 904 129 from by rw [eU10]; exact Xi_ne (by omega)).trans ( (show Xi T9 904 129 = Xi U8 904 129 from w119.x _ _ rfl).trans ( (show Xi U8 904 129 = Xi T7 904 129 from by rw [eU8]; exact Xi_ne (by omega)).trans ( (show Xi T7 904 129 = Xi U6 904 129 from w104.x _ _ rfl).trans ( (show Xi U6 904 129 = Xi T5 904 129 from by rw [eU6]; exact Xi_ne (by omega)).trans ((show Xi T5 904 129 = Xi T4 904 129 from w84.x _ _ rfl))))))
    have w138 : -1 ≤ Xi T4 904 129 ∧ Xi T4 904 129 ≤ 23 := hHT4.c _ _
    have w139 : Xi U10 904 69 = Xi T4 904 69 := (show Xi U10 904 69 = Xi T9 904 69 from by rw [eU10]; exact Xi_ne (by omega)).trans ( (show Xi T9 904 69 = Xi U8 904 69 from w119.x _ _ rfl).trans ( (show Xi U8 904 69 = Xi T7 904 69 from by rw [eU8]; exact Xi_ne (by omega)).trans ( (show Xi T7 904 69 = Xi U6 904 69 from w104.x _ _ rfl).trans ( (show Xi U6 904 69 = Xi T5 904 69 from by rw [eU6]; exact Xi_ne (by omega)).trans ((show Xi T5 904 69 = Xi T4 904 69 from w84.x _ _ rfl))))))
    have w140 : 0 ≤ Xi T4 904 69 ∧ Xi T4 904 69 ≤ 2600 := hHT4.c _ _
    exact ⟨hHU10, hFU10, rfl, (by omega), (by first | exact (fun _ q => pq_i (q := (q).toNat) (w := 0) (pqt_0 (by omega)) (by omega) (by omega) (by omega)) o42 | exact (fun _ q => pq_i (q := (q).toNat) (w := 1) (pqt_1 ⟨(t120 (by omega)).mono (fun y => absurd y (by omega)) (fun y => by omega), (n120 (by omega) rfl).1, (n120 (by omega) rfl).2⟩) (by omega) (by omega) (by omega)) t120 | exact (fun _ q => pq_i (q := (q).toNat) (w := 2) (pqt_2 (thk_c (H210 (by omega)) (hFU10.x 904 19 rfl) (by omega)) (thk_c (th230 (by omega)) (hFU10.x 904 19 rfl) (by omega))) (by omega) (by omega) (by omega)) th230 | exact (fun _ q => pq_i (q := (q).toNat) (w := Xi U10 976 (p).toNat) (pqt_3 (by omega) (thk_c (th277 (by omega)) (hFU10.x 904 19 rfl) (by omega)) (by have a := hFU10.x 904 32 rfl; omega) (by rw [(hFU10.cx 928 rfl _).1, show Xi U10 972 (q).toNat = rnR S (Xi S 956 (Xi S 964 (i).toNat).toNat) 7 from by have t := p300 (by omega); omega]; have t := n312 (by omega); omega)) (by omega) (by omega) (by omega)) th277 | exact (fun _ q => pq_i (q := (q).toNat) (w := 5) (pqt_5 (by have a := hFU10.x 904 49 rfl; have t := (Z537 (by omega)).1; omega) (fun y => (by by_cases c : Xi S 953 (Xi S 964 (i).toNat).toNat = 0; exact Or.inl (by have t := (Z537 (by omega)).2.1 c (by omega); have a := hFU10.x 904 19 rfl; omega); exact thk_c (Y537 (by omega) c) (hFU10.x 904 19 rfl) (by omega))) (fun y => by rw [(hFU10.cx 942 rfl _).1, show Xi U10 972 (q).toNat = Xi T4 972 (q).toNat by omega]; exact (Z537 (by omega)).2.2 (by omega) (by omega))) (by omega) (by omega) (by omega)) Z537 | exact fun x => pq_i (q := (q).toNat) (w := 6) pqt_6 (by omega) (by omega) (by omega) | exact fun x => absurd x (by omega)), ((KQ.w (KQ_FR w119 rfl (KQ.w (KQ_FR w104 rfl (KQ.w (KQ_FR w84 rfl (by assumption : KQ T4 S _)) eU6 (by omega))) eU8 (by omega))) eU10 (by omega))), ((KH_FR (FR_e eU10) rfl (KH_FR w119 rfl (KH_FR (FR_e eU8) rfl (KH_FR w104 rfl (KH_FR (FR_e eU6) rfl (KH_FR w84 rfl (by assumption : KH T4 _ _)))))))), (by omega)⟩
  have C537 : ∀  (T11 : sS) (_ : HI T11) (_ : FR md_mo_phraseMeant S T11) (v4 : Int), (0 ≤ v4 ∧ v4 ≤ 1699) → (KQ T11 S q) → (KH T11 S p) → (Xi T11 976 (p).toNat = 5) → (Xi T11 977 (p).toNat = q) → (Xi S 904 106 ≠ 0 → Xi T11 904 106 ≠ 0) → (Xi T11 904 69 = Xi S 904 69) → (Xi T11 904 115 = -1) → (v4 = Xi S 964 (i).toNat) → (Xi T11 904 106 = 0 → (0 ≤ Xi T11 972 (q).toNat ∧ Xi T11 972 (q).toNat < Xi S 904 49) ∧ (Xi S 953 (Xi S 964 (i).toNat).toNat = 0 → Xi T11 971 (q).toNat ≠ -1 → 0 ≤ Xi T11 971 (q).toNat ∧ Xi T11 971 (q).toNat < Xi S 904 19) ∧ (Xi S 953 (Xi S 964 (i).toNat).toNat = 0 → Xi T11 971 (q).toNat = -1 → Xi S 942 (Xi T11 972 (q).toNat).toNat < 0)) → (Xi T11 904 106 = 0 → Xi S 953 (Xi S 964 (i).toNat).toNat ≠ 0 → thK S False (0 ≤ Xi S 904 116) (Xi T11 971 (q).toNat)) → Rl lay0 (d + 7) m_mo_phraseMeant 537 [(0, .ref 904), (2, iv q), (4, iv v4)] [] T11 (Q_mo_phraseMeant S n i q p) := by
    intro T11 hHT11 hFT11 v4 w141 K537 P537 w142 w143 w144 w145 w146 w147 Z537 Y537
    have w148 : Xi T11 904 115 = Xi S 904 115 := hFT11.x _ _ rfl
    have w149 : Xi T11 904 116 = Xi S 904 116 := hFT11.x _ _ rfl
    have w150 : Xi T11 904 19 = Xi S 904 19 := hFT11.x _ _ rfl
    have w151 : Xi T11 904 32 = Xi S 904 32 := hFT11.x _ _ rfl
    have w152 : Xi T11 904 49 = Xi S 904 49 := hFT11.x _ _ rfl
    have w153 : Xi T11 904 69 = Xi S 904 69 := hFT11.x _ _ rfl
    have w154 : 0 ≤ Xi T11 904 106 ∧ Xi T11 904 106 ≤ 9 := hHT11.c _ _
    have w155 : -1 ≤ Xi T11 904 115 ∧ Xi T11 904 115 ≤ 15 := hHT11.c _ _
    have w156 : 0 ≤ Xi T11 904 69 ∧ Xi T11 904 69 ≤ 2600 := hHT11.c _ _
    refine l_aload_n rfl rfl ?_
    refine l_gfr rfl rfl rfl rfl rfl (hHT11.r 904 119 970 rfl) ?_
    refine l_iload_n rfl rfl ?_
    refine l_aload_n rfl rfl ?_
    refine l_gfr rfl rfl rfl rfl rfl (hHT11.r 904 120 971 rfl) ?_
    refine l_iload_n rfl rfl ?_
    refine l_iaload (n := 2400) rfl rfl (by omega) (by omega) (by unfold rg; omega) ?_
    have w157 : -9 ≤ (Xi T11 971 ((q).toNat)) ∧ (Xi T11 971 ((q).toNat)) ≤ 23 := hHT11.c _ _
    refine l_iconst rfl ?_
    refine l_icmp_ne rfl rfl (by unfold rg; omega) (by unfold rg; omega) (fun w158 => ?_) (fun w159 => ?_)
    · refine l_iconst rfl ?_
      refine l_bastoreZ1 (n := 2400) rfl rfl (by omega) (by omega) (by unfold rg; omega) ⟨by omega, by omega⟩ ?_
      obtain ⟨U12, eU12⟩ : ∃ T : sS, T = uI T11 970 ((q).toNat) (Int32.ofInt 0) := ⟨_, rfl⟩
      rw [← eU12]
      have hHU12 : HI U12 := by rw [eU12]; exact HI_w hHT11 (show 0 ≤ 0 by omega) (show 0 ≤ 1 by omega)
      have hFU12 : FR md_mo_phraseMeant S U12 := by rw [eU12]; exact FR.wI hFT11 (mdf_i (r := (970, 971, 0, 100000)) (List.mem_of_getElem? (i := 13) rfl) (inR_i (by omega) (by omega) (by omega) (by omega)))
      have w160 : Xi U12 970 ((q).toNat) = 0 := by rw [eU12]; exact Xi_same (by unfold rg; omega)
      refine l_return rfl rfl ?_
      have w161 : Xi U12 971 (q).toNat = Xi T11 971 (q).toNat := (show Xi U12 971 (q).toNat = Xi T11 971 (q).toNat from by rw [eU12]; exact Xi_ne (by omega))
      have w162 : Xi U12 972 (q).toNat = Xi T11 972 (q).toNat := (show Xi U12 972 (q).toNat = Xi T11 972 (q).toNat from by rw [eU12]; exact Xi_ne (by omega))
      have w163 : Xi U12 973 (q).toNat = Xi T11 973 (q).toNat := (show Xi U12 973 (q).toNat = Xi T11 973 (q).toNat from by rw [eU12]; exact Xi_ne (by omega))
      have w164 : Xi U12 974 (q).toNat = Xi T11 974 (q).toNat := (show Xi U12 974 (q).toNat = Xi T11 974 (q).toNat from by rw [eU12]; exact Xi_ne (by omega))
      have w165 : Xi U12 975 (q).toNat = Xi T11 975 (q).toNat := (show Xi U12 975 (q).toNat = Xi T11 975 (q).toNat from by rw [eU12]; exact Xi_ne (by omega))
      have w166 : Xi U12 976 (p).toNat = Xi T11 976 (p).toNat := (show Xi U12 976 (p).toNat = Xi T11 976 (p).toNat from by rw [eU12]; exact Xi_ne (by omega))
      have w167 : Xi U12 977 (p).toNat = Xi T11 977 (p).toNat := (show Xi U12 977 (p).toNat = Xi T11 977 (p).toNat from by rw [eU12]; exact Xi_ne (by omega))
      have w168 : Xi U12 904 106 = Xi T11 904 106 := (show Xi U12 904 106 = Xi T11 904 106 from by rw [eU12]; exact Xi_ne (by omega))
      have w169 : 0 ≤ Xi T11 904 106 ∧ Xi T11 904 106 ≤ 9 := hHT11.c _ _
      have w170 : Xi U12 904 115 = Xi T11 904 115 := (show Xi U12 904 115 = Xi T11 904 115 from by rw [eU12]; exact Xi_ne (by omega))
      have w171 : -1 ≤ Xi T11 904 115 ∧ Xi T11 904 115 ≤ 15 := hHT11.c _ _
      have w172 : Xi U12 904 128 = Xi T11 904 128 := (show Xi U12 904 128 = Xi T11 904 128 from by rw [eU12]; exact Xi_ne (by omega))
      have w173 : 0 ≤ Xi T11 904 128 ∧ Xi T11 904 128 ≤ 11 := hHT11.c _ _
      have w174 : Xi U12 904 129 = Xi T11 904 129 := (show Xi U12 904 129 = Xi T11 904 129 from by rw [eU12]; exact Xi_ne (by omega))
      have w175 : -1 ≤ Xi T11 904 129 ∧ Xi T11 904 129 ≤ 23 := hHT11.c _ _
      have w176 : Xi U12 904 69 = Xi T11 904 69 := (show Xi U12 904 69 = Xi T11 904 69 from by rw [eU12]; exact Xi_ne (by omega))
      have w177 : 0 ≤ Xi T11 904 69 ∧ Xi T11 904 69 ≤ 2600 := hHT11.c _ _
      exact ⟨hHU12, hFU12, rfl, (by omega), (by first | exact (fun _ q => pq_i (q := (q).toNat) (w := 0) (pqt_0 (by omega)) (by omega) (by omega) (by omega)) o42 | exact (fun _ q => pq_i (q := (q).toNat) (w := 1) (pqt_1 ⟨(t120 (by omega)).mono (fun y => absurd y (by omega)) (fun y => by omega), (n120 (by omega) rfl).1, (n120 (by omega) rfl).2⟩) (by omega) (by omega) (by omega)) t120 | exact (fun _ q => pq_i (q := (q).toNat) (w := 2) (pqt_2 (thk_c (H210 (by omega)) (hFU12.x 904 19 rfl) (by omega)) (thk_c (th230 (by omega)) (hFU12.x 904 19 rfl) (by omega))) (by omega) (by omega) (by omega)) th230 | exact (fun _ q => pq_i (q := (q).toNat) (w := Xi U12 976 (p).toNat) (pqt_3 (by omega) (thk_c (th277 (by omega)) (hFU12.x 904 19 rfl) (by omega)) (by have a := hFU12.x 904 32 rfl; omega) (by rw [(hFU12.cx 928 rfl _).1, show Xi U12 972 (q).toNat = rnR S (Xi S 956 (Xi S 964 (i).toNat).toNat) 7 from by have t := p300 (by omega); omega]; have t := n312 (by omega); omega)) (by omega) (by omega) (by omega)) th277 | exact (fun _ q => pq_i (q := (q).toNat) (w := 5) (pqt_5 (by have a := hFU12.x 904 49 rfl; have t := (Z537 (by omega)).1; omega) (fun y => (by by_cases c : Xi S 953 (Xi S 964 (i).toNat).toNat = 0; exact Or.inl (by have t := (Z537 (by omega)).2.1 c (by omega); have a := hFU12.x 904 19 rfl; omega); exact thk_c (Y537 (by omega) c) (hFU12.x 904 19 rfl) (by omega))) (fun y => by rw [(hFU12.cx 942 rfl _).1, show Xi U12 972 (q).toNat = Xi T11 972 (q).toNat by omega]; exact (Z537 (by omega)).2.2 (by omega) (by omega))) (by omega) (by omega) (by omega)) Z537 | exact fun x => pq_i (q := (q).toNat) (w := 6) pqt_6 (by omega) (by omega) (by omega) | exact fun x => absurd x (by omega)), ((KQ.w (by assumption : KQ T11 S _) eU12 (by omega))), ((KH_FR (FR_e eU12) rfl (by assumption : KH T11 _ _))), (by omega)⟩
    · refine l_aload_n rfl rfl ?_
      refine l_gfr rfl rfl rfl rfl rfl (hHT11.r 904 83 953 rfl) ?_
      refine l_iload rfl rfl ?_
      refine l_baload (n := 1700) rfl rfl rfl (by decide) (by omega) (by omega) (by unfold rg; omega) ?_
      have w178 : 0 ≤ (Xi T11 953 ((v4).toNat)) ∧ (Xi T11 953 ((v4).toNat)) ≤ 1 := hHT11.c _ _
      have e558 : (Xi T11 953 ((v4).toNat)) = Xi S 953 (Xi S 964 (i).toNat).toNat := by first | rfl | exact (hFT11.cx 953 rfl _).1 | exact (hFT11.cx 953 rfl _).1 | exact (hFT11.cx 953 rfl _).1 | (rw [(hFT11.cx 953 rfl _).1]; exact congrArg (fun t : Int => Xi S 953 t.toNat) (by omega)) | (rw [(hFT11.cx 953 rfl _).1]; exact congrArg (fun t : Int => Xi S 953 t.toNat) (by omega)) | (rw [(hFT11.cx 953 rfl _).1]; exact congrArg (fun t : Int => Xi S 953 t.toNat) (by omega))
      refine l_if_ne rfl rfl (by unfold rg; omega) (fun w179 => ?_) (fun w180 => ?_)
      · refine l_iconst rfl ?_
        refine l_bastoreZ1 (n := 2400) rfl rfl (by omega) (by omega) (by unfold rg; omega) ⟨by omega, by omega⟩ ?_
        obtain ⟨U13, eU13⟩ : ∃ T : sS, T = uI T11 970 ((q).toNat) (Int32.ofInt 0) := ⟨_, rfl⟩
        rw [← eU13]
        have hHU13 : HI U13 := by rw [eU13]; exact HI_w hHT11 (show 0 ≤ 0 by omega) (show 0 ≤ 1 by omega)
        have hFU13 : FR md_mo_phraseMeant S U13 := by rw [eU13]; exact FR.wI hFT11 (mdf_i (r := (970, 971, 0, 100000)) (List.mem_of_getElem? (i := 13) rfl) (inR_i (by omega) (by omega) (by omega) (by omega)))
        have w181 : Xi U13 970 ((q).toNat) = 0 := by rw [eU13]; exact Xi_same (by unfold rg; omega)
        refine l_return rfl rfl ?_
        have w182 : Xi U13 971 (q).toNat = Xi T11 971 (q).toNat := (show Xi U13 971 (q).toNat = Xi T11 971 (q).toNat from by rw [eU13]; exact Xi_ne (by omega))
        have w183 : Xi U13 972 (q).toNat = Xi T11 972 (q).toNat := (show Xi U13 972 (q).toNat = Xi T11 972 (q).toNat from by rw [eU13]; exact Xi_ne (by omega))
        have w184 : Xi U13 973 (q).toNat = Xi T11 973 (q).toNat := (show Xi U13 973 (q).toNat = Xi T11 973 (q).toNat from by rw [eU13]; exact Xi_ne (by omega))
        have w185 : Xi U13 974 (q).toNat = Xi T11 974 (q).toNat := (show Xi U13 974 (q).toNat = Xi T11 974 (q).toNat from by rw [eU13]; exact Xi_ne (by omega))
        have w186 : Xi U13 975 (q).toNat = Xi T11 975 (q).toNat := (show Xi U13 975 (q).toNat = Xi T11 975 (q).toNat from by rw [eU13]; exact Xi_ne (by omega))
        have w187 : Xi U13 976 (p).toNat = Xi T11 976 (p).toNat := (show Xi U13 976 (p).toNat = Xi T11 976 (p).toNat from by rw [eU13]; exact Xi_ne (by omega))
        have w188 : Xi U13 977 (p).toNat = Xi T11 977 (p).toNat := (show Xi U13 977 (p).toNat = Xi T11 977 (p).toNat from by rw [eU13]; exact Xi_ne (by omega))
        have w189 : Xi U13 904 106 = Xi T11 904 106 := (show Xi U13 904 106 = Xi T11 904 106 from by rw [eU13]; exact Xi_ne (by omega))
        have w190 : 0 ≤ Xi T11 904 106 ∧ Xi T11 904 106 ≤ 9 := hHT11.c _ _
        have w191 : Xi U13 904 115 = Xi T11 904 115 := (show Xi U13 904 115 = Xi T11 904 115 from by rw [eU13]; exact Xi_ne (by omega))
        have w192 : -1 ≤ Xi T11 904 115 ∧ Xi T11 904 115 ≤ 15 := hHT11.c _ _
        have w193 : Xi U13 904 128 = Xi T11 904 128 := (show Xi U13 904 128 = Xi T11 904 128 from by rw [eU13]; exact Xi_ne (by omega))
        have w194 : 0 ≤ Xi T11 904 128 ∧ Xi T11 904 128 ≤ 11 := hHT11.c _ _
        have w195 : Xi U13 904 129 = Xi T11 904 129 := (show Xi U13 904 129 = Xi T11 904 129 from by rw [eU13]; exact Xi_ne (by omega))
        have w196 : -1 ≤ Xi T11 904 129 ∧ Xi T11 904 129 ≤ 23 := hHT11.c _ _
        have w197 : Xi U13 904 69 = Xi T11 904 69 := (show Xi U13 904 69 = Xi T11 904 69 from by rw [eU13]; exact Xi_ne (by omega))
        have w198 : 0 ≤ Xi T11 904 69 ∧ Xi T11 904 69 ≤ 2600 := hHT11.c _ _
        exact ⟨hHU13, hFU13, rfl, (by omega), (by first | exact (fun _ q => pq_i (q := (q).toNat) (w := 0) (pqt_0 (by omega)) (by omega) (by omega) (by omega)) o42 | exact (fun _ q => pq_i (q := (q).toNat) (w := 1) (pqt_1 ⟨(t120 (by omega)).mono (fun y => absurd y (by omega)) (fun y => by omega), (n120 (by omega) rfl).1, (n120 (by omega) rfl).2⟩) (by omega) (by omega) (by omega)) t120 | exact (fun _ q => pq_i (q := (q).toNat) (w := 2) (pqt_2 (thk_c (H210 (by omega)) (hFU13.x 904 19 rfl) (by omega)) (thk_c (th230 (by omega)) (hFU13.x 904 19 rfl) (by omega))) (by omega) (by omega) (by omega)) th230 | exact (fun _ q => pq_i (q := (q).toNat) (w := Xi U13 976 (p).toNat) (pqt_3 (by omega) (thk_c (th277 (by omega)) (hFU13.x 904 19 rfl) (by omega)) (by have a := hFU13.x 904 32 rfl; omega) (by rw [(hFU13.cx 928 rfl _).1, show Xi U13 972 (q).toNat = rnR S (Xi S 956 (Xi S 964 (i).toNat).toNat) 7 from by have t := p300 (by omega); omega]; have t := n312 (by omega); omega)) (by omega) (by omega) (by omega)) th277 | exact (fun _ q => pq_i (q := (q).toNat) (w := 5) (pqt_5 (by have a := hFU13.x 904 49 rfl; have t := (Z537 (by omega)).1; omega) (fun y => (by by_cases c : Xi S 953 (Xi S 964 (i).toNat).toNat = 0; exact Or.inl (by have t := (Z537 (by omega)).2.1 c (by omega); have a := hFU13.x 904 19 rfl; omega); exact thk_c (Y537 (by omega) c) (hFU13.x 904 19 rfl) (by omega))) (fun y => by rw [(hFU13.cx 942 rfl _).1, show Xi U13 972 (q).toNat = Xi T11 972 (q).toNat by omega]; exact (Z537 (by omega)).2.2 (by omega) (by omega))) (by omega) (by omega) (by omega)) Z537 | exact fun x => pq_i (q := (q).toNat) (w := 6) pqt_6 (by omega) (by omega) (by omega) | exact fun x => absurd x (by omega)), ((KQ.w (by assumption : KQ T11 S _) eU13 (by omega))), ((KH_FR (FR_e eU13) rfl (by assumption : KH T11 _ _))), (by omega)⟩
      · refine l_iconst rfl ?_
        refine l_goto rfl rfl ?_
        refine l_bastoreZ1 (n := 2400) rfl rfl (by omega) (by omega) (by unfold rg; omega) ⟨by omega, by omega⟩ ?_
        obtain ⟨U14, eU14⟩ : ∃ T : sS, T = uI T11 970 ((q).toNat) (Int32.ofInt 1) := ⟨_, rfl⟩
        rw [← eU14]
        have hHU14 : HI U14 := by rw [eU14]; exact HI_w hHT11 (show 0 ≤ 1 by omega) (show 1 ≤ 1 by omega)
        have hFU14 : FR md_mo_phraseMeant S U14 := by rw [eU14]; exact FR.wI hFT11 (mdf_i (r := (970, 971, 0, 100000)) (List.mem_of_getElem? (i := 13) rfl) (inR_i (by omega) (by omega) (by omega) (by omega)))
        have w199 : Xi U14 970 ((q).toNat) = 1 := by rw [eU14]; exact Xi_same (by unfold rg; omega)
        refine l_return rfl rfl ?_
        have w200 : Xi U14 971 (q).toNat = Xi T11 971 (q).toNat := (show Xi U14 971 (q).toNat = Xi T11 971 (q).toNat from by rw [eU14]; exact Xi_ne (by omega))
        have w201 : Xi U14 972 (q).toNat = Xi T11 972 (q).toNat := (show Xi U14 972 (q).toNat = Xi T11 972 (q).toNat from by rw [eU14]; exact Xi_ne (by omega))
        have w202 : Xi U14 973 (q).toNat = Xi T11 973 (q).toNat := (show Xi U14 973 (q).toNat = Xi T11 973 (q).toNat from by rw [eU14]; exact Xi_ne (by omega))
        have w203 : Xi U14 974 (q).toNat = Xi T11 974 (q).toNat := (show Xi U14 974 (q).toNat = Xi T11 974 (q).toNat from by rw [eU14]; exact Xi_ne (by omega))
        have w204 : Xi U14 975 (q).toNat = Xi T11 975 (q).toNat := (show Xi U14 975 (q).toNat = Xi T11 975 (q).toNat from by rw [eU14]; exact Xi_ne (by omega))
        have w205 : Xi U14 976 (p).toNat = Xi T11 976 (p).toNat := (show Xi U14 976 (p).toNat = Xi T11 976 (p).toNat from by rw [eU14]; exact Xi_ne (by omega))
        have w206 : Xi U14 977 (p).toNat = Xi T11 977 (p).toNat := (show Xi U14 977 (p).toNat = Xi T11 977 (p).toNat from by rw [eU14]; exact Xi_ne (by omega))
        have w207 : Xi U14 904 106 = Xi T11 904 106 := (show Xi U14 904 106 = Xi T11 904 106 from by rw [eU14]; exact Xi_ne (by omega))
        have w208 : 0 ≤ Xi T11 904 106 ∧ Xi T11 904 106 ≤ 9 := hHT11.c _ _
        have w209 : Xi U14 904 115 = Xi T11 904 115 := (show Xi U14 904 115 = Xi T11 904 115 from by rw [eU14]; exact Xi_ne (by omega))
        have w210 : -1 ≤ Xi T11 904 115 ∧ Xi T11 904 115 ≤ 15 := hHT11.c _ _
        have w211 : Xi U14 904 128 = Xi T11 904 128 := (show Xi U14 904 128 = Xi T11 904 128 from by rw [eU14]; exact Xi_ne (by omega))
        have w212 : 0 ≤ Xi T11 904 128 ∧ Xi T11 904 128 ≤ 11 := hHT11.c _ _
        have w213 : Xi U14 904 129 = Xi T11 904 129 := (show Xi U14 904 129 = Xi T11 904 129 from by rw [eU14]; exact Xi_ne (by omega))
        have w214 : -1 ≤ Xi T11 904 129 ∧ Xi T11 904 129 ≤ 23 := hHT11.c _ _
        have w215 : Xi U14 904 69 = Xi T11 904 69 := (show Xi U14 904 69 = Xi T11 904 69 from by rw [eU14]; exact Xi_ne (by omega))
        have w216 : 0 ≤ Xi T11 904 69 ∧ Xi T11 904 69 ≤ 2600 := hHT11.c _ _
        exact ⟨hHU14, hFU14, rfl, (by omega), (by first | exact (fun _ q => pq_i (q := (q).toNat) (w := 0) (pqt_0 (by omega)) (by omega) (by omega) (by omega)) o42 | exact (fun _ q => pq_i (q := (q).toNat) (w := 1) (pqt_1 ⟨(t120 (by omega)).mono (fun y => absurd y (by omega)) (fun y => by omega), (n120 (by omega) rfl).1, (n120 (by omega) rfl).2⟩) (by omega) (by omega) (by omega)) t120 | exact (fun _ q => pq_i (q := (q).toNat) (w := 2) (pqt_2 (thk_c (H210 (by omega)) (hFU14.x 904 19 rfl) (by omega)) (thk_c (th230 (by omega)) (hFU14.x 904 19 rfl) (by omega))) (by omega) (by omega) (by omega)) th230 | exact (fun _ q => pq_i (q := (q).toNat) (w := Xi U14 976 (p).toNat) (pqt_3 (by omega) (thk_c (th277 (by omega)) (hFU14.x 904 19 rfl) (by omega)) (by have a := hFU14.x 904 32 rfl; omega) (by rw [(hFU14.cx 928 rfl _).1, show Xi U14 972 (q).toNat = rnR S (Xi S 956 (Xi S 964 (i).toNat).toNat) 7 from by have t := p300 (by omega); omega]; have t := n312 (by omega); omega)) (by omega) (by omega) (by omega)) th277 | exact (fun _ q => pq_i (q := (q).toNat) (w := 5) (pqt_5 (by have a := hFU14.x 904 49 rfl; have t := (Z537 (by omega)).1; omega) (fun y => (by by_cases c : Xi S 953 (Xi S 964 (i).toNat).toNat = 0; exact Or.inl (by have t := (Z537 (by omega)).2.1 c (by omega); have a := hFU14.x 904 19 rfl; omega); exact thk_c (Y537 (by omega) c) (hFU14.x 904 19 rfl) (by omega))) (fun y => by rw [(hFU14.cx 942 rfl _).1, show Xi U14 972 (q).toNat = Xi T11 972 (q).toNat by omega]; exact (Z537 (by omega)).2.2 (by omega) (by omega))) (by omega) (by omega) (by omega)) Z537 | exact fun x => pq_i (q := (q).toNat) (w := 6) pqt_6 (by omega) (by omega) (by omega) | exact fun x => absurd x (by omega)), ((KQ.w (by assumption : KQ T11 S _) eU14 (by omega))), ((KH_FR (FR_e eU14) rfl (by assumption : KH T11 _ _))), (by omega)⟩
  have C409 : ∀  (T15 : sS) (_ : HI T15) (_ : FR md_mo_phraseMeant S T15) (v4 : Int) (v6 : Int), (0 ≤ v4 ∧ v4 ≤ 1699) → (-1 ≤ v6 ∧ v6 ≤ 11) → (KQ T15 S q) → (KH T15 S p) → (Xi T15 976 (p).toNat = 5) → (Xi T15 977 (p).toNat = q) → (Xi S 904 106 ≠ 0 → Xi T15 904 106 ≠ 0) → (Xi T15 904 69 = Xi S 904 69) → (Xi T15 904 115 = -1) → (v4 = Xi S 964 (i).toNat) → (Xi S 963 (i).toNat = 5) → (Xi S 953 (Xi S 964 (i).toNat).toNat ≠ 0) → (v6 ≠ -1 → v6 < Xi S 904 49) → (Xi T15 904 106 = 0 → v6 ≠ -1) → Rl lay0 (d + 7) m_mo_phraseMeant 409 [(0, .ref 904), (2, iv q), (4, iv v4), (6, iv v6)] [] T15 (Q_mo_phraseMeant S n i q p) := by
    intro T15 hHT15 hFT15 v4 v6 w217 w218 K409 P409 w219 w220 w221 w222 w223 w224 w225 w226 w227 w228
    have w229 : Xi T15 904 115 = Xi S 904 115 := hFT15.x _ _ rfl
    have w230 : Xi T15 904 116 = Xi S 904 116 := hFT15.x _ _ rfl
    have w231 : Xi T15 904 19 = Xi S 904 19 := hFT15.x _ _ rfl
    have w232 : Xi T15 904 32 = Xi S 904 32 := hFT15.x _ _ rfl
    have w233 : Xi T15 904 49 = Xi S 904 49 := hFT15.x _ _ rfl
    have w234 : Xi T15 904 69 = Xi S 904 69 := hFT15.x _ _ rfl
    have w235 : 0 ≤ Xi T15 904 106 ∧ Xi T15 904 106 ≤ 9 := hHT15.c _ _
    have w236 : -1 ≤ Xi T15 904 115 ∧ Xi T15 904 115 ≤ 15 := hHT15.c _ _
    have w237 : 0 ≤ Xi T15 904 69 ∧ Xi T15 904 69 ≤ 2600 := hHT15.c _ _
    refine l_aload_n rfl rfl ?_
    refine l_gfr rfl rfl rfl rfl rfl (hHT15.r 904 121 972 rfl) ?_
    refine l_iload_n rfl rfl ?_
    refine l_iload rfl rfl ?_
    refine l_iastore (n := 2400) rfl rfl (by omega) (by omega) (by unfold rg; omega) ?_
    obtain ⟨U16, eU16⟩ : ∃ T : sS, T = uI T15 972 ((q).toNat) (Int32.ofInt v6) := ⟨_, rfl⟩
    rw [← eU16]
    have hHU16 : HI U16 := by rw [eU16]; exact HI_w hHT15 (show -1 ≤ v6 by omega) (show v6 ≤ 11 by omega)
    have hFU16 : FR md_mo_phraseMeant S U16 := by rw [eU16]; exact FR.wI hFT15 (mdf_i (r := (972, 973, 0, 100000)) (List.mem_of_getElem? (i := 15) rfl) (inR_i (by omega) (by omega) (by omega) (by omega)))
    have w238 : Xi U16 972 ((q).toNat) = v6 := by rw [eU16]; exact Xi_same (by unfold rg; omega)
    refine l_aload_n rfl rfl ?_
    refine l_gfr rfl rfl rfl rfl rfl (hHU16.r 904 120 971 rfl) ?_
    refine l_iload_n rfl rfl ?_
    refine l_aload_n rfl rfl ?_
    refine l_aload_n rfl rfl ?_
    refine l_gfr rfl rfl rfl rfl rfl (hHU16.r 904 84 954 rfl) ?_
    refine l_iload rfl rfl ?_
    refine l_iaload (n := 1700) rfl rfl (by omega) (by omega) (by unfold rg; omega) ?_
    have w239 : 0 ≤ (Xi U16 954 ((v4).toNat)) ∧ (Xi U16 954 ((v4).toNat)) ≤ 25010 := hHU16.c _ _
    have e429 : (Xi U16 954 ((v4).toNat)) = Xi S 954 (Xi S 964 (i).toNat).toNat := by first | rfl | exact (hFU16.cx 954 rfl _).1 | exact (hFT15.cx 954 rfl _).1 | exact (hFT15.cx 954 rfl _).1 | (rw [(hFU16.cx 954 rfl _).1]; exact congrArg (fun t : Int => Xi S 954 t.toNat) (by omega)) | (rw [(hFT15.cx 954 rfl _).1]; exact congrArg (fun t : Int => Xi S 954 t.toNat) (by omega)) | (rw [(hFT15.cx 954 rfl _).1]; exact congrArg (fun t : Int => Xi S 954 t.toNat) (by omega))
    refine l_aload_n rfl rfl ?_
    refine l_gfr rfl rfl rfl rfl rfl (hHU16.r 904 85 955 rfl) ?_
    refine l_iload rfl rfl ?_
    refine l_iaload (n := 1700) rfl rfl (by omega) (by omega) (by unfold rg; omega) ?_
    have w240 : 0 ≤ (Xi U16 955 ((v4).toNat)) ∧ (Xi U16 955 ((v4).toNat)) ≤ 2600 := hHU16.c _ _
    have e436 : (Xi U16 955 ((v4).toNat)) = Xi S 955 (Xi S 964 (i).toNat).toNat := by first | rfl | exact (hFU16.cx 955 rfl _).1 | exact (hFT15.cx 955 rfl _).1 | exact (hFT15.cx 955 rfl _).1 | (rw [(hFU16.cx 955 rfl _).1]; exact congrArg (fun t : Int => Xi S 955 t.toNat) (by omega)) | (rw [(hFT15.cx 955 rfl _).1]; exact congrArg (fun t : Int => Xi S 955 t.toNat) (by omega)) | (rw [(hFT15.cx 955 rfl _).1]; exact congrArg (fun t : Int => Xi S 955 t.toNat) (by omega))
    have q436 := q_thv (hp.2.2.2.2.2.2 (by omega) (by omega)) e429 e436 (hFU16.x 904 69 rfl) hn5
    have w241 : Xi U16 904 106 = Xi T15 904 106 := (show Xi U16 904 106 = Xi T15 904 106 from by rw [eU16]; exact Xi_ne (by omega))
    have w242 : 0 ≤ Xi T15 904 106 ∧ Xi T15 904 106 ≤ 9 := hHT15.c _ _
    have w243 : Xi U16 904 115 = Xi T15 904 115 := (show Xi U16 904 115 = Xi T15 904 115 from by rw [eU16]; exact Xi_ne (by omega))
    have w244 : -1 ≤ Xi T15 904 115 ∧ Xi T15 904 115 ≤ 15 := hHT15.c _ _
    have w245 : Xi U16 904 128 = Xi T15 904 128 := (show Xi U16 904 128 = Xi T15 904 128 from by rw [eU16]; exact Xi_ne (by omega))
    have w246 : 0 ≤ Xi T15 904 128 ∧ Xi T15 904 128 ≤ 11 := hHT15.c _ _
    have w247 : Xi U16 904 129 = Xi T15 904 129 := (show Xi U16 904 129 = Xi T15 904 129 from by rw [eU16]; exact Xi_ne (by omega))
    have w248 : -1 ≤ Xi T15 904 129 ∧ Xi T15 904 129 ≤ 23 := hHT15.c _ _
    have w249 : Xi U16 904 19 = Xi T15 904 19 := (show Xi U16 904 19 = Xi T15 904 19 from by rw [eU16]; exact Xi_ne (by omega))
    have w250 : 0 ≤ Xi T15 904 19 ∧ Xi T15 904 19 ≤ 24 := hHT15.c _ _
    have w251 : Xi U16 904 69 = Xi T15 904 69 := (show Xi U16 904 69 = Xi T15 904 69 from by rw [eU16]; exact Xi_ne (by omega))
    have w252 : 0 ≤ Xi T15 904 69 ∧ Xi T15 904 69 ≤ 2600 := hHT15.c _ _
    refine l_callV rfl rfl rfl (t_mo_meant hHU16 n (Xi U16 954 ((v4).toNat)) (Xi U16 955 ((v4).toNat)) ⟨by omega, by omega⟩ ⟨by omega, by omega⟩ (by first | assumption | exact (TK_FR hFU16 rfl (by assumption : TK S _))) (by first | assumption | exact (RNV_FR hFU16 rfl (by assumption : RNV S _))) (by first | exact q436.1 | exact q276.1 | exact q229.1 | exact q155.1) (by first | exact q436.2 | exact q276.2 | exact q229.2 | exact q155.2) (by first | assumption | exact (LXM_FR hFU16 rfl (by assumption : LXM S))) _) ?_
    rintro _ T17 ⟨hHT17, w256, z255, rfl, w255, p437, i437, j437, w253, w254⟩
    have hFT17 : FR md_mo_phraseMeant S T17 := FR.tr hFU16 w256 rfl
    show Rl _ _ _ _ _ [iv z255, iv q, .ref 971] _ _
    have th437 : z255 ≠ -9 → thK S False (0 ≤ Xi S 904 116) z255 := fun x => by unfold thK; have a := hFU16.x 904 19 rfl; have b := hFT17.x 904 115 rfl; have c := hFT17.x 904 116 rfl; omega
    have m437 : z255 ≠ -9 → -2 ≤ z255 := by omega
    clear p437 i437 j437
    refine l_iastore (n := 2400) rfl rfl (by omega) (by omega) (by unfold rg; omega) ?_
    obtain ⟨U18, eU18⟩ : ∃ T : sS, T = uI T17 971 ((q).toNat) (Int32.ofInt z255) := ⟨_, rfl⟩
    rw [← eU18]
    have hHU18 : HI U18 := by rw [eU18]; exact HI_w hHT17 (show -9 ≤ z255 by omega) (show z255 ≤ 23 by omega)
    have hFU18 : FR md_mo_phraseMeant S U18 := by rw [eU18]; exact FR.wI hFT17 (mdf_i (r := (971, 972, 0, 100000)) (List.mem_of_getElem? (i := 14) rfl) (inR_i (by omega) (by omega) (by omega) (by omega)))
    have w257 : Xi U18 971 ((q).toNat) = z255 := by rw [eU18]; exact Xi_same (by unfold rg; omega)
    refine l_goto rfl rfl ?_
    have w258 : Xi U18 970 (q).toNat = Xi T15 970 (q).toNat := (show Xi U18 970 (q).toNat = Xi T17 970 (q).toNat from by rw [eU18]; exact Xi_ne (by omega)).trans ( (show Xi T17 970 (q).toNat = Xi U16 970 (q).toNat from (w256.cx 970 rfl _).1).trans ((show Xi U16 970 (q).toNat = Xi T15 970 (q).toNat from by rw [eU16]; exact Xi_ne (by omega))))
    have w259 : Xi U18 972 (q).toNat = Xi U16 972 (q).toNat := (show Xi U18 972 (q).toNat = Xi T17 972 (q).toNat from by rw [eU18]; exact Xi_ne (by omega)).trans ((show Xi T17 972 (q).toNat = Xi U16 972 (q).toNat from (w256.cx 972 rfl _).1))
    have w260 : Xi U18 973 (q).toNat = Xi T15 973 (q).toNat := (show Xi U18 973 (q).toNat = Xi T17 973 (q).toNat from by rw [eU18]; exact Xi_ne (by omega)).trans ( (show Xi T17 973 (q).toNat = Xi U16 973 (q).toNat from (w256.cx 973 rfl _).1).trans ((show Xi U16 973 (q).toNat = Xi T15 973 (q).toNat from by rw [eU16]; exact Xi_ne (by omega))))
    have w261 : Xi U18 974 (q).toNat = Xi T15 974 (q).toNat := (show Xi U18 974 (q).toNat = Xi T17 974 (q).toNat from by rw [eU18]; exact Xi_ne (by omega)).trans ( (show Xi T17 974 (q).toNat = Xi U16 974 (q).toNat from (w256.cx 974 rfl _).1).trans ((show Xi U16 974 (q).toNat = Xi T15 974 (q).toNat from by rw [eU16]; exact Xi_ne (by omega))))
    have w262 : Xi U18 975 (q).toNat = Xi T15 975 (q).toNat := (show Xi U18 975 (q).toNat = Xi T17 975 (q).toNat from by rw [eU18]; exact Xi_ne (by omega)).trans ( (show Xi T17 975 (q).toNat = Xi U16 975 (q).toNat from (w256.cx 975 rfl _).1).trans ((show Xi U16 975 (q).toNat = Xi T15 975 (q).toNat from by rw [eU16]; exact Xi_ne (by omega))))
    have w263 : Xi U18 976 (p).toNat = Xi T15 976 (p).toNat := (show Xi U18 976 (p).toNat = Xi T17 976 (p).toNat from by rw [eU18]; exact Xi_ne (by omega)).trans ( (show Xi T17 976 (p).toNat = Xi U16 976 (p).toNat from (w256.cx 976 rfl _).1).trans ((show Xi U16 976 (p).toNat = Xi T15 976 (p).toNat from by rw [eU16]; exact Xi_ne (by omega))))
    have w264 : Xi U18 977 (p).toNat = Xi T15 977 (p).toNat := (show Xi U18 977 (p).toNat = Xi T17 977 (p).toNat from by rw [eU18]; exact Xi_ne (by omega)).trans ( (show Xi T17 977 (p).toNat = Xi U16 977 (p).toNat from (w256.cx 977 rfl _).1).trans ((show Xi U16 977 (p).toNat = Xi T15 977 (p).toNat from by rw [eU16]; exact Xi_ne (by omega))))
    have w265 : Xi U18 904 106 = Xi T17 904 106 := (show Xi U18 904 106 = Xi T17 904 106 from by rw [eU18]; exact Xi_ne (by omega))
    have w266 : 0 ≤ Xi T17 904 106 ∧ Xi T17 904 106 ≤ 9 := hHT17.c _ _
    have w267 : Xi U18 904 115 = Xi T15 904 115 := (show Xi U18 904 115 = Xi T17 904 115 from by rw [eU18]; exact Xi_ne (by omega)).trans ( (show Xi T17 904 115 = Xi U16 904 115 from w256.x _ _ rfl).trans ((show Xi U16 904 115 = Xi T15 904 115 from by rw [eU16]; exact Xi_ne (by omega))))
    have w268 : -1 ≤ Xi T15 904 115 ∧ Xi T15 904 115 ≤ 15 := hHT15.c _ _
    have w269 : Xi U18 904 128 = Xi T15 904 128 := (show Xi U18 904 128 = Xi T17 904 128 from by rw [eU18]; exact Xi_ne (by omega)).trans ( (show Xi T17 904 128 = Xi U16 904 128 from w256.x _ _ rfl).trans ((show Xi U16 904 128 = Xi T15 904 128 from by rw [eU16]; exact Xi_ne (by omega))))
    have w270 : 0 ≤ Xi T15 904 128 ∧ Xi T15 904 128 ≤ 11 := hHT15.c _ _
    have w271 : Xi U18 904 129 = Xi T15 904 129 := (show Xi U18 904 129 = Xi T17 904 129 from by rw [eU18]; exact Xi_ne (by omega)).trans ( (show Xi T17 904 129 = Xi U16 904 129 from w256.x _ _ rfl).trans ((show Xi U16 904 129 = Xi T15 904 129 from by rw [eU16]; exact Xi_ne (by omega))))
    have w272 : -1 ≤ Xi T15 904 129 ∧ Xi T15 904 129 ≤ 23 := hHT15.c _ _
    have w273 : Xi U18 904 69 = Xi T15 904 69 := (show Xi U18 904 69 = Xi T17 904 69 from by rw [eU18]; exact Xi_ne (by omega)).trans ( (show Xi T17 904 69 = Xi U16 904 69 from w256.x _ _ rfl).trans ((show Xi U16 904 69 = Xi T15 904 69 from by rw [eU16]; exact Xi_ne (by omega))))
    have w274 : 0 ≤ Xi T15 904 69 ∧ Xi T15 904 69 ≤ 2600 := hHT15.c _ _
    exact Rl_weak (C537 U18 hHU18 hFU18 (v4) (by omega) ((KQ.w (KQ_FR w256 rfl (KQ.w (by assumption : KQ T15 S _) eU16 (by omega))) eU18 (by omega))) ((KH_FR (FR_e eU18) rfl (KH_FR w256 rfl (KH_FR (FR_e eU16) rfl (by assumption : KH T15 _ _))))) (by omega) (by omega) (by omega) (by omega) (by omega) (by omega) (by first | exact (fun _ q => ⟨by omega, fun y => absurd y (by omega), fun y => absurd y (by omega)⟩) q436 | exact (fun _ q => (by have t := A499 (by omega); refine ⟨by omega, fun _ y => by omega, fun _ y => ?_⟩; rw [show Xi U18 972 (q).toNat = _ from (by assumption)]; exact t.2.2 (by omega))) A499) (by first | exact (fun _ q => fun _ => (by rw [show Xi U18 971 (q).toNat = _ from (by assumption)]; exact th437 (by omega))) q436 | exact fun x y => absurd (by omega) y)) (And.intro rfl (And.intro rfl (And.intro rfl (True.intro))))
  have C475 : ∀  (T19 : sS) (_ : HI T19) (_ : FR md_mo_phraseMeant S T19) (v4 : Int) (v5 : Int) (v6 : Int), (0 ≤ v4 ∧ v4 ≤ 1699) → (0 ≤ v5 ∧ v5 ≤ 2599) → (0 ≤ v6 ∧ v6 ≤ 4) → (KQ T19 S q) → (KH T19 S p) → (Xi T19 976 (p).toNat = 5) → (Xi T19 977 (p).toNat = q) → (Xi S 904 106 ≠ 0 → Xi T19 904 106 ≠ 0) → (Xi T19 904 69 = Xi S 904 69) → (Xi T19 904 115 = -1) → (v4 = Xi S 964 (i).toNat) → (Xi S 963 (i).toNat = 5) → (Xi S 953 (Xi S 964 (i).toNat).toNat = 0) → (v5 = Xi S 956 (Xi S 964 (i).toNat).toNat) → (Xi T19 904 106 = 0 → 1 ≤ v6) → (1 ≤ v6 → (0 ≤ Xi T19 904 128 ∧ Xi T19 904 128 < Xi S 904 49) ∧ Xi T19 904 129 < Xi S 904 19 ∧ (Xi T19 904 129 = -1 → Xi S 942 (Xi T19 904 128).toNat < 0)) → Rl lay0 (d + 7) m_mo_phraseMeant 475 [(0, .ref 904), (2, iv q), (4, iv v4), (5, iv v5), (6, iv v6)] [] T19 (Q_mo_phraseMeant S n i q p) := by
    intro T19 hHT19 hFT19 v4 v5 v6 w275 w276 w277 K475 P475 w278 w279 w280 w281 w282 w283 w284 w285 w286 w287 A475
    have w288 : Xi T19 904 115 = Xi S 904 115 := hFT19.x _ _ rfl
    have w289 : Xi T19 904 116 = Xi S 904 116 := hFT19.x _ _ rfl
    have w290 : Xi T19 904 19 = Xi S 904 19 := hFT19.x _ _ rfl
    have w291 : Xi T19 904 32 = Xi S 904 32 := hFT19.x _ _ rfl
    have w292 : Xi T19 904 49 = Xi S 904 49 := hFT19.x _ _ rfl
    have w293 : Xi T19 904 69 = Xi S 904 69 := hFT19.x _ _ rfl
    have w294 : 0 ≤ Xi T19 904 106 ∧ Xi T19 904 106 ≤ 9 := hHT19.c _ _
    have w295 : -1 ≤ Xi T19 904 115 ∧ Xi T19 904 115 ≤ 15 := hHT19.c _ _
    have w296 : 0 ≤ Xi T19 904 128 ∧ Xi T19 904 128 ≤ 11 := hHT19.c _ _
    have w297 : -1 ≤ Xi T19 904 129 ∧ Xi T19 904 129 ≤ 23 := hHT19.c _ _
    have w298 : 0 ≤ Xi T19 904 69 ∧ Xi T19 904 69 ≤ 2600 := hHT19.c _ _
    have C499 : ∀  (T20 : sS) (_ : HI T20) (_ : FR md_mo_phraseMeant S T20) (v4 : Int) (v6 : Int), (0 ≤ v4 ∧ v4 ≤ 1699) → (0 ≤ v6 ∧ v6 ≤ 4) → (KQ T20 S q) → (KH T20 S p) → (Xi T20 976 (p).toNat = 5) → (Xi T20 977 (p).toNat = q) → (Xi S 904 106 ≠ 0 → Xi T20 904 106 ≠ 0) → (Xi T20 904 69 = Xi S 904 69) → (Xi T20 904 115 = -1) → (v4 = Xi S 964 (i).toNat) → (Xi S 963 (i).toNat = 5) → (Xi S 953 (Xi S 964 (i).toNat).toNat = 0) → (Xi T20 904 106 = 0 → 1 ≤ v6) → (1 ≤ v6 → (0 ≤ Xi T20 904 128 ∧ Xi T20 904 128 < Xi S 904 49) ∧ Xi T20 904 129 < Xi S 904 19 ∧ (Xi T20 904 129 = -1 → Xi S 942 (Xi T20 904 128).toNat < 0)) → Rl lay0 (d + 7) m_mo_phraseMeant 499 [(0, .ref 904), (2, iv q), (4, iv v4), (6, iv v6)] [] T20 (Q_mo_phraseMeant S n i q p) := by
      intro T20 hHT20 hFT20 v4 v6 w299 w300 K499 P499 w301 w302 w303 w304 w305 w306 w307 w308 w309 A499
      have w310 : Xi T20 904 115 = Xi S 904 115 := hFT20.x _ _ rfl
      have w311 : Xi T20 904 116 = Xi S 904 116 := hFT20.x _ _ rfl
      have w312 : Xi T20 904 19 = Xi S 904 19 := hFT20.x _ _ rfl
      have w313 : Xi T20 904 32 = Xi S 904 32 := hFT20.x _ _ rfl
      have w314 : Xi T20 904 49 = Xi S 904 49 := hFT20.x _ _ rfl
      have w315 : Xi T20 904 69 = Xi S 904 69 := hFT20.x _ _ rfl
      have w316 : 0 ≤ Xi T20 904 106 ∧ Xi T20 904 106 ≤ 9 := hHT20.c _ _
      have w317 : -1 ≤ Xi T20 904 115 ∧ Xi T20 904 115 ≤ 15 := hHT20.c _ _
      have w318 : 0 ≤ Xi T20 904 128 ∧ Xi T20 904 128 ≤ 11 := hHT20.c _ _
      have w319 : -1 ≤ Xi T20 904 129 ∧ Xi T20 904 129 ≤ 23 := hHT20.c _ _
      have w320 : 0 ≤ Xi T20 904 69 ∧ Xi T20 904 69 ≤ 2600 := hHT20.c _ _
      refine l_aload_n rfl rfl ?_
      refine l_gfr rfl rfl rfl rfl rfl (hHT20.r 904 121 972 rfl) ?_
      refine l_iload_n rfl rfl ?_
      refine l_iload rfl rfl ?_
      refine l_if_le rfl rfl (by unfold rg; omega) (fun w321 => ?_) (fun w322 => ?_)
      · refine l_iconst rfl ?_
        refine l_iastore (n := 2400) rfl rfl (by omega) (by omega) (by unfold rg; omega) ?_
        obtain ⟨U21, eU21⟩ : ∃ T : sS, T = uI T20 972 ((q).toNat) (Int32.ofInt 0) := ⟨_, rfl⟩
        rw [← eU21]
        have hHU21 : HI U21 := by rw [eU21]; exact HI_w hHT20 (show -1 ≤ 0 by omega) (show 0 ≤ 11 by omega)
        have hFU21 : FR md_mo_phraseMeant S U21 := by rw [eU21]; exact FR.wI hFT20 (mdf_i (r := (972, 973, 0, 100000)) (List.mem_of_getElem? (i := 15) rfl) (inR_i (by omega) (by omega) (by omega) (by omega)))
        have w323 : Xi U21 972 ((q).toNat) = 0 := by rw [eU21]; exact Xi_same (by unfold rg; omega)
        refine l_aload_n rfl rfl ?_
        refine l_gfr rfl rfl rfl rfl rfl (hHU21.r 904 120 971 rfl) ?_
        refine l_iload_n rfl rfl ?_
        refine l_iload rfl rfl ?_
        refine l_if_le rfl rfl (by unfold rg; omega) (fun w324 => ?_) (fun w325 => ?_)
        · refine l_iconst rfl ?_
          refine l_iastore (n := 2400) rfl rfl (by omega) (by omega) (by unfold rg; omega) ?_
          obtain ⟨U22, eU22⟩ : ∃ T : sS, T = uI U21 971 ((q).toNat) (Int32.ofInt (-1)) := ⟨_, rfl⟩
          rw [← eU22]
          have hHU22 : HI U22 := by rw [eU22]; exact HI_w hHU21 (show -9 ≤ (-1) by omega) (show (-1) ≤ 23 by omega)
          have hFU22 : FR md_mo_phraseMeant S U22 := by rw [eU22]; exact FR.wI hFU21 (mdf_i (r := (971, 972, 0, 100000)) (List.mem_of_getElem? (i := 14) rfl) (inR_i (by omega) (by omega) (by omega) (by omega)))
          have w326 : Xi U22 971 ((q).toNat) = (-1) := by rw [eU22]; exact Xi_same (by unfold rg; omega)
          have w327 : Xi U22 970 (q).toNat = Xi T20 970 (q).toNat := (show Xi U22 970 (q).toNat = Xi U21 970 (q).toNat from by rw [eU22]; exact Xi_ne (by omega)).trans ((show Xi U21 970 (q).toNat = Xi T20 970 (q).toNat from by rw [eU21]; exact Xi_ne (by omega)))
          have w328 : Xi U22 972 (q).toNat = Xi U21 972 (q).toNat := (show Xi U22 972 (q).toNat = Xi U21 972 (q).toNat from by rw [eU22]; exact Xi_ne (by omega))
          have w329 : Xi U22 973 (q).toNat = Xi T20 973 (q).toNat := (show Xi U22 973 (q).toNat = Xi U21 973 (q).toNat from by rw [eU22]; exact Xi_ne (by omega)).trans ((show Xi U21 973 (q).toNat = Xi T20 973 (q).toNat from by rw [eU21]; exact Xi_ne (by omega)))
          have w330 : Xi U22 974 (q).toNat = Xi T20 974 (q).toNat := (show Xi U22 974 (q).toNat = Xi U21 974 (q).toNat from by rw [eU22]; exact Xi_ne (by omega)).trans ((show Xi U21 974 (q).toNat = Xi T20 974 (q).toNat from by rw [eU21]; exact Xi_ne (by omega)))
          have w331 : Xi U22 975 (q).toNat = Xi T20 975 (q).toNat := (show Xi U22 975 (q).toNat = Xi U21 975 (q).toNat from by rw [eU22]; exact Xi_ne (by omega)).trans ((show Xi U21 975 (q).toNat = Xi T20 975 (q).toNat from by rw [eU21]; exact Xi_ne (by omega)))
          have w332 : Xi U22 976 (p).toNat = Xi T20 976 (p).toNat := (show Xi U22 976 (p).toNat = Xi U21 976 (p).toNat from by rw [eU22]; exact Xi_ne (by omega)).trans ((show Xi U21 976 (p).toNat = Xi T20 976 (p).toNat from by rw [eU21]; exact Xi_ne (by omega)))
          have w333 : Xi U22 977 (p).toNat = Xi T20 977 (p).toNat := (show Xi U22 977 (p).toNat = Xi U21 977 (p).toNat from by rw [eU22]; exact Xi_ne (by omega)).trans ((show Xi U21 977 (p).toNat = Xi T20 977 (p).toNat from by rw [eU21]; exact Xi_ne (by omega)))
          have w334 : Xi U22 904 106 = Xi T20 904 106 := (show Xi U22 904 106 = Xi U21 904 106 from by rw [eU22]; exact Xi_ne (by omega)).trans ((show Xi U21 904 106 = Xi T20 904 106 from by rw [eU21]; exact Xi_ne (by omega)))
          have w335 : 0 ≤ Xi T20 904 106 ∧ Xi T20 904 106 ≤ 9 := hHT20.c _ _
          have w336 : Xi U22 904 115 = Xi T20 904 115 := (show Xi U22 904 115 = Xi U21 904 115 from by rw [eU22]; exact Xi_ne (by omega)).trans ((show Xi U21 904 115 = Xi T20 904 115 from by rw [eU21]; exact Xi_ne (by omega)))
          have w337 : -1 ≤ Xi T20 904 115 ∧ Xi T20 904 115 ≤ 15 := hHT20.c _ _
          have w338 : Xi U22 904 128 = Xi T20 904 128 := (show Xi U22 904 128 = Xi U21 904 128 from by rw [eU22]; exact Xi_ne (by omega)).trans ((show Xi U21 904 128 = Xi T20 904 128 from by rw [eU21]; exact Xi_ne (by omega)))
          have w339 : 0 ≤ Xi T20 904 128 ∧ Xi T20 904 128 ≤ 11 := hHT20.c _ _
          have w340 : Xi U22 904 129 = Xi T20 904 129 := (show Xi U22 904 129 = Xi U21 904 129 from by rw [eU22]; exact Xi_ne (by omega)).trans ((show Xi U21 904 129 = Xi T20 904 129 from by rw [eU21]; exact Xi_ne (by omega)))
          have w341 : -1 ≤ Xi T20 904 129 ∧ Xi T20 904 129 ≤ 23 := hHT20.c _ _
          have w342 : Xi U22 904 69 = Xi T20 904 69 := (show Xi U22 904 69 = Xi U21 904 69 from by rw [eU22]; exact Xi_ne (by omega)).trans ((show Xi U21 904 69 = Xi T20 904 69 from by rw [eU21]; exact Xi_ne (by omega)))
          have w343 : 0 ≤ Xi T20 904 69 ∧ Xi T20 904 69 ≤ 2600 := hHT20.c _ _
          exact Rl_weak (C537 U22 hHU22 hFU22 (v4) (by omega) ((KQ.w (KQ.w (by assumption : KQ T20 S _) eU21 (by omega)) eU22 (by omega))) ((KH_FR (FR_e eU22) rfl (KH_FR (FR_e eU21) rfl (by assumption : KH T20 _ _)))) (by omega) (by omega) (by omega) (by omega) (by omega) (by omega) (by first | exact (fun _ q => ⟨by omega, fun y => absurd y (by omega), fun y => absurd y (by omega)⟩) q436 | exact (fun _ q => (by have t := A499 (by omega); refine ⟨by omega, fun _ y => by omega, fun _ y => ?_⟩; rw [show Xi U22 972 (q).toNat = _ from (by assumption)]; exact t.2.2 (by omega))) A499) (by first | exact (fun _ q => fun _ => (by rw [show Xi U22 971 (q).toNat = _ from (by assumption)]; exact th437 (by omega))) q436 | exact fun x y => absurd (by omega) y)) (And.intro rfl (And.intro rfl (And.intro rfl (True.intro))))
        · refine l_aload_n rfl rfl ?_
          refine l_gfi rfl rfl rfl rfl rfl ?_
          have w344 : (Xi U21 904 129) = (Xi T20 904 129) := (show Xi U21 904 129 = Xi T20 904 129 from by rw [eU21]; exact Xi_ne (by omega))
          rw [w344]
          refine l_goto rfl rfl ?_
          refine l_iastore (n := 2400) rfl rfl (by omega) (by omega) (by unfold rg; omega) ?_
          obtain ⟨U23, eU23⟩ : ∃ T : sS, T = uI U21 971 ((q).toNat) (Int32.ofInt (Xi T20 904 129)) := ⟨_, rfl⟩
          rw [← eU23]
          have hHU23 : HI U23 := by rw [eU23]; exact HI_w hHU21 (show -9 ≤ (Xi T20 904 129) by omega) (show (Xi T20 904 129) ≤ 23 by omega)
          have hFU23 : FR md_mo_phraseMeant S U23 := by rw [eU23]; exact FR.wI hFU21 (mdf_i (r := (971, 972, 0, 100000)) (List.mem_of_getElem? (i := 14) rfl) (inR_i (by omega) (by omega) (by omega) (by omega)))
          have w345 : Xi U23 971 ((q).toNat) = (Xi T20 904 129) := by rw [eU23]; exact Xi_same (by unfold rg; omega)
          have w346 : Xi U23 970 (q).toNat = Xi T20 970 (q).toNat := (show Xi U23 970 (q).toNat = Xi U21 970 (q).toNat from by rw [eU23]; exact Xi_ne (by omega)).trans ((show Xi U21 970 (q).toNat = Xi T20 970 (q).toNat from by rw [eU21]; exact Xi_ne (by omega)))
          have w347 : Xi U23 972 (q).toNat = Xi U21 972 (q).toNat := (show Xi U23 972 (q).toNat = Xi U21 972 (q).toNat from by rw [eU23]; exact Xi_ne (by omega))
          have w348 : Xi U23 973 (q).toNat = Xi T20 973 (q).toNat := (show Xi U23 973 (q).toNat = Xi U21 973 (q).toNat from by rw [eU23]; exact Xi_ne (by omega)).trans ((show Xi U21 973 (q).toNat = Xi T20 973 (q).toNat from by rw [eU21]; exact Xi_ne (by omega)))
          have w349 : Xi U23 974 (q).toNat = Xi T20 974 (q).toNat := (show Xi U23 974 (q).toNat = Xi U21 974 (q).toNat from by rw [eU23]; exact Xi_ne (by omega)).trans ((show Xi U21 974 (q).toNat = Xi T20 974 (q).toNat from by rw [eU21]; exact Xi_ne (by omega)))
          have w350 : Xi U23 975 (q).toNat = Xi T20 975 (q).toNat := (show Xi U23 975 (q).toNat = Xi U21 975 (q).toNat from by rw [eU23]; exact Xi_ne (by omega)).trans ((show Xi U21 975 (q).toNat = Xi T20 975 (q).toNat from by rw [eU21]; exact Xi_ne (by omega)))
          have w351 : Xi U23 976 (p).toNat = Xi T20 976 (p).toNat := (show Xi U23 976 (p).toNat = Xi U21 976 (p).toNat from by rw [eU23]; exact Xi_ne (by omega)).trans ((show Xi U21 976 (p).toNat = Xi T20 976 (p).toNat from by rw [eU21]; exact Xi_ne (by omega)))
          have w352 : Xi U23 977 (p).toNat = Xi T20 977 (p).toNat := (show Xi U23 977 (p).toNat = Xi U21 977 (p).toNat from by rw [eU23]; exact Xi_ne (by omega)).trans ((show Xi U21 977 (p).toNat = Xi T20 977 (p).toNat from by rw [eU21]; exact Xi_ne (by omega)))
          have w353 : Xi U23 904 106 = Xi T20 904 106 := (show Xi U23 904 106 = Xi U21 904 106 from by rw [eU23]; exact Xi_ne (by omega)).trans ((show Xi U21 904 106 = Xi T20 904 106 from by rw [eU21]; exact Xi_ne (by omega)))
          have w354 : 0 ≤ Xi T20 904 106 ∧ Xi T20 904 106 ≤ 9 := hHT20.c _ _
          have w355 : Xi U23 904 115 = Xi T20 904 115 := (show Xi U23 904 115 = Xi U21 904 115 from by rw [eU23]; exact Xi_ne (by omega)).trans ((show Xi U21 904 115 = Xi T20 904 115 from by rw [eU21]; exact Xi_ne (by omega)))
          have w356 : -1 ≤ Xi T20 904 115 ∧ Xi T20 904 115 ≤ 15 := hHT20.c _ _
          have w357 : Xi U23 904 128 = Xi T20 904 128 := (show Xi U23 904 128 = Xi U21 904 128 from by rw [eU23]; exact Xi_ne (by omega)).trans ((show Xi U21 904 128 = Xi T20 904 128 from by rw [eU21]; exact Xi_ne (by omega)))
          have w358 : 0 ≤ Xi T20 904 128 ∧ Xi T20 904 128 ≤ 11 := hHT20.c _ _
          have w359 : Xi U23 904 129 = Xi T20 904 129 := (show Xi U23 904 129 = Xi U21 904 129 from by rw [eU23]; exact Xi_ne (by omega)).trans ((show Xi U21 904 129 = Xi T20 904 129 from by rw [eU21]; exact Xi_ne (by omega)))
          have w360 : -1 ≤ Xi T20 904 129 ∧ Xi T20 904 129 ≤ 23 := hHT20.c _ _
          have w361 : Xi U23 904 69 = Xi T20 904 69 := (show Xi U23 904 69 = Xi U21 904 69 from by rw [eU23]; exact Xi_ne (by omega)).trans ((show Xi U21 904 69 = Xi T20 904 69 from by rw [eU21]; exact Xi_ne (by omega)))
          have w362 : 0 ≤ Xi T20 904 69 ∧ Xi T20 904 69 ≤ 2600 := hHT20.c _ _
          exact Rl_weak (C537 U23 hHU23 hFU23 (v4) (by omega) ((KQ.w (KQ.w (by assumption : KQ T20 S _) eU21 (by omega)) eU23 (by omega))) ((KH_FR (FR_e eU23) rfl (KH_FR (FR_e eU21) rfl (by assumption : KH T20 _ _)))) (by omega) (by omega) (by omega) (by omega) (by omega) (by omega) (by first | exact (fun _ q => ⟨by omega, fun y => absurd y (by omega), fun y => absurd y (by omega)⟩) q436 | exact (fun _ q => (by have t := A499 (by omega); refine ⟨by omega, fun _ y => by omega, fun _ y => ?_⟩; rw [show Xi U23 972 (q).toNat = _ from (by assumption)]; exact t.2.2 (by omega))) A499) (by first | exact (fun _ q => fun _ => (by rw [show Xi U23 971 (q).toNat = _ from (by assumption)]; exact th437 (by omega))) q436 | exact fun x y => absurd (by omega) y)) (And.intro rfl (And.intro rfl (And.intro rfl (True.intro))))
      · refine l_aload_n rfl rfl ?_
        refine l_gfi rfl rfl rfl rfl rfl ?_
        refine l_goto rfl rfl ?_
        refine l_iastore (n := 2400) rfl rfl (by omega) (by omega) (by unfold rg; omega) ?_
        obtain ⟨U24, eU24⟩ : ∃ T : sS, T = uI T20 972 ((q).toNat) (Int32.ofInt (Xi T20 904 128)) := ⟨_, rfl⟩
        rw [← eU24]
        have hHU24 : HI U24 := by rw [eU24]; exact HI_w hHT20 (show -1 ≤ (Xi T20 904 128) by omega) (show (Xi T20 904 128) ≤ 11 by omega)
        have hFU24 : FR md_mo_phraseMeant S U24 := by rw [eU24]; exact FR.wI hFT20 (mdf_i (r := (972, 973, 0, 100000)) (List.mem_of_getElem? (i := 15) rfl) (inR_i (by omega) (by omega) (by omega) (by omega)))
        have w363 : Xi U24 972 ((q).toNat) = (Xi T20 904 128) := by rw [eU24]; exact Xi_same (by unfold rg; omega)
        refine l_aload_n rfl rfl ?_
        refine l_gfr rfl rfl rfl rfl rfl (hHU24.r 904 120 971 rfl) ?_
        refine l_iload_n rfl rfl ?_
        refine l_iload rfl rfl ?_
        refine l_if_le rfl rfl (by unfold rg; omega) (fun w364 => ?_) (fun w365 => ?_)
        · refine l_iconst rfl ?_
          refine l_iastore (n := 2400) rfl rfl (by omega) (by omega) (by unfold rg; omega) ?_
          obtain ⟨U25, eU25⟩ : ∃ T : sS, T = uI U24 971 ((q).toNat) (Int32.ofInt (-1)) := ⟨_, rfl⟩
          rw [← eU25]
          have hHU25 : HI U25 := by rw [eU25]; exact HI_w hHU24 (show -9 ≤ (-1) by omega) (show (-1) ≤ 23 by omega)
          have hFU25 : FR md_mo_phraseMeant S U25 := by rw [eU25]; exact FR.wI hFU24 (mdf_i (r := (971, 972, 0, 100000)) (List.mem_of_getElem? (i := 14) rfl) (inR_i (by omega) (by omega) (by omega) (by omega)))
          have w366 : Xi U25 971 ((q).toNat) = (-1) := by rw [eU25]; exact Xi_same (by unfold rg; omega)
          have w367 : Xi U25 970 (q).toNat = Xi T20 970 (q).toNat := (show Xi U25 970 (q).toNat = Xi U24 970 (q).toNat from by rw [eU25]; exact Xi_ne (by omega)).trans ((show Xi U24 970 (q).toNat = Xi T20 970 (q).toNat from by rw [eU24]; exact Xi_ne (by omega)))
          have w368 : Xi U25 972 (q).toNat = Xi U24 972 (q).toNat := (show Xi U25 972 (q).toNat = Xi U24 972 (q).toNat from by rw [eU25]; exact Xi_ne (by omega))
          have w369 : Xi U25 973 (q).toNat = Xi T20 973 (q).toNat := (show Xi U25 973 (q).toNat = Xi U24 973 (q).toNat from by rw [eU25]; exact Xi_ne (by omega)).trans ((show Xi U24 973 (q).toNat = Xi T20 973 (q).toNat from by rw [eU24]; exact Xi_ne (by omega)))
          have w370 : Xi U25 974 (q).toNat = Xi T20 974 (q).toNat := (show Xi U25 974 (q).toNat = Xi U24 974 (q).toNat from by rw [eU25]; exact Xi_ne (by omega)).trans ((show Xi U24 974 (q).toNat = Xi T20 974 (q).toNat from by rw [eU24]; exact Xi_ne (by omega)))
          have w371 : Xi U25 975 (q).toNat = Xi T20 975 (q).toNat := (show Xi U25 975 (q).toNat = Xi U24 975 (q).toNat from by rw [eU25]; exact Xi_ne (by omega)).trans ((show Xi U24 975 (q).toNat = Xi T20 975 (q).toNat from by rw [eU24]; exact Xi_ne (by omega)))
          have w372 : Xi U25 976 (p).toNat = Xi T20 976 (p).toNat := (show Xi U25 976 (p).toNat = Xi U24 976 (p).toNat from by rw [eU25]; exact Xi_ne (by omega)).trans ((show Xi U24 976 (p).toNat = Xi T20 976 (p).toNat from by rw [eU24]; exact Xi_ne (by omega)))
          have w373 : Xi U25 977 (p).toNat = Xi T20 977 (p).toNat := (show Xi U25 977 (p).toNat = Xi U24 977 (p).toNat from by rw [eU25]; exact Xi_ne (by omega)).trans ((show Xi U24 977 (p).toNat = Xi T20 977 (p).toNat from by rw [eU24]; exact Xi_ne (by omega)))
          have w374 : Xi U25 904 106 = Xi T20 904 106 := (show Xi U25 904 106 = Xi U24 904 106 from by rw [eU25]; exact Xi_ne (by omega)).trans ((show Xi U24 904 106 = Xi T20 904 106 from by rw [eU24]; exact Xi_ne (by omega)))
          have w375 : 0 ≤ Xi T20 904 106 ∧ Xi T20 904 106 ≤ 9 := hHT20.c _ _
          have w376 : Xi U25 904 115 = Xi T20 904 115 := (show Xi U25 904 115 = Xi U24 904 115 from by rw [eU25]; exact Xi_ne (by omega)).trans ((show Xi U24 904 115 = Xi T20 904 115 from by rw [eU24]; exact Xi_ne (by omega)))
          have w377 : -1 ≤ Xi T20 904 115 ∧ Xi T20 904 115 ≤ 15 := hHT20.c _ _
          have w378 : Xi U25 904 128 = Xi T20 904 128 := (show Xi U25 904 128 = Xi U24 904 128 from by rw [eU25]; exact Xi_ne (by omega)).trans ((show Xi U24 904 128 = Xi T20 904 128 from by rw [eU24]; exact Xi_ne (by omega)))
          have w379 : 0 ≤ Xi T20 904 128 ∧ Xi T20 904 128 ≤ 11 := hHT20.c _ _
          have w380 : Xi U25 904 129 = Xi T20 904 129 := (show Xi U25 904 129 = Xi U24 904 129 from by rw [eU25]; exact Xi_ne (by omega)).trans ((show Xi U24 904 129 = Xi T20 904 129 from by rw [eU24]; exact Xi_ne (by omega)))
          have w381 : -1 ≤ Xi T20 904 129 ∧ Xi T20 904 129 ≤ 23 := hHT20.c _ _
          have w382 : Xi U25 904 69 = Xi T20 904 69 := (show Xi U25 904 69 = Xi U24 904 69 from by rw [eU25]; exact Xi_ne (by omega)).trans ((show Xi U24 904 69 = Xi T20 904 69 from by rw [eU24]; exact Xi_ne (by omega)))
          have w383 : 0 ≤ Xi T20 904 69 ∧ Xi T20 904 69 ≤ 2600 := hHT20.c _ _
          exact Rl_weak (C537 U25 hHU25 hFU25 (v4) (by omega) ((KQ.w (KQ.w (by assumption : KQ T20 S _) eU24 (by omega)) eU25 (by omega))) ((KH_FR (FR_e eU25) rfl (KH_FR (FR_e eU24) rfl (by assumption : KH T20 _ _)))) (by omega) (by omega) (by omega) (by omega) (by omega) (by omega) (by first | exact (fun _ q => ⟨by omega, fun y => absurd y (by omega), fun y => absurd y (by omega)⟩) q436 | exact (fun _ q => (by have t := A499 (by omega); refine ⟨by omega, fun _ y => by omega, fun _ y => ?_⟩; rw [show Xi U25 972 (q).toNat = _ from (by assumption)]; exact t.2.2 (by omega))) A499) (by first | exact (fun _ q => fun _ => (by rw [show Xi U25 971 (q).toNat = _ from (by assumption)]; exact th437 (by omega))) q436 | exact fun x y => absurd (by omega) y)) (And.intro rfl (And.intro rfl (And.intro rfl (True.intro))))
        · refine l_aload_n rfl rfl ?_
          refine l_gfi rfl rfl rfl rfl rfl ?_
          have w384 : (Xi U24 904 129) = (Xi T20 904 129) := (show Xi U24 904 129 = Xi T20 904 129 from by rw [eU24]; exact Xi_ne (by omega))
          rw [w384]
          refine l_goto rfl rfl ?_
          refine l_iastore (n := 2400) rfl rfl (by omega) (by omega) (by unfold rg; omega) ?_
          obtain ⟨U26, eU26⟩ : ∃ T : sS, T = uI U24 971 ((q).toNat) (Int32.ofInt (Xi T20 904 129)) := ⟨_, rfl⟩
          rw [← eU26]
          have hHU26 : HI U26 := by rw [eU26]; exact HI_w hHU24 (show -9 ≤ (Xi T20 904 129) by omega) (show (Xi T20 904 129) ≤ 23 by omega)
          have hFU26 : FR md_mo_phraseMeant S U26 := by rw [eU26]; exact FR.wI hFU24 (mdf_i (r := (971, 972, 0, 100000)) (List.mem_of_getElem? (i := 14) rfl) (inR_i (by omega) (by omega) (by omega) (by omega)))
          have w385 : Xi U26 971 ((q).toNat) = (Xi T20 904 129) := by rw [eU26]; exact Xi_same (by unfold rg; omega)
          have w386 : Xi U26 970 (q).toNat = Xi T20 970 (q).toNat := (show Xi U26 970 (q).toNat = Xi U24 970 (q).toNat from by rw [eU26]; exact Xi_ne (by omega)).trans ((show Xi U24 970 (q).toNat = Xi T20 970 (q).toNat from by rw [eU24]; exact Xi_ne (by omega)))
          have w387 : Xi U26 972 (q).toNat = Xi U24 972 (q).toNat := (show Xi U26 972 (q).toNat = Xi U24 972 (q).toNat from by rw [eU26]; exact Xi_ne (by omega))
          have w388 : Xi U26 973 (q).toNat = Xi T20 973 (q).toNat := (show Xi U26 973 (q).toNat = Xi U24 973 (q).toNat from by rw [eU26]; exact Xi_ne (by omega)).trans ((show Xi U24 973 (q).toNat = Xi T20 973 (q).toNat from by rw [eU24]; exact Xi_ne (by omega)))
          have w389 : Xi U26 974 (q).toNat = Xi T20 974 (q).toNat := (show Xi U26 974 (q).toNat = Xi U24 974 (q).toNat from by rw [eU26]; exact Xi_ne (by omega)).trans ((show Xi U24 974 (q).toNat = Xi T20 974 (q).toNat from by rw [eU24]; exact Xi_ne (by omega)))
          have w390 : Xi U26 975 (q).toNat = Xi T20 975 (q).toNat := (show Xi U26 975 (q).toNat = Xi U24 975 (q).toNat from by rw [eU26]; exact Xi_ne (by omega)).trans ((show Xi U24 975 (q).toNat = Xi T20 975 (q).toNat from by rw [eU24]; exact Xi_ne (by omega)))
          have w391 : Xi U26 976 (p).toNat = Xi T20 976 (p).toNat := (show Xi U26 976 (p).toNat = Xi U24 976 (p).toNat from by rw [eU26]; exact Xi_ne (by omega)).trans ((show Xi U24 976 (p).toNat = Xi T20 976 (p).toNat from by rw [eU24]; exact Xi_ne (by omega)))
          have w392 : Xi U26 977 (p).toNat = Xi T20 977 (p).toNat := (show Xi U26 977 (p).toNat = Xi U24 977 (p).toNat from by rw [eU26]; exact Xi_ne (by omega)).trans ((show Xi U24 977 (p).toNat = Xi T20 977 (p).toNat from by rw [eU24]; exact Xi_ne (by omega)))
          have w393 : Xi U26 904 106 = Xi T20 904 106 := (show Xi U26 904 106 = Xi U24 904 106 from by rw [eU26]; exact Xi_ne (by omega)).trans ((show Xi U24 904 106 = Xi T20 904 106 from by rw [eU24]; exact Xi_ne (by omega)))
          have w394 : 0 ≤ Xi T20 904 106 ∧ Xi T20 904 106 ≤ 9 := hHT20.c _ _
          have w395 : Xi U26 904 115 = Xi T20 904 115 := (show Xi U26 904 115 = Xi U24 904 115 from by rw [eU26]; exact Xi_ne (by omega)).trans ((show Xi U24 904 115 = Xi T20 904 115 from by rw [eU24]; exact Xi_ne (by omega)))
          have w396 : -1 ≤ Xi T20 904 115 ∧ Xi T20 904 115 ≤ 15 := hHT20.c _ _
          have w397 : Xi U26 904 128 = Xi T20 904 128 := (show Xi U26 904 128 = Xi U24 904 128 from by rw [eU26]; exact Xi_ne (by omega)).trans ((show Xi U24 904 128 = Xi T20 904 128 from by rw [eU24]; exact Xi_ne (by omega)))
          have w398 : 0 ≤ Xi T20 904 128 ∧ Xi T20 904 128 ≤ 11 := hHT20.c _ _
          have w399 : Xi U26 904 129 = Xi T20 904 129 := (show Xi U26 904 129 = Xi U24 904 129 from by rw [eU26]; exact Xi_ne (by omega)).trans ((show Xi U24 904 129 = Xi T20 904 129 from by rw [eU24]; exact Xi_ne (by omega)))
          have w400 : -1 ≤ Xi T20 904 129 ∧ Xi T20 904 129 ≤ 23 := hHT20.c _ _
          have w401 : Xi U26 904 69 = Xi T20 904 69 := (show Xi U26 904 69 = Xi U24 904 69 from by rw [eU26]; exact Xi_ne (by omega)).trans ((show Xi U24 904 69 = Xi T20 904 69 from by rw [eU24]; exact Xi_ne (by omega)))
          have w402 : 0 ≤ Xi T20 904 69 ∧ Xi T20 904 69 ≤ 2600 := hHT20.c _ _
          exact Rl_weak (C537 U26 hHU26 hFU26 (v4) (by omega) ((KQ.w (KQ.w (by assumption : KQ T20 S _) eU24 (by omega)) eU26 (by omega))) ((KH_FR (FR_e eU26) rfl (KH_FR (FR_e eU24) rfl (by assumption : KH T20 _ _)))) (by omega) (by omega) (by omega) (by omega) (by omega) (by omega) (by first | exact (fun _ q => ⟨by omega, fun y => absurd y (by omega), fun y => absurd y (by omega)⟩) q436 | exact (fun _ q => (by have t := A499 (by omega); refine ⟨by omega, fun _ y => by omega, fun _ y => ?_⟩; rw [show Xi U26 972 (q).toNat = _ from (by assumption)]; exact t.2.2 (by omega))) A499) (by first | exact (fun _ q => fun _ => (by rw [show Xi U26 971 (q).toNat = _ from (by assumption)]; exact th437 (by omega))) q436 | exact fun x y => absurd (by omega) y)) (And.intro rfl (And.intro rfl (And.intro rfl (True.intro))))
    refine l_aload_n rfl rfl ?_
    refine l_iload rfl rfl ?_
    refine l_iconst rfl ?_
    refine l_icmp_ge rfl rfl (by unfold rg; omega) (by unfold rg; omega) (fun w403 => ?_) (fun w404 => ?_)
    · refine l_iconst rfl ?_
      refine l_bipush rfl rfl ?_
      refine l_aload_n rfl rfl ?_
      refine l_gfr rfl rfl rfl rfl rfl (hHT19.r 904 67 950 rfl) ?_
      refine l_iload rfl rfl ?_
      refine l_iaload (n := 2600) rfl rfl (by omega) (by omega) (by unfold rg; omega) ?_
      have w405 : 0 ≤ (Xi T19 950 ((v5).toNat)) ∧ (Xi T19 950 ((v5).toNat)) ≤ 5010 := hHT19.c _ _
      have e495 : (Xi T19 950 ((v5).toNat)) = Xi S 950 (Xi S 956 (Xi S 964 (i).toNat).toNat).toNat := by rw [(hFT19.cx 950 rfl _).1]; exact congrArg (fun t : Int => Xi S 950 t.toNat) (by omega)
      have g495 := hrf (Xi S 956 (Xi S 964 (i).toNat).toNat) (by omega) (hp.2.2.2.2.1 (by omega))
      have w406 : 0 ≤ Xi T19 904 106 ∧ Xi T19 904 106 ≤ 9 := hHT19.c _ _
      have w407 : -1 ≤ Xi T19 904 115 ∧ Xi T19 904 115 ≤ 15 := hHT19.c _ _
      have w408 : 0 ≤ Xi T19 904 128 ∧ Xi T19 904 128 ≤ 11 := hHT19.c _ _
      have w409 : -1 ≤ Xi T19 904 129 ∧ Xi T19 904 129 ≤ 23 := hHT19.c _ _
      have w410 : 0 ≤ Xi T19 904 69 ∧ Xi T19 904 69 ≤ 2600 := hHT19.c _ _
      refine l_callV rfl rfl rfl (t_mo_need hHT19 0 7 (Xi T19 950 ((v5).toNat)) ⟨by omega, by omega⟩ ⟨by omega, by omega⟩ ⟨by omega, by omega⟩ _) ?_
      rintro _ T27 ⟨hHT27, w414, rfl, w411, w412⟩
      have hFT27 : FR md_mo_phraseMeant S T27 := FR.tr hFT19 w414 rfl
      show Rl _ _ _ _ _ [] _ _
      have w415 : Xi T27 970 (q).toNat = Xi T19 970 (q).toNat := (show Xi T27 970 (q).toNat = Xi T19 970 (q).toNat from (w414.cx 970 rfl _).1)
      have w416 : Xi T27 971 (q).toNat = Xi T19 971 (q).toNat := (show Xi T27 971 (q).toNat = Xi T19 971 (q).toNat from (w414.cx 971 rfl _).1)
      have w417 : Xi T27 972 (q).toNat = Xi T19 972 (q).toNat := (show Xi T27 972 (q).toNat = Xi T19 972 (q).toNat from (w414.cx 972 rfl _).1)
      have w418 : Xi T27 973 (q).toNat = Xi T19 973 (q).toNat := (show Xi T27 973 (q).toNat = Xi T19 973 (q).toNat from (w414.cx 973 rfl _).1)
      have w419 : Xi T27 974 (q).toNat = Xi T19 974 (q).toNat := (show Xi T27 974 (q).toNat = Xi T19 974 (q).toNat from (w414.cx 974 rfl _).1)
      have w420 : Xi T27 975 (q).toNat = Xi T19 975 (q).toNat := (show Xi T27 975 (q).toNat = Xi T19 975 (q).toNat from (w414.cx 975 rfl _).1)
      have w421 : Xi T27 976 (p).toNat = Xi T19 976 (p).toNat := (show Xi T27 976 (p).toNat = Xi T19 976 (p).toNat from (w414.cx 976 rfl _).1)
      have w422 : Xi T27 977 (p).toNat = Xi T19 977 (p).toNat := (show Xi T27 977 (p).toNat = Xi T19 977 (p).toNat from (w414.cx 977 rfl _).1)
      have w423 : 0 ≤ Xi T27 904 106 ∧ Xi T27 904 106 ≤ 9 := hHT27.c _ _
      have w424 : Xi T27 904 115 = Xi T19 904 115 := (show Xi T27 904 115 = Xi T19 904 115 from w414.x _ _ rfl)
      have w425 : -1 ≤ Xi T19 904 115 ∧ Xi T19 904 115 ≤ 15 := hHT19.c _ _
      have w426 : Xi T27 904 128 = Xi T19 904 128 := (show Xi T27 904 128 = Xi T19 904 128 from w414.x _ _ rfl)
      have w427 : 0 ≤ Xi T19 904 128 ∧ Xi T19 904 128 ≤ 11 := hHT19.c _ _
      have w428 : Xi T27 904 129 = Xi T19 904 129 := (show Xi T27 904 129 = Xi T19 904 129 from w414.x _ _ rfl)
      have w429 : -1 ≤ Xi T19 904 129 ∧ Xi T19 904 129 ≤ 23 := hHT19.c _ _
      have w430 : Xi T27 904 69 = Xi T19 904 69 := (show Xi T27 904 69 = Xi T19 904 69 from w414.x _ _ rfl)
      have w431 : 0 ≤ Xi T19 904 69 ∧ Xi T19 904 69 ≤ 2600 := hHT19.c _ _
      exact Rl_weak (C499 T27 hHT27 hFT27 (v4) (v6) (by omega) (by omega) ((KQ_FR w414 rfl (by assumption : KQ T19 S _))) ((KH_FR w414 rfl (by assumption : KH T19 _ _))) (by omega) (by omega) (by omega) (by omega) (by omega) (by omega) (by omega) (by omega) (by omega) (fun x => by rw [show Xi T27 904 128 = Xi T19 904 128 by omega, show Xi T27 904 129 = Xi T19 904 129 by omega]; exact A475 x)) (And.intro rfl (And.intro rfl (And.intro rfl (And.intro rfl (True.intro)))))
    · refine l_iconst rfl ?_
      refine l_goto rfl rfl ?_
      refine l_bipush rfl rfl ?_
      refine l_aload_n rfl rfl ?_
      refine l_gfr rfl rfl rfl rfl rfl (hHT19.r 904 67 950 rfl) ?_
      refine l_iload rfl rfl ?_
      refine l_iaload (n := 2600) rfl rfl (by omega) (by omega) (by unfold rg; omega) ?_
      have w432 : 0 ≤ (Xi T19 950 ((v5).toNat)) ∧ (Xi T19 950 ((v5).toNat)) ≤ 5010 := hHT19.c _ _
      have e495 : (Xi T19 950 ((v5).toNat)) = Xi S 950 (Xi S 956 (Xi S 964 (i).toNat).toNat).toNat := by rw [(hFT19.cx 950 rfl _).1]; exact congrArg (fun t : Int => Xi S 950 t.toNat) (by omega)
      have g495 := hrf (Xi S 956 (Xi S 964 (i).toNat).toNat) (by omega) (hp.2.2.2.2.1 (by omega))
      have w433 : 0 ≤ Xi T19 904 106 ∧ Xi T19 904 106 ≤ 9 := hHT19.c _ _
      have w434 : -1 ≤ Xi T19 904 115 ∧ Xi T19 904 115 ≤ 15 := hHT19.c _ _
      have w435 : 0 ≤ Xi T19 904 128 ∧ Xi T19 904 128 ≤ 11 := hHT19.c _ _
      have w436 : -1 ≤ Xi T19 904 129 ∧ Xi T19 904 129 ≤ 23 := hHT19.c _ _
      have w437 : 0 ≤ Xi T19 904 69 ∧ Xi T19 904 69 ≤ 2600 := hHT19.c _ _
      refine l_callV rfl rfl rfl (t_mo_need hHT19 1 7 (Xi T19 950 ((v5).toNat)) ⟨by omega, by omega⟩ ⟨by omega, by omega⟩ ⟨by omega, by omega⟩ _) ?_
      rintro _ T28 ⟨hHT28, w441, rfl, w438, w439⟩
      have hFT28 : FR md_mo_phraseMeant S T28 := FR.tr hFT19 w441 rfl
      show Rl _ _ _ _ _ [] _ _
      have w442 : Xi T28 970 (q).toNat = Xi T19 970 (q).toNat := (show Xi T28 970 (q).toNat = Xi T19 970 (q).toNat from (w441.cx 970 rfl _).1)
      have w443 : Xi T28 971 (q).toNat = Xi T19 971 (q).toNat := (show Xi T28 971 (q).toNat = Xi T19 971 (q).toNat from (w441.cx 971 rfl _).1)
      have w444 : Xi T28 972 (q).toNat = Xi T19 972 (q).toNat := (show Xi T28 972 (q).toNat = Xi T19 972 (q).toNat from (w441.cx 972 rfl _).1)
      have w445 : Xi T28 973 (q).toNat = Xi T19 973 (q).toNat := (show Xi T28 973 (q).toNat = Xi T19 973 (q).toNat from (w441.cx 973 rfl _).1)
      have w446 : Xi T28 974 (q).toNat = Xi T19 974 (q).toNat := (show Xi T28 974 (q).toNat = Xi T19 974 (q).toNat from (w441.cx 974 rfl _).1)
      have w447 : Xi T28 975 (q).toNat = Xi T19 975 (q).toNat := (show Xi T28 975 (q).toNat = Xi T19 975 (q).toNat from (w441.cx 975 rfl _).1)
      have w448 : Xi T28 976 (p).toNat = Xi T19 976 (p).toNat := (show Xi T28 976 (p).toNat = Xi T19 976 (p).toNat from (w441.cx 976 rfl _).1)
      have w449 : Xi T28 977 (p).toNat = Xi T19 977 (p).toNat := (show Xi T28 977 (p).toNat = Xi T19 977 (p).toNat from (w441.cx 977 rfl _).1)
      have w450 : 0 ≤ Xi T28 904 106 ∧ Xi T28 904 106 ≤ 9 := hHT28.c _ _
      have w451 : Xi T28 904 115 = Xi T19 904 115 := (show Xi T28 904 115 = Xi T19 904 115 from w441.x _ _ rfl)
      have w452 : -1 ≤ Xi T19 904 115 ∧ Xi T19 904 115 ≤ 15 := hHT19.c _ _
      have w453 : Xi T28 904 128 = Xi T19 904 128 := (show Xi T28 904 128 = Xi T19 904 128 from w441.x _ _ rfl)
      have w454 : 0 ≤ Xi T19 904 128 ∧ Xi T19 904 128 ≤ 11 := hHT19.c _ _
      have w455 : Xi T28 904 129 = Xi T19 904 129 := (show Xi T28 904 129 = Xi T19 904 129 from w441.x _ _ rfl)
      have w456 : -1 ≤ Xi T19 904 129 ∧ Xi T19 904 129 ≤ 23 := hHT19.c _ _
      have w457 : Xi T28 904 69 = Xi T19 904 69 := (show Xi T28 904 69 = Xi T19 904 69 from w441.x _ _ rfl)
      have w458 : 0 ≤ Xi T19 904 69 ∧ Xi T19 904 69 ≤ 2600 := hHT19.c _ _
      exact Rl_weak (C499 T28 hHT28 hFT28 (v4) (v6) (by omega) (by omega) ((KQ_FR w441 rfl (by assumption : KQ T19 S _))) ((KH_FR w441 rfl (by assumption : KH T19 _ _))) (by omega) (by omega) (by omega) (by omega) (by omega) (by omega) (by omega) (by omega) (by omega) (fun x => by rw [show Xi T28 904 128 = Xi T19 904 128 by omega, show Xi T28 904 129 = Xi T19 904 129 by omega]; exact A475 x)) (And.intro rfl (And.intro rfl (And.intro rfl (And.intro rfl (True.intro)))))
  refine l_aload_n rfl rfl ?_
  refine l_gfr rfl rfl rfl rfl rfl (hH.r 904 96 964 rfl) ?_
  refine l_iload_n rfl rfl ?_
  refine l_iaload (n := 1700) rfl rfl (by omega) (by omega) (by unfold rg; omega) ?_
  have w459 : 0 ≤ (Xi S 964 ((i).toNat)) ∧ (Xi S 964 ((i).toNat)) ≤ 1700 := hH.c _ _
  refine l_istore rfl rfl rfl ?_
  refine l_aload_n rfl rfl ?_
  refine l_gfr rfl rfl rfl rfl rfl (hH.r 904 126 976 rfl) ?_
  refine l_iload_n rfl rfl ?_
  refine l_aload_n rfl rfl ?_
  refine l_gfr rfl rfl rfl rfl rfl (hH.r 904 95 963 rfl) ?_
  refine l_iload_n rfl rfl ?_
  refine l_iaload (n := 1700) rfl rfl (by omega) (by omega) (by unfold rg; omega) ?_
  have w460 : 0 ≤ (Xi S 963 ((i).toNat)) ∧ (Xi S 963 ((i).toNat)) ≤ 6 := hH.c _ _
  refine l_iastore (n := 2000) rfl rfl (by omega) (by omega) (by unfold rg; omega) ?_
  obtain ⟨U29, eU29⟩ : ∃ T : sS, T = uI S 976 ((p).toNat) (Int32.ofInt (Xi S 963 ((i).toNat))) := ⟨_, rfl⟩
  rw [← eU29]
  have hHU29 : HI U29 := by rw [eU29]; exact HI_w hH (show 0 ≤ (Xi S 963 ((i).toNat)) by omega) (show (Xi S 963 ((i).toNat)) ≤ 6 by omega)
  have hFU29 : FR md_mo_phraseMeant S U29 := by rw [eU29]; exact FR.wI hF (mdf_i (r := (976, 977, 0, 100000)) (List.mem_of_getElem? (i := 19) rfl) (inR_i (by omega) (by omega) (by omega) (by omega)))
  have w461 : Xi U29 976 ((p).toNat) = (Xi S 963 ((i).toNat)) := by rw [eU29]; exact Xi_same (by unfold rg; omega)
  refine l_aload_n rfl rfl ?_
  refine l_gfr rfl rfl rfl rfl rfl (hHU29.r 904 127 977 rfl) ?_
  refine l_iload_n rfl rfl ?_
  refine l_iload_n rfl rfl ?_
  refine l_iastore (n := 2000) rfl rfl (by omega) (by omega) (by unfold rg; omega) ?_
  obtain ⟨U30, eU30⟩ : ∃ T : sS, T = uI U29 977 ((p).toNat) (Int32.ofInt q) := ⟨_, rfl⟩
  rw [← eU30]
  have hHU30 : HI U30 := by rw [eU30]; exact HI_w hHU29 (show 0 ≤ q by omega) (show q ≤ 2400 by omega)
  have hFU30 : FR md_mo_phraseMeant S U30 := by rw [eU30]; exact FR.wI hFU29 (mdf_i (r := (977, 978, 0, 100000)) (List.mem_of_getElem? (i := 20) rfl) (inR_i (by omega) (by omega) (by omega) (by omega)))
  have w462 : Xi U30 977 ((p).toNat) = q := by rw [eU30]; exact Xi_same (by unfold rg; omega)
  have k26 : KH U30 S p := KH.w2 eU29 eU30 (by omega)
  refine l_aload_n rfl rfl ?_
  refine l_gfr rfl rfl rfl rfl rfl (hHU30.r 904 95 963 rfl) ?_
  refine l_iload_n rfl rfl ?_
  refine l_iaload (n := 1700) rfl rfl (by omega) (by omega) (by unfold rg; omega) ?_
  have w463 : (Xi U30 963 ((i).toNat)) = (Xi S 963 ((i).toNat)) := (show Xi U30 963 ((i).toNat) = Xi U29 963 ((i).toNat) from by rw [eU30]; exact Xi_ne (by omega)).trans ((show Xi U29 963 ((i).toNat) = Xi S 963 ((i).toNat) from by rw [eU29]; exact Xi_ne (by omega)))
  rw [w463]
  have e32 : (Xi S 963 ((i).toNat)) = Xi S 963 (i).toNat := by first | rfl | exact (hFU30.cx 963 rfl _).1
  refine l_if_ne rfl rfl (by unfold rg; omega) (fun w464 => ?_) (fun w465 => ?_)
  · refine l_aload_n rfl rfl ?_
    refine l_gfr rfl rfl rfl rfl rfl (hHU30.r 904 95 963 rfl) ?_
    refine l_iload_n rfl rfl ?_
    refine l_iaload (n := 1700) rfl rfl (by omega) (by omega) (by unfold rg; omega) ?_
    have w466 : (Xi U30 963 ((i).toNat)) = (Xi S 963 ((i).toNat)) := (show Xi U30 963 ((i).toNat) = Xi U29 963 ((i).toNat) from by rw [eU30]; exact Xi_ne (by omega)).trans ((show Xi U29 963 ((i).toNat) = Xi S 963 ((i).toNat) from by rw [eU29]; exact Xi_ne (by omega)))
    rw [w466]
    have e110 : (Xi S 963 ((i).toNat)) = Xi S 963 (i).toNat := by first | rfl | exact (hFU30.cx 963 rfl _).1
    refine l_iconst rfl ?_
    refine l_icmp_ne rfl rfl (by unfold rg; omega) (by unfold rg; omega) (fun w467 => ?_) (fun w468 => ?_)
    · refine l_aload_n rfl rfl ?_
      refine l_gfr rfl rfl rfl rfl rfl (hHU30.r 904 95 963 rfl) ?_
      refine l_iload_n rfl rfl ?_
      refine l_iaload (n := 1700) rfl rfl (by omega) (by omega) (by unfold rg; omega) ?_
      have w469 : (Xi U30 963 ((i).toNat)) = (Xi S 963 ((i).toNat)) := (show Xi U30 963 ((i).toNat) = Xi U29 963 ((i).toNat) from by rw [eU30]; exact Xi_ne (by omega)).trans ((show Xi U29 963 ((i).toNat) = Xi S 963 ((i).toNat) from by rw [eU29]; exact Xi_ne (by omega)))
      rw [w469]
      have e131 : (Xi S 963 ((i).toNat)) = Xi S 963 (i).toNat := by first | rfl | exact (hFU30.cx 963 rfl _).1
      refine l_iconst rfl ?_
      refine l_icmp_ne rfl rfl (by unfold rg; omega) (by unfold rg; omega) (fun w470 => ?_) (fun w471 => ?_)
      · refine l_aload_n rfl rfl ?_
        refine l_gfr rfl rfl rfl rfl rfl (hHU30.r 904 95 963 rfl) ?_
        refine l_iload_n rfl rfl ?_
        refine l_iaload (n := 1700) rfl rfl (by omega) (by omega) (by unfold rg; omega) ?_
        have w472 : (Xi U30 963 ((i).toNat)) = (Xi S 963 ((i).toNat)) := (show Xi U30 963 ((i).toNat) = Xi U29 963 ((i).toNat) from by rw [eU30]; exact Xi_ne (by omega)).trans ((show Xi U29 963 ((i).toNat) = Xi S 963 ((i).toNat) from by rw [eU29]; exact Xi_ne (by omega)))
        rw [w472]
        have e242 : (Xi S 963 ((i).toNat)) = Xi S 963 (i).toNat := by first | rfl | exact (hFU30.cx 963 rfl _).1
        refine l_iconst rfl ?_
        refine l_icmp_eq rfl rfl (by unfold rg; omega) (by unfold rg; omega) (fun w473 => ?_) (fun w474 => ?_)
        · have w475 : Xi U30 970 (q).toNat = Xi S 970 (q).toNat := (show Xi U30 970 (q).toNat = Xi U29 970 (q).toNat from by rw [eU30]; exact Xi_ne (by omega)).trans ((show Xi U29 970 (q).toNat = Xi S 970 (q).toNat from by rw [eU29]; exact Xi_ne (by omega)))
          have w476 : Xi U30 971 (q).toNat = Xi S 971 (q).toNat := (show Xi U30 971 (q).toNat = Xi U29 971 (q).toNat from by rw [eU30]; exact Xi_ne (by omega)).trans ((show Xi U29 971 (q).toNat = Xi S 971 (q).toNat from by rw [eU29]; exact Xi_ne (by omega)))
          have w477 : Xi U30 972 (q).toNat = Xi S 972 (q).toNat := (show Xi U30 972 (q).toNat = Xi U29 972 (q).toNat from by rw [eU30]; exact Xi_ne (by omega)).trans ((show Xi U29 972 (q).toNat = Xi S 972 (q).toNat from by rw [eU29]; exact Xi_ne (by omega)))
          have w478 : Xi U30 973 (q).toNat = Xi S 973 (q).toNat := (show Xi U30 973 (q).toNat = Xi U29 973 (q).toNat from by rw [eU30]; exact Xi_ne (by omega)).trans ((show Xi U29 973 (q).toNat = Xi S 973 (q).toNat from by rw [eU29]; exact Xi_ne (by omega)))
          have w479 : Xi U30 974 (q).toNat = Xi S 974 (q).toNat := (show Xi U30 974 (q).toNat = Xi U29 974 (q).toNat from by rw [eU30]; exact Xi_ne (by omega)).trans ((show Xi U29 974 (q).toNat = Xi S 974 (q).toNat from by rw [eU29]; exact Xi_ne (by omega)))
          have w480 : Xi U30 975 (q).toNat = Xi S 975 (q).toNat := (show Xi U30 975 (q).toNat = Xi U29 975 (q).toNat from by rw [eU30]; exact Xi_ne (by omega)).trans ((show Xi U29 975 (q).toNat = Xi S 975 (q).toNat from by rw [eU29]; exact Xi_ne (by omega)))
          have w481 : Xi U30 976 (p).toNat = Xi U29 976 (p).toNat := (show Xi U30 976 (p).toNat = Xi U29 976 (p).toNat from by rw [eU30]; exact Xi_ne (by omega))
          have w482 : Xi U30 904 106 = Xi S 904 106 := (show Xi U30 904 106 = Xi U29 904 106 from by rw [eU30]; exact Xi_ne (by omega)).trans ((show Xi U29 904 106 = Xi S 904 106 from by rw [eU29]; exact Xi_ne (by omega)))
          have w483 : 0 ≤ Xi S 904 106 ∧ Xi S 904 106 ≤ 9 := hH.c _ _
          have w484 : Xi U30 904 115 = Xi S 904 115 := (show Xi U30 904 115 = Xi U29 904 115 from by rw [eU30]; exact Xi_ne (by omega)).trans ((show Xi U29 904 115 = Xi S 904 115 from by rw [eU29]; exact Xi_ne (by omega)))
          have w485 : -1 ≤ Xi S 904 115 ∧ Xi S 904 115 ≤ 15 := hH.c _ _
          have w486 : Xi U30 904 128 = Xi S 904 128 := (show Xi U30 904 128 = Xi U29 904 128 from by rw [eU30]; exact Xi_ne (by omega)).trans ((show Xi U29 904 128 = Xi S 904 128 from by rw [eU29]; exact Xi_ne (by omega)))
          have w487 : 0 ≤ Xi S 904 128 ∧ Xi S 904 128 ≤ 11 := hH.c _ _
          have w488 : Xi U30 904 129 = Xi S 904 129 := (show Xi U30 904 129 = Xi U29 904 129 from by rw [eU30]; exact Xi_ne (by omega)).trans ((show Xi U29 904 129 = Xi S 904 129 from by rw [eU29]; exact Xi_ne (by omega)))
          have w489 : -1 ≤ Xi S 904 129 ∧ Xi S 904 129 ≤ 23 := hH.c _ _
          have w490 : Xi U30 904 69 = Xi S 904 69 := (show Xi U30 904 69 = Xi U29 904 69 from by rw [eU30]; exact Xi_ne (by omega)).trans ((show Xi U29 904 69 = Xi S 904 69 from by rw [eU29]; exact Xi_ne (by omega)))
          have w491 : 0 ≤ Xi S 904 69 ∧ Xi S 904 69 ≤ 2600 := hH.c _ _
          exact Rl_weak (C257 U30 hHU30 hFU30 ((Xi S 964 ((i).toNat))) (by omega) ((KQ.w (KQ.w KQ.rf eU29 (by omega)) eU30 (by omega))) ((by assumption : KH U30 _ _)) (by omega) (by omega) (by omega) (by omega) (by omega) (by omega) (by omega)) (And.intro rfl (And.intro rfl (And.intro rfl (True.intro))))
        · refine l_aload_n rfl rfl ?_
          refine l_gfr rfl rfl rfl rfl rfl (hHU30.r 904 95 963 rfl) ?_
          refine l_iload_n rfl rfl ?_
          refine l_iaload (n := 1700) rfl rfl (by omega) (by omega) (by unfold rg; omega) ?_
          have w492 : (Xi U30 963 ((i).toNat)) = (Xi S 963 ((i).toNat)) := (show Xi U30 963 ((i).toNat) = Xi U29 963 ((i).toNat) from by rw [eU30]; exact Xi_ne (by omega)).trans ((show Xi U29 963 ((i).toNat) = Xi S 963 ((i).toNat) from by rw [eU29]; exact Xi_ne (by omega)))
          rw [w492]
          have e252 : (Xi S 963 ((i).toNat)) = Xi S 963 (i).toNat := by first | rfl | exact (hFU30.cx 963 rfl _).1
          refine l_iconst rfl ?_
          refine l_icmp_ne rfl rfl (by unfold rg; omega) (by unfold rg; omega) (fun w493 => ?_) (fun w494 => ?_)
          · refine l_aload_n rfl rfl ?_
            refine l_gfr rfl rfl rfl rfl rfl (hHU30.r 904 95 963 rfl) ?_
            refine l_iload_n rfl rfl ?_
            refine l_iaload (n := 1700) rfl rfl (by omega) (by omega) (by unfold rg; omega) ?_
            have w495 : (Xi U30 963 ((i).toNat)) = (Xi S 963 ((i).toNat)) := (show Xi U30 963 ((i).toNat) = Xi U29 963 ((i).toNat) from by rw [eU30]; exact Xi_ne (by omega)).trans ((show Xi U29 963 ((i).toNat) = Xi S 963 ((i).toNat) from by rw [eU29]; exact Xi_ne (by omega)))
            rw [w495]
            have e342 : (Xi S 963 ((i).toNat)) = Xi S 963 (i).toNat := by first | rfl | exact (hFU30.cx 963 rfl _).1
            refine l_iconst rfl ?_
            refine l_icmp_ne rfl rfl (by unfold rg; omega) (by unfold rg; omega) (fun w496 => ?_) (fun w497 => ?_)
            · refine l_return rfl rfl ?_
              have w498 : Xi U30 970 (q).toNat = Xi S 970 (q).toNat := (show Xi U30 970 (q).toNat = Xi U29 970 (q).toNat from by rw [eU30]; exact Xi_ne (by omega)).trans ((show Xi U29 970 (q).toNat = Xi S 970 (q).toNat from by rw [eU29]; exact Xi_ne (by omega)))
              have w499 : Xi U30 971 (q).toNat = Xi S 971 (q).toNat := (show Xi U30 971 (q).toNat = Xi U29 971 (q).toNat from by rw [eU30]; exact Xi_ne (by omega)).trans ((show Xi U29 971 (q).toNat = Xi S 971 (q).toNat from by rw [eU29]; exact Xi_ne (by omega)))
              have w500 : Xi U30 972 (q).toNat = Xi S 972 (q).toNat := (show Xi U30 972 (q).toNat = Xi U29 972 (q).toNat from by rw [eU30]; exact Xi_ne (by omega)).trans ((show Xi U29 972 (q).toNat = Xi S 972 (q).toNat from by rw [eU29]; exact Xi_ne (by omega)))
              have w501 : Xi U30 973 (q).toNat = Xi S 973 (q).toNat := (show Xi U30 973 (q).toNat = Xi U29 973 (q).toNat from by rw [eU30]; exact Xi_ne (by omega)).trans ((show Xi U29 973 (q).toNat = Xi S 973 (q).toNat from by rw [eU29]; exact Xi_ne (by omega)))
              have w502 : Xi U30 974 (q).toNat = Xi S 974 (q).toNat := (show Xi U30 974 (q).toNat = Xi U29 974 (q).toNat from by rw [eU30]; exact Xi_ne (by omega)).trans ((show Xi U29 974 (q).toNat = Xi S 974 (q).toNat from by rw [eU29]; exact Xi_ne (by omega)))
              have w503 : Xi U30 975 (q).toNat = Xi S 975 (q).toNat := (show Xi U30 975 (q).toNat = Xi U29 975 (q).toNat from by rw [eU30]; exact Xi_ne (by omega)).trans ((show Xi U29 975 (q).toNat = Xi S 975 (q).toNat from by rw [eU29]; exact Xi_ne (by omega)))
              have w504 : Xi U30 976 (p).toNat = Xi U29 976 (p).toNat := (show Xi U30 976 (p).toNat = Xi U29 976 (p).toNat from by rw [eU30]; exact Xi_ne (by omega))
              have w505 : Xi U30 904 106 = Xi S 904 106 := (show Xi U30 904 106 = Xi U29 904 106 from by rw [eU30]; exact Xi_ne (by omega)).trans ((show Xi U29 904 106 = Xi S 904 106 from by rw [eU29]; exact Xi_ne (by omega)))
              have w506 : 0 ≤ Xi S 904 106 ∧ Xi S 904 106 ≤ 9 := hH.c _ _
              have w507 : Xi U30 904 115 = Xi S 904 115 := (show Xi U30 904 115 = Xi U29 904 115 from by rw [eU30]; exact Xi_ne (by omega)).trans ((show Xi U29 904 115 = Xi S 904 115 from by rw [eU29]; exact Xi_ne (by omega)))
              have w508 : -1 ≤ Xi S 904 115 ∧ Xi S 904 115 ≤ 15 := hH.c _ _
              have w509 : Xi U30 904 128 = Xi S 904 128 := (show Xi U30 904 128 = Xi U29 904 128 from by rw [eU30]; exact Xi_ne (by omega)).trans ((show Xi U29 904 128 = Xi S 904 128 from by rw [eU29]; exact Xi_ne (by omega)))
              have w510 : 0 ≤ Xi S 904 128 ∧ Xi S 904 128 ≤ 11 := hH.c _ _
              have w511 : Xi U30 904 129 = Xi S 904 129 := (show Xi U30 904 129 = Xi U29 904 129 from by rw [eU30]; exact Xi_ne (by omega)).trans ((show Xi U29 904 129 = Xi S 904 129 from by rw [eU29]; exact Xi_ne (by omega)))
              have w512 : -1 ≤ Xi S 904 129 ∧ Xi S 904 129 ≤ 23 := hH.c _ _
              have w513 : Xi U30 904 69 = Xi S 904 69 := (show Xi U30 904 69 = Xi U29 904 69 from by rw [eU30]; exact Xi_ne (by omega)).trans ((show Xi U29 904 69 = Xi S 904 69 from by rw [eU29]; exact Xi_ne (by omega)))
              have w514 : 0 ≤ Xi S 904 69 ∧ Xi S 904 69 ≤ 2600 := hH.c _ _
              exact ⟨hHU30, hFU30, rfl, (by omega), (by first | exact (fun _ q => pq_i (q := (q).toNat) (w := 0) (pqt_0 (by omega)) (by omega) (by omega) (by omega)) o42 | exact (fun _ q => pq_i (q := (q).toNat) (w := 1) (pqt_1 ⟨(t120 (by omega)).mono (fun y => absurd y (by omega)) (fun y => by omega), (n120 (by omega) rfl).1, (n120 (by omega) rfl).2⟩) (by omega) (by omega) (by omega)) t120 | exact (fun _ q => pq_i (q := (q).toNat) (w := 2) (pqt_2 (thk_c (H210 (by omega)) (hFU30.x 904 19 rfl) (by omega)) (thk_c (th230 (by omega)) (hFU30.x 904 19 rfl) (by omega))) (by omega) (by omega) (by omega)) th230 | exact (fun _ q => pq_i (q := (q).toNat) (w := Xi U30 976 (p).toNat) (pqt_3 (by omega) (thk_c (th277 (by omega)) (hFU30.x 904 19 rfl) (by omega)) (by have a := hFU30.x 904 32 rfl; omega) (by rw [(hFU30.cx 928 rfl _).1, show Xi U30 972 (q).toNat = rnR S (Xi S 956 (Xi S 964 (i).toNat).toNat) 7 from by have t := p300 (by omega); omega]; have t := n312 (by omega); omega)) (by omega) (by omega) (by omega)) th277 | exact (fun _ q => pq_i (q := (q).toNat) (w := 5) (pqt_5 (by have a := hFU30.x 904 49 rfl; have t := (Z537 (by omega)).1; omega) (fun y => (by by_cases c : Xi S 953 (Xi S 964 (i).toNat).toNat = 0; exact Or.inl (by have t := (Z537 (by omega)).2.1 c (by omega); have a := hFU30.x 904 19 rfl; omega); exact thk_c (Y537 (by omega) c) (hFU30.x 904 19 rfl) (by omega))) (fun y => by rw [(hFU30.cx 942 rfl _).1, show Xi U30 972 (q).toNat = Xi S 972 (q).toNat by omega]; exact (Z537 (by omega)).2.2 (by omega) (by omega))) (by omega) (by omega) (by omega)) Z537 | exact fun x => pq_i (q := (q).toNat) (w := 6) pqt_6 (by omega) (by omega) (by omega) | exact fun x => absurd x (by omega)), ((KQ.w (KQ.w KQ.rf eU29 (by omega)) eU30 (by omega))), ((by assumption : KH U30 _ _)), (by omega)⟩
            · refine l_aload_n rfl rfl ?_
              refine l_gfr rfl rfl rfl rfl rfl (hHU30.r 904 86 956 rfl) ?_
              refine l_iload rfl rfl ?_
              refine l_iaload (n := 1700) rfl rfl (by omega) (by omega) (by unfold rg; omega) ?_
              have w515 : 0 ≤ (Xi U30 956 (((Xi S 964 ((i).toNat))).toNat)) ∧ (Xi U30 956 (((Xi S 964 ((i).toNat))).toNat)) ≤ 2600 := hHU30.c _ _
              have e353 : (Xi U30 956 (((Xi S 964 ((i).toNat))).toNat)) = Xi S 956 (Xi S 964 (i).toNat).toNat := by first | rfl | exact (hFU30.cx 956 rfl _).1 | exact (hFU29.cx 956 rfl _).1 | exact (hFS.cx 956 rfl _).1 | (rw [(hFU30.cx 956 rfl _).1]; exact congrArg (fun t : Int => Xi S 956 t.toNat) (by omega)) | (rw [(hFU29.cx 956 rfl _).1]; exact congrArg (fun t : Int => Xi S 956 t.toNat) (by omega)) | (rw [(hFS.cx 956 rfl _).1]; exact congrArg (fun t : Int => Xi S 956 t.toNat) (by omega))
              have r353 := hp.2.2.2.2.1 (by omega)
              have g353 := hrf (Xi S 956 (Xi S 964 (i).toNat).toNat) (by omega) r353
              refine l_istore rfl rfl rfl ?_
              refine l_aload_n rfl rfl ?_
              refine l_gfr rfl rfl rfl rfl rfl (hHU30.r 904 83 953 rfl) ?_
              refine l_iload rfl rfl ?_
              refine l_baload (n := 1700) rfl rfl rfl (by decide) (by omega) (by omega) (by unfold rg; omega) ?_
              have w516 : 0 ≤ (Xi U30 953 (((Xi S 964 ((i).toNat))).toNat)) ∧ (Xi U30 953 (((Xi S 964 ((i).toNat))).toNat)) ≤ 1 := hHU30.c _ _
              have e362 : (Xi U30 953 (((Xi S 964 ((i).toNat))).toNat)) = Xi S 953 (Xi S 964 (i).toNat).toNat := by first | rfl | exact (hFU30.cx 953 rfl _).1 | exact (hFU29.cx 953 rfl _).1 | exact (hFS.cx 953 rfl _).1 | (rw [(hFU30.cx 953 rfl _).1]; exact congrArg (fun t : Int => Xi S 953 t.toNat) (by omega)) | (rw [(hFU29.cx 953 rfl _).1]; exact congrArg (fun t : Int => Xi S 953 t.toNat) (by omega)) | (rw [(hFS.cx 953 rfl _).1]; exact congrArg (fun t : Int => Xi S 953 t.toNat) (by omega))
              refine l_if_eq rfl rfl (by unfold rg; omega) (fun w517 => ?_) (fun w518 => ?_)
              · refine l_aload_n rfl rfl ?_
                refine l_iload rfl rfl ?_
                refine l_iconst rfl ?_
                have w519 : Xi U30 904 106 = Xi S 904 106 := (show Xi U30 904 106 = Xi U29 904 106 from by rw [eU30]; exact Xi_ne (by omega)).trans ((show Xi U29 904 106 = Xi S 904 106 from by rw [eU29]; exact Xi_ne (by omega)))
                have w520 : 0 ≤ Xi S 904 106 ∧ Xi S 904 106 ≤ 9 := hH.c _ _
                have w521 : Xi U30 904 115 = Xi S 904 115 := (show Xi U30 904 115 = Xi U29 904 115 from by rw [eU30]; exact Xi_ne (by omega)).trans ((show Xi U29 904 115 = Xi S 904 115 from by rw [eU29]; exact Xi_ne (by omega)))
                have w522 : -1 ≤ Xi S 904 115 ∧ Xi S 904 115 ≤ 15 := hH.c _ _
                have w523 : Xi U30 904 128 = Xi S 904 128 := (show Xi U30 904 128 = Xi U29 904 128 from by rw [eU30]; exact Xi_ne (by omega)).trans ((show Xi U29 904 128 = Xi S 904 128 from by rw [eU29]; exact Xi_ne (by omega)))
                have w524 : 0 ≤ Xi S 904 128 ∧ Xi S 904 128 ≤ 11 := hH.c _ _
                have w525 : Xi U30 904 129 = Xi S 904 129 := (show Xi U30 904 129 = Xi U29 904 129 from by rw [eU30]; exact Xi_ne (by omega)).trans ((show Xi U29 904 129 = Xi S 904 129 from by rw [eU29]; exact Xi_ne (by omega)))
                have w526 : -1 ≤ Xi S 904 129 ∧ Xi S 904 129 ≤ 23 := hH.c _ _
                have w527 : Xi U30 904 19 = Xi S 904 19 := (show Xi U30 904 19 = Xi U29 904 19 from by rw [eU30]; exact Xi_ne (by omega)).trans ((show Xi U29 904 19 = Xi S 904 19 from by rw [eU29]; exact Xi_ne (by omega)))
                have w528 : 0 ≤ Xi S 904 19 ∧ Xi S 904 19 ≤ 24 := hH.c _ _
                have w529 : Xi U30 904 49 = Xi S 904 49 := (show Xi U30 904 49 = Xi U29 904 49 from by rw [eU30]; exact Xi_ne (by omega)).trans ((show Xi U29 904 49 = Xi S 904 49 from by rw [eU29]; exact Xi_ne (by omega)))
                have w530 : 0 ≤ Xi S 904 49 ∧ Xi S 904 49 ≤ 12 := hH.c _ _
                have w531 : Xi U30 904 69 = Xi S 904 69 := (show Xi U30 904 69 = Xi U29 904 69 from by rw [eU30]; exact Xi_ne (by omega)).trans ((show Xi U29 904 69 = Xi S 904 69 from by rw [eU29]; exact Xi_ne (by omega)))
                have w532 : 0 ≤ Xi S 904 69 ∧ Xi S 904 69 ≤ 2600 := hH.c _ _
                refine l_callV rfl rfl rfl (t_mo_actings hHU30 n (Xi U30 956 (((Xi S 964 ((i).toNat))).toNat)) 1 ⟨by omega, by omega⟩ ⟨by omega, by omega⟩ (by first | assumption | exact (TK_FR hFU30 rfl (by assumption : TK S _))) (by first | assumption | exact (RNV_FR hFU30 rfl (by assumption : RNV S _))) (by first | assumption | omega) (by first | assumption | exact (LXM_FR hFU30 rfl (by assumption : LXM S))) (by first | assumption | exact (ABV_FR hFU30 rfl (by assumption : ABV S))) _) ?_
                rintro _ T31 ⟨hHT31, w535, z534, rfl, w534, w533⟩
                have hFT31 : FR md_mo_phraseMeant S T31 := FR.tr hFU30 w535 rfl
                show Rl _ _ _ _ _ [iv z534] _ _
                have A448 : 1 ≤ z534 → (0 ≤ Xi T31 904 128 ∧ Xi T31 904 128 < Xi S 904 49) ∧ Xi T31 904 129 < Xi S 904 19 ∧ (Xi T31 904 129 = -1 → Xi S 942 (Xi T31 904 128).toNat < 0) := fun x => by have t := (by assumption : 1 ≤ z534 → _) x; rw [hFU30.x 904 49 rfl, hFU30.x 904 19 rfl, (hFU30.cx 942 rfl _).1] at t; exact ⟨t.1, t.2.1, fun y => t.2.2.2 (by decide) y⟩
                refine l_istore rfl rfl rfl ?_
                refine l_aload_n rfl rfl ?_
                refine l_iload rfl rfl ?_
                refine l_if_le rfl rfl (by unfold rg; omega) (fun w536 => ?_) (fun w537 => ?_)
                · refine l_iconst rfl ?_
                  refine l_iconst rfl ?_
                  refine l_aload_n rfl rfl ?_
                  refine l_gfr rfl rfl rfl rfl rfl (hHT31.r 904 67 950 rfl) ?_
                  refine l_iload rfl rfl ?_
                  refine l_iaload (n := 2600) rfl rfl (by omega) (by omega) (by unfold rg; omega) ?_
                  have w538 : 0 ≤ (Xi T31 950 (((Xi U30 956 (((Xi S 964 ((i).toNat))).toNat))).toNat)) ∧ (Xi T31 950 (((Xi U30 956 (((Xi S 964 ((i).toNat))).toNat))).toNat)) ≤ 5010 := hHT31.c _ _
                  have e471 : (Xi T31 950 (((Xi U30 956 (((Xi S 964 ((i).toNat))).toNat))).toNat)) = Xi S 950 (Xi S 956 (Xi S 964 (i).toNat).toNat).toNat := by rw [(hFT31.cx 950 rfl _).1, e353]
                  have w539 : Xi T31 904 106 = Xi S 904 106 := (show Xi T31 904 106 = Xi U30 904 106 from w535.x _ _ rfl).trans ( (show Xi U30 904 106 = Xi U29 904 106 from by rw [eU30]; exact Xi_ne (by omega)).trans ((show Xi U29 904 106 = Xi S 904 106 from by rw [eU29]; exact Xi_ne (by omega))))
                  have w540 : 0 ≤ Xi S 904 106 ∧ Xi S 904 106 ≤ 9 := hH.c _ _
                  have w541 : Xi T31 904 115 = Xi S 904 115 := (show Xi T31 904 115 = Xi U30 904 115 from w535.x _ _ rfl).trans ( (show Xi U30 904 115 = Xi U29 904 115 from by rw [eU30]; exact Xi_ne (by omega)).trans ((show Xi U29 904 115 = Xi S 904 115 from by rw [eU29]; exact Xi_ne (by omega))))
                  have w542 : -1 ≤ Xi S 904 115 ∧ Xi S 904 115 ≤ 15 := hH.c _ _
                  have w543 : 0 ≤ Xi T31 904 128 ∧ Xi T31 904 128 ≤ 11 := hHT31.c _ _
                  have w544 : -1 ≤ Xi T31 904 129 ∧ Xi T31 904 129 ≤ 23 := hHT31.c _ _
                  have w545 : Xi T31 904 69 = Xi S 904 69 := (show Xi T31 904 69 = Xi U30 904 69 from w535.x _ _ rfl).trans ( (show Xi U30 904 69 = Xi U29 904 69 from by rw [eU30]; exact Xi_ne (by omega)).trans ((show Xi U29 904 69 = Xi S 904 69 from by rw [eU29]; exact Xi_ne (by omega))))
                  have w546 : 0 ≤ Xi S 904 69 ∧ Xi S 904 69 ≤ 2600 := hH.c _ _
                  refine l_callV rfl rfl rfl (t_mo_need hHT31 0 4 (Xi T31 950 (((Xi U30 956 (((Xi S 964 ((i).toNat))).toNat))).toNat)) ⟨by omega, by omega⟩ ⟨by omega, by omega⟩ ⟨by omega, by omega⟩ _) ?_
                  rintro _ T32 ⟨hHT32, w550, rfl, w547, w548⟩
                  have hFT32 : FR md_mo_phraseMeant S T32 := FR.tr hFT31 w550 rfl
                  show Rl _ _ _ _ _ [] _ _
                  have w551 : Xi T32 970 (q).toNat = Xi S 970 (q).toNat := (show Xi T32 970 (q).toNat = Xi T31 970 (q).toNat from (w550.cx 970 rfl _).1).trans ( (show Xi T31 970 (q).toNat = Xi U30 970 (q).toNat from (w535.cx 970 rfl _).1).trans ( (show Xi U30 970 (q).toNat = Xi U29 970 (q).toNat from by rw [eU30]; exact Xi_ne (by omega)).trans ((show Xi U29 970 (q).toNat = Xi S 970 (q).toNat from by rw [eU29]; exact Xi_ne (by omega)))))
                  have w552 : Xi T32 971 (q).toNat = Xi S 971 (q).toNat := (show Xi T32 971 (q).toNat = Xi T31 971 (q).toNat from (w550.cx 971 rfl _).1).trans ( (show Xi T31 971 (q).toNat = Xi U30 971 (q).toNat from (w535.cx 971 rfl _).1).trans ( (show Xi U30 971 (q).toNat = Xi U29 971 (q).toNat from by rw [eU30]; exact Xi_ne (by omega)).trans ((show Xi U29 971 (q).toNat = Xi S 971 (q).toNat from by rw [eU29]; exact Xi_ne (by omega)))))
                  have w553 : Xi T32 972 (q).toNat = Xi S 972 (q).toNat := (show Xi T32 972 (q).toNat = Xi T31 972 (q).toNat from (w550.cx 972 rfl _).1).trans ( (show Xi T31 972 (q).toNat = Xi U30 972 (q).toNat from (w535.cx 972 rfl _).1).trans ( (show Xi U30 972 (q).toNat = Xi U29 972 (q).toNat from by rw [eU30]; exact Xi_ne (by omega)).trans ((show Xi U29 972 (q).toNat = Xi S 972 (q).toNat from by rw [eU29]; exact Xi_ne (by omega)))))
                  have w554 : Xi T32 973 (q).toNat = Xi S 973 (q).toNat := (show Xi T32 973 (q).toNat = Xi T31 973 (q).toNat from (w550.cx 973 rfl _).1).trans ( (show Xi T31 973 (q).toNat = Xi U30 973 (q).toNat from (w535.cx 973 rfl _).1).trans ( (show Xi U30 973 (q).toNat = Xi U29 973 (q).toNat from by rw [eU30]; exact Xi_ne (by omega)).trans ((show Xi U29 973 (q).toNat = Xi S 973 (q).toNat from by rw [eU29]; exact Xi_ne (by omega)))))
                  have w555 : Xi T32 974 (q).toNat = Xi S 974 (q).toNat := (show Xi T32 974 (q).toNat = Xi T31 974 (q).toNat from (w550.cx 974 rfl _).1).trans ( (show Xi T31 974 (q).toNat = Xi U30 974 (q).toNat from (w535.cx 974 rfl _).1).trans ( (show Xi U30 974 (q).toNat = Xi U29 974 (q).toNat from by rw [eU30]; exact Xi_ne (by omega)).trans ((show Xi U29 974 (q).toNat = Xi S 974 (q).toNat from by rw [eU29]; exact Xi_ne (by omega)))))
                  have w556 : Xi T32 975 (q).toNat = Xi S 975 (q).toNat := (show Xi T32 975 (q).toNat = Xi T31 975 (q).toNat from (w550.cx 975 rfl _).1).trans ( (show Xi T31 975 (q).toNat = Xi U30 975 (q).toNat from (w535.cx 975 rfl _).1).trans ( (show Xi U30 975 (q).toNat = Xi U29 975 (q).toNat from by rw [eU30]; exact Xi_ne (by omega)).trans ((show Xi U29 975 (q).toNat = Xi S 975 (q).toNat from by rw [eU29]; exact Xi_ne (by omega)))))
                  have w557 : Xi T32 976 (p).toNat = Xi U29 976 (p).toNat := (show Xi T32 976 (p).toNat = Xi T31 976 (p).toNat from (w550.cx 976 rfl _).1).trans ( (show Xi T31 976 (p).toNat = Xi U30 976 (p).toNat from (w535.cx 976 rfl _).1).trans ((show Xi U30 976 (p).toNat = Xi U29 976 (p).toNat from by rw [eU30]; exact Xi_ne (by omega))))
                  have w558 : Xi T32 977 (p).toNat = Xi U30 977 (p).toNat := (show Xi T32 977 (p).toNat = Xi T31 977 (p).toNat from (w550.cx 977 rfl _).1).trans ((show Xi T31 977 (p).toNat = Xi U30 977 (p).toNat from (w535.cx 977 rfl _).1))
                  have w559 : 0 ≤ Xi T32 904 106 ∧ Xi T32 904 106 ≤ 9 := hHT32.c _ _
                  have w560 : Xi T32 904 115 = Xi S 904 115 := (show Xi T32 904 115 = Xi T31 904 115 from w550.x _ _ rfl).trans ( (show Xi T31 904 115 = Xi U30 904 115 from w535.x _ _ rfl).trans ( (show Xi U30 904 115 = Xi U29 904 115 from by rw [eU30]; exact Xi_ne (by omega)).trans ((show Xi U29 904 115 = Xi S 904 115 from by rw [eU29]; exact Xi_ne (by omega)))))
                  have w561 : -1 ≤ Xi S 904 115 ∧ Xi S 904 115 ≤ 15 := hH.c _ _
                  have w562 : Xi T32 904 128 = Xi T31 904 128 := (show Xi T32 904 128 = Xi T31 904 128 from w550.x _ _ rfl)
                  have w563 : 0 ≤ Xi T31 904 128 ∧ Xi T31 904 128 ≤ 11 := hHT31.c _ _
                  have w564 : Xi T32 904 129 = Xi T31 904 129 := (show Xi T32 904 129 = Xi T31 904 129 from w550.x _ _ rfl)
                  have w565 : -1 ≤ Xi T31 904 129 ∧ Xi T31 904 129 ≤ 23 := hHT31.c _ _
                  have w566 : Xi T32 904 69 = Xi S 904 69 := (show Xi T32 904 69 = Xi T31 904 69 from w550.x _ _ rfl).trans ( (show Xi T31 904 69 = Xi U30 904 69 from w535.x _ _ rfl).trans ( (show Xi U30 904 69 = Xi U29 904 69 from by rw [eU30]; exact Xi_ne (by omega)).trans ((show Xi U29 904 69 = Xi S 904 69 from by rw [eU29]; exact Xi_ne (by omega)))))
                  have w567 : 0 ≤ Xi S 904 69 ∧ Xi S 904 69 ≤ 2600 := hH.c _ _
                  exact Rl_weak (C475 T32 hHT32 hFT32 ((Xi S 964 ((i).toNat))) ((Xi U30 956 (((Xi S 964 ((i).toNat))).toNat))) (z534) (by omega) (by omega) (by omega) ((KQ_FR w550 rfl (KQ_FR w535 rfl (KQ.w (KQ.w KQ.rf eU29 (by omega)) eU30 (by omega))))) ((KH_FR w550 rfl (KH_FR w535 rfl (by assumption : KH U30 _ _)))) (by omega) (by omega) (by omega) (by omega) (by omega) (by omega) (by omega) (by omega) (by omega) (by omega) (fun x => by rw [show Xi T32 904 128 = Xi T31 904 128 by omega, show Xi T32 904 129 = Xi T31 904 129 by omega]; exact A448 x)) (And.intro rfl (And.intro rfl (And.intro rfl (And.intro rfl (And.intro rfl (True.intro))))))
                · refine l_iconst rfl ?_
                  refine l_goto rfl rfl ?_
                  refine l_iconst rfl ?_
                  refine l_aload_n rfl rfl ?_
                  refine l_gfr rfl rfl rfl rfl rfl (hHT31.r 904 67 950 rfl) ?_
                  refine l_iload rfl rfl ?_
                  refine l_iaload (n := 2600) rfl rfl (by omega) (by omega) (by unfold rg; omega) ?_
                  have w568 : 0 ≤ (Xi T31 950 (((Xi U30 956 (((Xi S 964 ((i).toNat))).toNat))).toNat)) ∧ (Xi T31 950 (((Xi U30 956 (((Xi S 964 ((i).toNat))).toNat))).toNat)) ≤ 5010 := hHT31.c _ _
                  have e471 : (Xi T31 950 (((Xi U30 956 (((Xi S 964 ((i).toNat))).toNat))).toNat)) = Xi S 950 (Xi S 956 (Xi S 964 (i).toNat).toNat).toNat := by rw [(hFT31.cx 950 rfl _).1, e353]
                  have w569 : Xi T31 904 106 = Xi S 904 106 := (show Xi T31 904 106 = Xi U30 904 106 from w535.x _ _ rfl).trans ( (show Xi U30 904 106 = Xi U29 904 106 from by rw [eU30]; exact Xi_ne (by omega)).trans ((show Xi U29 904 106 = Xi S 904 106 from by rw [eU29]; exact Xi_ne (by omega))))
                  have w570 : 0 ≤ Xi S 904 106 ∧ Xi S 904 106 ≤ 9 := hH.c _ _
                  have w571 : Xi T31 904 115 = Xi S 904 115 := (show Xi T31 904 115 = Xi U30 904 115 from w535.x _ _ rfl).trans ( (show Xi U30 904 115 = Xi U29 904 115 from by rw [eU30]; exact Xi_ne (by omega)).trans ((show Xi U29 904 115 = Xi S 904 115 from by rw [eU29]; exact Xi_ne (by omega))))
                  have w572 : -1 ≤ Xi S 904 115 ∧ Xi S 904 115 ≤ 15 := hH.c _ _
                  have w573 : 0 ≤ Xi T31 904 128 ∧ Xi T31 904 128 ≤ 11 := hHT31.c _ _
                  have w574 : -1 ≤ Xi T31 904 129 ∧ Xi T31 904 129 ≤ 23 := hHT31.c _ _
                  have w575 : Xi T31 904 69 = Xi S 904 69 := (show Xi T31 904 69 = Xi U30 904 69 from w535.x _ _ rfl).trans ( (show Xi U30 904 69 = Xi U29 904 69 from by rw [eU30]; exact Xi_ne (by omega)).trans ((show Xi U29 904 69 = Xi S 904 69 from by rw [eU29]; exact Xi_ne (by omega))))
                  have w576 : 0 ≤ Xi S 904 69 ∧ Xi S 904 69 ≤ 2600 := hH.c _ _
                  refine l_callV rfl rfl rfl (t_mo_need hHT31 1 4 (Xi T31 950 (((Xi U30 956 (((Xi S 964 ((i).toNat))).toNat))).toNat)) ⟨by omega, by omega⟩ ⟨by omega, by omega⟩ ⟨by omega, by omega⟩ _) ?_
                  rintro _ T33 ⟨hHT33, w580, rfl, w577, w578⟩
                  have hFT33 : FR md_mo_phraseMeant S T33 := FR.tr hFT31 w580 rfl
                  show Rl _ _ _ _ _ [] _ _
                  have w581 : Xi T33 970 (q).toNat = Xi S 970 (q).toNat := (show Xi T33 970 (q).toNat = Xi T31 970 (q).toNat from (w580.cx 970 rfl _).1).trans ( (show Xi T31 970 (q).toNat = Xi U30 970 (q).toNat from (w535.cx 970 rfl _).1).trans ( (show Xi U30 970 (q).toNat = Xi U29 970 (q).toNat from by rw [eU30]; exact Xi_ne (by omega)).trans ((show Xi U29 970 (q).toNat = Xi S 970 (q).toNat from by rw [eU29]; exact Xi_ne (by omega)))))
                  have w582 : Xi T33 971 (q).toNat = Xi S 971 (q).toNat := (show Xi T33 971 (q).toNat = Xi T31 971 (q).toNat from (w580.cx 971 rfl _).1).trans ( (show Xi T31 971 (q).toNat = Xi U30 971 (q).toNat from (w535.cx 971 rfl _).1).trans ( (show Xi U30 971 (q).toNat = Xi U29 971 (q).toNat from by rw [eU30]; exact Xi_ne (by omega)).trans ((show Xi U29 971 (q).toNat = Xi S 971 (q).toNat from by rw [eU29]; exact Xi_ne (by omega)))))
                  have w583 : Xi T33 972 (q).toNat = Xi S 972 (q).toNat := (show Xi T33 972 (q).toNat = Xi T31 972 (q).toNat from (w580.cx 972 rfl _).1).trans ( (show Xi T31 972 (q).toNat = Xi U30 972 (q).toNat from (w535.cx 972 rfl _).1).trans ( (show Xi U30 972 (q).toNat = Xi U29 972 (q).toNat from by rw [eU30]; exact Xi_ne (by omega)).trans ((show Xi U29 972 (q).toNat = Xi S 972 (q).toNat from by rw [eU29]; exact Xi_ne (by omega)))))
                  have w584 : Xi T33 973 (q).toNat = Xi S 973 (q).toNat := (show Xi T33 973 (q).toNat = Xi T31 973 (q).toNat from (w580.cx 973 rfl _).1).trans ( (show Xi T31 973 (q).toNat = Xi U30 973 (q).toNat from (w535.cx 973 rfl _).1).trans ( (show Xi U30 973 (q).toNat = Xi U29 973 (q).toNat from by rw [eU30]; exact Xi_ne (by omega)).trans ((show Xi U29 973 (q).toNat = Xi S 973 (q).toNat from by rw [eU29]; exact Xi_ne (by omega)))))
                  have w585 : Xi T33 974 (q).toNat = Xi S 974 (q).toNat := (show Xi T33 974 (q).toNat = Xi T31 974 (q).toNat from (w580.cx 974 rfl _).1).trans ( (show Xi T31 974 (q).toNat = Xi U30 974 (q).toNat from (w535.cx 974 rfl _).1).trans ( (show Xi U30 974 (q).toNat = Xi U29 974 (q).toNat from by rw [eU30]; exact Xi_ne (by omega)).trans ((show Xi U29 974 (q).toNat = Xi S 974 (q).toNat from by rw [eU29]; exact Xi_ne (by omega)))))
                  have w586 : Xi T33 975 (q).toNat = Xi S 975 (q).toNat := (show Xi T33 975 (q).toNat = Xi T31 975 (q).toNat from (w580.cx 975 rfl _).1).trans ( (show Xi T31 975 (q).toNat = Xi U30 975 (q).toNat from (w535.cx 975 rfl _).1).trans ( (show Xi U30 975 (q).toNat = Xi U29 975 (q).toNat from by rw [eU30]; exact Xi_ne (by omega)).trans ((show Xi U29 975 (q).toNat = Xi S 975 (q).toNat from by rw [eU29]; exact Xi_ne (by omega)))))
                  have w587 : Xi T33 976 (p).toNat = Xi U29 976 (p).toNat := (show Xi T33 976 (p).toNat = Xi T31 976 (p).toNat from (w580.cx 976 rfl _).1).trans ( (show Xi T31 976 (p).toNat = Xi U30 976 (p).toNat from (w535.cx 976 rfl _).1).trans ((show Xi U30 976 (p).toNat = Xi U29 976 (p).toNat from by rw [eU30]; exact Xi_ne (by omega))))
                  have w588 : Xi T33 977 (p).toNat = Xi U30 977 (p).toNat := (show Xi T33 977 (p).toNat = Xi T31 977 (p).toNat from (w580.cx 977 rfl _).1).trans ((show Xi T31 977 (p).toNat = Xi U30 977 (p).toNat from (w535.cx 977 rfl _).1))
                  have w589 : 0 ≤ Xi T33 904 106 ∧ Xi T33 904 106 ≤ 9 := hHT33.c _ _
                  have w590 : Xi T33 904 115 = Xi S 904 115 := (show Xi T33 904 115 = Xi T31 904 115 from w580.x _ _ rfl).trans ( (show Xi T31 904 115 = Xi U30 904 115 from w535.x _ _ rfl).trans ( (show Xi U30 904 115 = Xi U29 904 115 from by rw [eU30]; exact Xi_ne (by omega)).trans ((show Xi U29 904 115 = Xi S 904 115 from by rw [eU29]; exact Xi_ne (by omega)))))
                  have w591 : -1 ≤ Xi S 904 115 ∧ Xi S 904 115 ≤ 15 := hH.c _ _
                  have w592 : Xi T33 904 128 = Xi T31 904 128 := (show Xi T33 904 128 = Xi T31 904 128 from w580.x _ _ rfl)
                  have w593 : 0 ≤ Xi T31 904 128 ∧ Xi T31 904 128 ≤ 11 := hHT31.c _ _
                  have w594 : Xi T33 904 129 = Xi T31 904 129 := (show Xi T33 904 129 = Xi T31 904 129 from w580.x _ _ rfl)
                  have w595 : -1 ≤ Xi T31 904 129 ∧ Xi T31 904 129 ≤ 23 := hHT31.c _ _
                  have w596 : Xi T33 904 69 = Xi S 904 69 := (show Xi T33 904 69 = Xi T31 904 69 from w580.x _ _ rfl).trans ( (show Xi T31 904 69 = Xi U30 904 69 from w535.x _ _ rfl).trans ( (show Xi U30 904 69 = Xi U29 904 69 from by rw [eU30]; exact Xi_ne (by omega)).trans ((show Xi U29 904 69 = Xi S 904 69 from by rw [eU29]; exact Xi_ne (by omega)))))
                  have w597 : 0 ≤ Xi S 904 69 ∧ Xi S 904 69 ≤ 2600 := hH.c _ _
                  exact Rl_weak (C475 T33 hHT33 hFT33 ((Xi S 964 ((i).toNat))) ((Xi U30 956 (((Xi S 964 ((i).toNat))).toNat))) (z534) (by omega) (by omega) (by omega) ((KQ_FR w580 rfl (KQ_FR w535 rfl (KQ.w (KQ.w KQ.rf eU29 (by omega)) eU30 (by omega))))) ((KH_FR w580 rfl (KH_FR w535 rfl (by assumption : KH U30 _ _)))) (by omega) (by omega) (by omega) (by omega) (by omega) (by omega) (by omega) (by omega) (by omega) (by omega) (fun x => by rw [show Xi T33 904 128 = Xi T31 904 128 by omega, show Xi T33 904 129 = Xi T31 904 129 by omega]; exact A448 x)) (And.intro rfl (And.intro rfl (And.intro rfl (And.intro rfl (And.intro rfl (True.intro))))))
              · refine l_aload_n rfl rfl ?_
                refine l_iload rfl rfl ?_
                refine l_bipush rfl rfl ?_
                have w598 : Xi U30 904 106 = Xi S 904 106 := (show Xi U30 904 106 = Xi U29 904 106 from by rw [eU30]; exact Xi_ne (by omega)).trans ((show Xi U29 904 106 = Xi S 904 106 from by rw [eU29]; exact Xi_ne (by omega)))
                have w599 : 0 ≤ Xi S 904 106 ∧ Xi S 904 106 ≤ 9 := hH.c _ _
                have w600 : Xi U30 904 115 = Xi S 904 115 := (show Xi U30 904 115 = Xi U29 904 115 from by rw [eU30]; exact Xi_ne (by omega)).trans ((show Xi U29 904 115 = Xi S 904 115 from by rw [eU29]; exact Xi_ne (by omega)))
                have w601 : -1 ≤ Xi S 904 115 ∧ Xi S 904 115 ≤ 15 := hH.c _ _
                have w602 : Xi U30 904 128 = Xi S 904 128 := (show Xi U30 904 128 = Xi U29 904 128 from by rw [eU30]; exact Xi_ne (by omega)).trans ((show Xi U29 904 128 = Xi S 904 128 from by rw [eU29]; exact Xi_ne (by omega)))
                have w603 : 0 ≤ Xi S 904 128 ∧ Xi S 904 128 ≤ 11 := hH.c _ _
                have w604 : Xi U30 904 129 = Xi S 904 129 := (show Xi U30 904 129 = Xi U29 904 129 from by rw [eU30]; exact Xi_ne (by omega)).trans ((show Xi U29 904 129 = Xi S 904 129 from by rw [eU29]; exact Xi_ne (by omega)))
                have w605 : -1 ≤ Xi S 904 129 ∧ Xi S 904 129 ≤ 23 := hH.c _ _
                have w606 : Xi U30 904 69 = Xi S 904 69 := (show Xi U30 904 69 = Xi U29 904 69 from by rw [eU30]; exact Xi_ne (by omega)).trans ((show Xi U29 904 69 = Xi S 904 69 from by rw [eU29]; exact Xi_ne (by omega)))
                have w607 : 0 ≤ Xi S 904 69 ∧ Xi S 904 69 ≤ 2600 := hH.c _ _
                refine l_callV rfl rfl rfl (t_mo_meansRun__2 hHU30 n (Xi U30 956 (((Xi S 964 ((i).toNat))).toNat)) 11 ⟨by omega, by omega⟩ ⟨by omega, by omega⟩ (by first | assumption | exact (TK_FR hFU30 rfl (by assumption : TK S _))) (by first | assumption | exact (RNV_FR hFU30 rfl (by assumption : RNV S _))) (by first | assumption | omega) (by first | assumption | exact (LXM_FR hFU30 rfl (by assumption : LXM S))) _) ?_
                rintro _ _ ⟨rfl, z610, rfl, w610, w608, w609⟩
                show Rl _ _ _ _ _ [iv z610] _ _
                have x371 : z610 ≠ -1 → z610 < Xi S 904 49 := fun q => by have t := (by assumption : z610 ≠ -1 → z610 < cM U30 11) q; rw [cM11, hFU30.x 904 49 rfl] at t; exact t
                refine l_istore rfl rfl rfl ?_
                refine l_aload_n rfl rfl ?_
                refine l_iload rfl rfl ?_
                refine l_iconst rfl ?_
                refine l_icmp_eq rfl rfl (by unfold rg; omega) (by unfold rg; omega) (fun w611 => ?_) (fun w612 => ?_)
                · refine l_iconst rfl ?_
                  refine l_iconst rfl ?_
                  refine l_aload_n rfl rfl ?_
                  refine l_gfr rfl rfl rfl rfl rfl (hHU30.r 904 67 950 rfl) ?_
                  refine l_iload rfl rfl ?_
                  refine l_iaload (n := 2600) rfl rfl (by omega) (by omega) (by unfold rg; omega) ?_
                  have w613 : 0 ≤ (Xi U30 950 (((Xi U30 956 (((Xi S 964 ((i).toNat))).toNat))).toNat)) ∧ (Xi U30 950 (((Xi U30 956 (((Xi S 964 ((i).toNat))).toNat))).toNat)) ≤ 5010 := hHU30.c _ _
                  have e405 : (Xi U30 950 (((Xi U30 956 (((Xi S 964 ((i).toNat))).toNat))).toNat)) = Xi S 950 (Xi S 956 (Xi S 964 (i).toNat).toNat).toNat := by rw [(hFU30.cx 950 rfl _).1, e353]
                  have w614 : Xi U30 904 106 = Xi S 904 106 := (show Xi U30 904 106 = Xi U29 904 106 from by rw [eU30]; exact Xi_ne (by omega)).trans ((show Xi U29 904 106 = Xi S 904 106 from by rw [eU29]; exact Xi_ne (by omega)))
                  have w615 : 0 ≤ Xi S 904 106 ∧ Xi S 904 106 ≤ 9 := hH.c _ _
                  have w616 : Xi U30 904 115 = Xi S 904 115 := (show Xi U30 904 115 = Xi U29 904 115 from by rw [eU30]; exact Xi_ne (by omega)).trans ((show Xi U29 904 115 = Xi S 904 115 from by rw [eU29]; exact Xi_ne (by omega)))
                  have w617 : -1 ≤ Xi S 904 115 ∧ Xi S 904 115 ≤ 15 := hH.c _ _
                  have w618 : Xi U30 904 128 = Xi S 904 128 := (show Xi U30 904 128 = Xi U29 904 128 from by rw [eU30]; exact Xi_ne (by omega)).trans ((show Xi U29 904 128 = Xi S 904 128 from by rw [eU29]; exact Xi_ne (by omega)))
                  have w619 : 0 ≤ Xi S 904 128 ∧ Xi S 904 128 ≤ 11 := hH.c _ _
                  have w620 : Xi U30 904 129 = Xi S 904 129 := (show Xi U30 904 129 = Xi U29 904 129 from by rw [eU30]; exact Xi_ne (by omega)).trans ((show Xi U29 904 129 = Xi S 904 129 from by rw [eU29]; exact Xi_ne (by omega)))
                  have w621 : -1 ≤ Xi S 904 129 ∧ Xi S 904 129 ≤ 23 := hH.c _ _
                  have w622 : Xi U30 904 69 = Xi S 904 69 := (show Xi U30 904 69 = Xi U29 904 69 from by rw [eU30]; exact Xi_ne (by omega)).trans ((show Xi U29 904 69 = Xi S 904 69 from by rw [eU29]; exact Xi_ne (by omega)))
                  have w623 : 0 ≤ Xi S 904 69 ∧ Xi S 904 69 ≤ 2600 := hH.c _ _
                  refine l_callV rfl rfl rfl (t_mo_need hHU30 0 4 (Xi U30 950 (((Xi U30 956 (((Xi S 964 ((i).toNat))).toNat))).toNat)) ⟨by omega, by omega⟩ ⟨by omega, by omega⟩ ⟨by omega, by omega⟩ _) ?_
                  rintro _ T34 ⟨hHT34, w627, rfl, w624, w625⟩
                  have hFT34 : FR md_mo_phraseMeant S T34 := FR.tr hFU30 w627 rfl
                  show Rl _ _ _ _ _ [] _ _
                  have w628 : Xi T34 970 (q).toNat = Xi S 970 (q).toNat := (show Xi T34 970 (q).toNat = Xi U30 970 (q).toNat from (w627.cx 970 rfl _).1).trans ( (show Xi U30 970 (q).toNat = Xi U29 970 (q).toNat from by rw [eU30]; exact Xi_ne (by omega)).trans ((show Xi U29 970 (q).toNat = Xi S 970 (q).toNat from by rw [eU29]; exact Xi_ne (by omega))))
                  have w629 : Xi T34 971 (q).toNat = Xi S 971 (q).toNat := (show Xi T34 971 (q).toNat = Xi U30 971 (q).toNat from (w627.cx 971 rfl _).1).trans ( (show Xi U30 971 (q).toNat = Xi U29 971 (q).toNat from by rw [eU30]; exact Xi_ne (by omega)).trans ((show Xi U29 971 (q).toNat = Xi S 971 (q).toNat from by rw [eU29]; exact Xi_ne (by omega))))
                  have w630 : Xi T34 972 (q).toNat = Xi S 972 (q).toNat := (show Xi T34 972 (q).toNat = Xi U30 972 (q).toNat from (w627.cx 972 rfl _).1).trans ( (show Xi U30 972 (q).toNat = Xi U29 972 (q).toNat from by rw [eU30]; exact Xi_ne (by omega)).trans ((show Xi U29 972 (q).toNat = Xi S 972 (q).toNat from by rw [eU29]; exact Xi_ne (by omega))))
                  have w631 : Xi T34 973 (q).toNat = Xi S 973 (q).toNat := (show Xi T34 973 (q).toNat = Xi U30 973 (q).toNat from (w627.cx 973 rfl _).1).trans ( (show Xi U30 973 (q).toNat = Xi U29 973 (q).toNat from by rw [eU30]; exact Xi_ne (by omega)).trans ((show Xi U29 973 (q).toNat = Xi S 973 (q).toNat from by rw [eU29]; exact Xi_ne (by omega))))
                  have w632 : Xi T34 974 (q).toNat = Xi S 974 (q).toNat := (show Xi T34 974 (q).toNat = Xi U30 974 (q).toNat from (w627.cx 974 rfl _).1).trans ( (show Xi U30 974 (q).toNat = Xi U29 974 (q).toNat from by rw [eU30]; exact Xi_ne (by omega)).trans ((show Xi U29 974 (q).toNat = Xi S 974 (q).toNat from by rw [eU29]; exact Xi_ne (by omega))))
                  have w633 : Xi T34 975 (q).toNat = Xi S 975 (q).toNat := (show Xi T34 975 (q).toNat = Xi U30 975 (q).toNat from (w627.cx 975 rfl _).1).trans ( (show Xi U30 975 (q).toNat = Xi U29 975 (q).toNat from by rw [eU30]; exact Xi_ne (by omega)).trans ((show Xi U29 975 (q).toNat = Xi S 975 (q).toNat from by rw [eU29]; exact Xi_ne (by omega))))
                  have w634 : Xi T34 976 (p).toNat = Xi U29 976 (p).toNat := (show Xi T34 976 (p).toNat = Xi U30 976 (p).toNat from (w627.cx 976 rfl _).1).trans ((show Xi U30 976 (p).toNat = Xi U29 976 (p).toNat from by rw [eU30]; exact Xi_ne (by omega)))
                  have w635 : Xi T34 977 (p).toNat = Xi U30 977 (p).toNat := (show Xi T34 977 (p).toNat = Xi U30 977 (p).toNat from (w627.cx 977 rfl _).1)
                  have w636 : 0 ≤ Xi T34 904 106 ∧ Xi T34 904 106 ≤ 9 := hHT34.c _ _
                  have w637 : Xi T34 904 115 = Xi S 904 115 := (show Xi T34 904 115 = Xi U30 904 115 from w627.x _ _ rfl).trans ( (show Xi U30 904 115 = Xi U29 904 115 from by rw [eU30]; exact Xi_ne (by omega)).trans ((show Xi U29 904 115 = Xi S 904 115 from by rw [eU29]; exact Xi_ne (by omega))))
                  have w638 : -1 ≤ Xi S 904 115 ∧ Xi S 904 115 ≤ 15 := hH.c _ _
                  have w639 : Xi T34 904 128 = Xi S 904 128 := (show Xi T34 904 128 = Xi U30 904 128 from w627.x _ _ rfl).trans ( (show Xi U30 904 128 = Xi U29 904 128 from by rw [eU30]; exact Xi_ne (by omega)).trans ((show Xi U29 904 128 = Xi S 904 128 from by rw [eU29]; exact Xi_ne (by omega))))
                  have w640 : 0 ≤ Xi S 904 128 ∧ Xi S 904 128 ≤ 11 := hH.c _ _
                  have w641 : Xi T34 904 129 = Xi S 904 129 := (show Xi T34 904 129 = Xi U30 904 129 from w627.x _ _ rfl).trans ( (show Xi U30 904 129 = Xi U29 904 129 from by rw [eU30]; exact Xi_ne (by omega)).trans ((show Xi U29 904 129 = Xi S 904 129 from by rw [eU29]; exact Xi_ne (by omega))))
                  have w642 : -1 ≤ Xi S 904 129 ∧ Xi S 904 129 ≤ 23 := hH.c _ _
                  have w643 : Xi T34 904 69 = Xi S 904 69 := (show Xi T34 904 69 = Xi U30 904 69 from w627.x _ _ rfl).trans ( (show Xi U30 904 69 = Xi U29 904 69 from by rw [eU30]; exact Xi_ne (by omega)).trans ((show Xi U29 904 69 = Xi S 904 69 from by rw [eU29]; exact Xi_ne (by omega))))
                  have w644 : 0 ≤ Xi S 904 69 ∧ Xi S 904 69 ≤ 2600 := hH.c _ _
                  exact Rl_weak (C409 T34 hHT34 hFT34 ((Xi S 964 ((i).toNat))) (z610) (by omega) (by omega) ((KQ_FR w627 rfl (KQ.w (KQ.w KQ.rf eU29 (by omega)) eU30 (by omega)))) ((KH_FR w627 rfl (by assumption : KH U30 _ _))) (by omega) (by omega) (by omega) (by omega) (by omega) (by omega) (by omega) (by omega) (by omega) (by omega)) (And.intro rfl (And.intro rfl (And.intro rfl (And.intro rfl (True.intro)))))
                · refine l_aload_n rfl rfl ?_
                  refine l_gfr rfl rfl rfl rfl rfl (hHU30.r 904 50 942 rfl) ?_
                  refine l_iload rfl rfl ?_
                  refine l_iaload (n := 12) rfl rfl (by omega) (by omega) (by unfold rg; omega) ?_
                  have w645 : -2 ≤ (Xi U30 942 ((z610).toNat)) ∧ (Xi U30 942 ((z610).toNat)) ≤ 15 := hHU30.c _ _
                  have e389 : (Xi U30 942 ((z610).toNat)) = Xi S 942 (z610).toNat := by first | rfl | exact (hFU30.cx 942 rfl _).1
                  refine l_if_lt rfl rfl (by unfold rg; omega) (fun w646 => ?_) (fun w647 => ?_)
                  · refine l_iconst rfl ?_
                    refine l_iconst rfl ?_
                    refine l_aload_n rfl rfl ?_
                    refine l_gfr rfl rfl rfl rfl rfl (hHU30.r 904 67 950 rfl) ?_
                    refine l_iload rfl rfl ?_
                    refine l_iaload (n := 2600) rfl rfl (by omega) (by omega) (by unfold rg; omega) ?_
                    have w648 : 0 ≤ (Xi U30 950 (((Xi U30 956 (((Xi S 964 ((i).toNat))).toNat))).toNat)) ∧ (Xi U30 950 (((Xi U30 956 (((Xi S 964 ((i).toNat))).toNat))).toNat)) ≤ 5010 := hHU30.c _ _
                    have e405 : (Xi U30 950 (((Xi U30 956 (((Xi S 964 ((i).toNat))).toNat))).toNat)) = Xi S 950 (Xi S 956 (Xi S 964 (i).toNat).toNat).toNat := by rw [(hFU30.cx 950 rfl _).1, e353]
                    have w649 : Xi U30 904 106 = Xi S 904 106 := (show Xi U30 904 106 = Xi U29 904 106 from by rw [eU30]; exact Xi_ne (by omega)).trans ((show Xi U29 904 106 = Xi S 904 106 from by rw [eU29]; exact Xi_ne (by omega)))
                    have w650 : 0 ≤ Xi S 904 106 ∧ Xi S 904 106 ≤ 9 := hH.c _ _
                    have w651 : Xi U30 904 115 = Xi S 904 115 := (show Xi U30 904 115 = Xi U29 904 115 from by rw [eU30]; exact Xi_ne (by omega)).trans ((show Xi U29 904 115 = Xi S 904 115 from by rw [eU29]; exact Xi_ne (by omega)))
                    have w652 : -1 ≤ Xi S 904 115 ∧ Xi S 904 115 ≤ 15 := hH.c _ _
                    have w653 : Xi U30 904 128 = Xi S 904 128 := (show Xi U30 904 128 = Xi U29 904 128 from by rw [eU30]; exact Xi_ne (by omega)).trans ((show Xi U29 904 128 = Xi S 904 128 from by rw [eU29]; exact Xi_ne (by omega)))
                    have w654 : 0 ≤ Xi S 904 128 ∧ Xi S 904 128 ≤ 11 := hH.c _ _
                    have w655 : Xi U30 904 129 = Xi S 904 129 := (show Xi U30 904 129 = Xi U29 904 129 from by rw [eU30]; exact Xi_ne (by omega)).trans ((show Xi U29 904 129 = Xi S 904 129 from by rw [eU29]; exact Xi_ne (by omega)))
                    have w656 : -1 ≤ Xi S 904 129 ∧ Xi S 904 129 ≤ 23 := hH.c _ _
                    have w657 : Xi U30 904 69 = Xi S 904 69 := (show Xi U30 904 69 = Xi U29 904 69 from by rw [eU30]; exact Xi_ne (by omega)).trans ((show Xi U29 904 69 = Xi S 904 69 from by rw [eU29]; exact Xi_ne (by omega)))
                    have w658 : 0 ≤ Xi S 904 69 ∧ Xi S 904 69 ≤ 2600 := hH.c _ _
                    refine l_callV rfl rfl rfl (t_mo_need hHU30 0 4 (Xi U30 950 (((Xi U30 956 (((Xi S 964 ((i).toNat))).toNat))).toNat)) ⟨by omega, by omega⟩ ⟨by omega, by omega⟩ ⟨by omega, by omega⟩ _) ?_
                    rintro _ T35 ⟨hHT35, w662, rfl, w659, w660⟩
                    have hFT35 : FR md_mo_phraseMeant S T35 := FR.tr hFU30 w662 rfl
                    show Rl _ _ _ _ _ [] _ _
                    have w663 : Xi T35 970 (q).toNat = Xi S 970 (q).toNat := (show Xi T35 970 (q).toNat = Xi U30 970 (q).toNat from (w662.cx 970 rfl _).1).trans ( (show Xi U30 970 (q).toNat = Xi U29 970 (q).toNat from by rw [eU30]; exact Xi_ne (by omega)).trans ((show Xi U29 970 (q).toNat = Xi S 970 (q).toNat from by rw [eU29]; exact Xi_ne (by omega))))
                    have w664 : Xi T35 971 (q).toNat = Xi S 971 (q).toNat := (show Xi T35 971 (q).toNat = Xi U30 971 (q).toNat from (w662.cx 971 rfl _).1).trans ( (show Xi U30 971 (q).toNat = Xi U29 971 (q).toNat from by rw [eU30]; exact Xi_ne (by omega)).trans ((show Xi U29 971 (q).toNat = Xi S 971 (q).toNat from by rw [eU29]; exact Xi_ne (by omega))))
                    have w665 : Xi T35 972 (q).toNat = Xi S 972 (q).toNat := (show Xi T35 972 (q).toNat = Xi U30 972 (q).toNat from (w662.cx 972 rfl _).1).trans ( (show Xi U30 972 (q).toNat = Xi U29 972 (q).toNat from by rw [eU30]; exact Xi_ne (by omega)).trans ((show Xi U29 972 (q).toNat = Xi S 972 (q).toNat from by rw [eU29]; exact Xi_ne (by omega))))
                    have w666 : Xi T35 973 (q).toNat = Xi S 973 (q).toNat := (show Xi T35 973 (q).toNat = Xi U30 973 (q).toNat from (w662.cx 973 rfl _).1).trans ( (show Xi U30 973 (q).toNat = Xi U29 973 (q).toNat from by rw [eU30]; exact Xi_ne (by omega)).trans ((show Xi U29 973 (q).toNat = Xi S 973 (q).toNat from by rw [eU29]; exact Xi_ne (by omega))))
                    have w667 : Xi T35 974 (q).toNat = Xi S 974 (q).toNat := (show Xi T35 974 (q).toNat = Xi U30 974 (q).toNat from (w662.cx 974 rfl _).1).trans ( (show Xi U30 974 (q).toNat = Xi U29 974 (q).toNat from by rw [eU30]; exact Xi_ne (by omega)).trans ((show Xi U29 974 (q).toNat = Xi S 974 (q).toNat from by rw [eU29]; exact Xi_ne (by omega))))
                    have w668 : Xi T35 975 (q).toNat = Xi S 975 (q).toNat := (show Xi T35 975 (q).toNat = Xi U30 975 (q).toNat from (w662.cx 975 rfl _).1).trans ( (show Xi U30 975 (q).toNat = Xi U29 975 (q).toNat from by rw [eU30]; exact Xi_ne (by omega)).trans ((show Xi U29 975 (q).toNat = Xi S 975 (q).toNat from by rw [eU29]; exact Xi_ne (by omega))))
                    have w669 : Xi T35 976 (p).toNat = Xi U29 976 (p).toNat := (show Xi T35 976 (p).toNat = Xi U30 976 (p).toNat from (w662.cx 976 rfl _).1).trans ((show Xi U30 976 (p).toNat = Xi U29 976 (p).toNat from by rw [eU30]; exact Xi_ne (by omega)))
                    have w670 : Xi T35 977 (p).toNat = Xi U30 977 (p).toNat := (show Xi T35 977 (p).toNat = Xi U30 977 (p).toNat from (w662.cx 977 rfl _).1)
                    have w671 : 0 ≤ Xi T35 904 106 ∧ Xi T35 904 106 ≤ 9 := hHT35.c _ _
                    have w672 : Xi T35 904 115 = Xi S 904 115 := (show Xi T35 904 115 = Xi U30 904 115 from w662.x _ _ rfl).trans ( (show Xi U30 904 115 = Xi U29 904 115 from by rw [eU30]; exact Xi_ne (by omega)).trans ((show Xi U29 904 115 = Xi S 904 115 from by rw [eU29]; exact Xi_ne (by omega))))
                    have w673 : -1 ≤ Xi S 904 115 ∧ Xi S 904 115 ≤ 15 := hH.c _ _
                    have w674 : Xi T35 904 128 = Xi S 904 128 := (show Xi T35 904 128 = Xi U30 904 128 from w662.x _ _ rfl).trans ( (show Xi U30 904 128 = Xi U29 904 128 from by rw [eU30]; exact Xi_ne (by omega)).trans ((show Xi U29 904 128 = Xi S 904 128 from by rw [eU29]; exact Xi_ne (by omega))))
                    have w675 : 0 ≤ Xi S 904 128 ∧ Xi S 904 128 ≤ 11 := hH.c _ _
                    have w676 : Xi T35 904 129 = Xi S 904 129 := (show Xi T35 904 129 = Xi U30 904 129 from w662.x _ _ rfl).trans ( (show Xi U30 904 129 = Xi U29 904 129 from by rw [eU30]; exact Xi_ne (by omega)).trans ((show Xi U29 904 129 = Xi S 904 129 from by rw [eU29]; exact Xi_ne (by omega))))
                    have w677 : -1 ≤ Xi S 904 129 ∧ Xi S 904 129 ≤ 23 := hH.c _ _
                    have w678 : Xi T35 904 69 = Xi S 904 69 := (show Xi T35 904 69 = Xi U30 904 69 from w662.x _ _ rfl).trans ( (show Xi U30 904 69 = Xi U29 904 69 from by rw [eU30]; exact Xi_ne (by omega)).trans ((show Xi U29 904 69 = Xi S 904 69 from by rw [eU29]; exact Xi_ne (by omega))))
                    have w679 : 0 ≤ Xi S 904 69 ∧ Xi S 904 69 ≤ 2600 := hH.c _ _
                    exact Rl_weak (C409 T35 hHT35 hFT35 ((Xi S 964 ((i).toNat))) (z610) (by omega) (by omega) ((KQ_FR w662 rfl (KQ.w (KQ.w KQ.rf eU29 (by omega)) eU30 (by omega)))) ((KH_FR w662 rfl (by assumption : KH U30 _ _))) (by omega) (by omega) (by omega) (by omega) (by omega) (by omega) (by omega) (by omega) (by omega) (by omega)) (And.intro rfl (And.intro rfl (And.intro rfl (And.intro rfl (True.intro)))))
                  · refine l_iconst rfl ?_
                    refine l_goto rfl rfl ?_
                    refine l_iconst rfl ?_
                    refine l_aload_n rfl rfl ?_
                    refine l_gfr rfl rfl rfl rfl rfl (hHU30.r 904 67 950 rfl) ?_
                    refine l_iload rfl rfl ?_
                    refine l_iaload (n := 2600) rfl rfl (by omega) (by omega) (by unfold rg; omega) ?_
                    have w680 : 0 ≤ (Xi U30 950 (((Xi U30 956 (((Xi S 964 ((i).toNat))).toNat))).toNat)) ∧ (Xi U30 950 (((Xi U30 956 (((Xi S 964 ((i).toNat))).toNat))).toNat)) ≤ 5010 := hHU30.c _ _
                    have e405 : (Xi U30 950 (((Xi U30 956 (((Xi S 964 ((i).toNat))).toNat))).toNat)) = Xi S 950 (Xi S 956 (Xi S 964 (i).toNat).toNat).toNat := by rw [(hFU30.cx 950 rfl _).1, e353]
                    have w681 : Xi U30 904 106 = Xi S 904 106 := (show Xi U30 904 106 = Xi U29 904 106 from by rw [eU30]; exact Xi_ne (by omega)).trans ((show Xi U29 904 106 = Xi S 904 106 from by rw [eU29]; exact Xi_ne (by omega)))
                    have w682 : 0 ≤ Xi S 904 106 ∧ Xi S 904 106 ≤ 9 := hH.c _ _
                    have w683 : Xi U30 904 115 = Xi S 904 115 := (show Xi U30 904 115 = Xi U29 904 115 from by rw [eU30]; exact Xi_ne (by omega)).trans ((show Xi U29 904 115 = Xi S 904 115 from by rw [eU29]; exact Xi_ne (by omega)))
                    have w684 : -1 ≤ Xi S 904 115 ∧ Xi S 904 115 ≤ 15 := hH.c _ _
                    have w685 : Xi U30 904 128 = Xi S 904 128 := (show Xi U30 904 128 = Xi U29 904 128 from by rw [eU30]; exact Xi_ne (by omega)).trans ((show Xi U29 904 128 = Xi S 904 128 from by rw [eU29]; exact Xi_ne (by omega)))
                    have w686 : 0 ≤ Xi S 904 128 ∧ Xi S 904 128 ≤ 11 := hH.c _ _
                    have w687 : Xi U30 904 129 = Xi S 904 129 := (show Xi U30 904 129 = Xi U29 904 129 from by rw [eU30]; exact Xi_ne (by omega)).trans ((show Xi U29 904 129 = Xi S 904 129 from by rw [eU29]; exact Xi_ne (by omega)))
                    have w688 : -1 ≤ Xi S 904 129 ∧ Xi S 904 129 ≤ 23 := hH.c _ _
                    have w689 : Xi U30 904 69 = Xi S 904 69 := (show Xi U30 904 69 = Xi U29 904 69 from by rw [eU30]; exact Xi_ne (by omega)).trans ((show Xi U29 904 69 = Xi S 904 69 from by rw [eU29]; exact Xi_ne (by omega)))
                    have w690 : 0 ≤ Xi S 904 69 ∧ Xi S 904 69 ≤ 2600 := hH.c _ _
                    refine l_callV rfl rfl rfl (t_mo_need hHU30 1 4 (Xi U30 950 (((Xi U30 956 (((Xi S 964 ((i).toNat))).toNat))).toNat)) ⟨by omega, by omega⟩ ⟨by omega, by omega⟩ ⟨by omega, by omega⟩ _) ?_
                    rintro _ T36 ⟨hHT36, w694, rfl, w691, w692⟩
                    have hFT36 : FR md_mo_phraseMeant S T36 := FR.tr hFU30 w694 rfl
                    show Rl _ _ _ _ _ [] _ _
                    have w695 : Xi T36 970 (q).toNat = Xi S 970 (q).toNat := (show Xi T36 970 (q).toNat = Xi U30 970 (q).toNat from (w694.cx 970 rfl _).1).trans ( (show Xi U30 970 (q).toNat = Xi U29 970 (q).toNat from by rw [eU30]; exact Xi_ne (by omega)).trans ((show Xi U29 970 (q).toNat = Xi S 970 (q).toNat from by rw [eU29]; exact Xi_ne (by omega))))
                    have w696 : Xi T36 971 (q).toNat = Xi S 971 (q).toNat := (show Xi T36 971 (q).toNat = Xi U30 971 (q).toNat from (w694.cx 971 rfl _).1).trans ( (show Xi U30 971 (q).toNat = Xi U29 971 (q).toNat from by rw [eU30]; exact Xi_ne (by omega)).trans ((show Xi U29 971 (q).toNat = Xi S 971 (q).toNat from by rw [eU29]; exact Xi_ne (by omega))))
                    have w697 : Xi T36 972 (q).toNat = Xi S 972 (q).toNat := (show Xi T36 972 (q).toNat = Xi U30 972 (q).toNat from (w694.cx 972 rfl _).1).trans ( (show Xi U30 972 (q).toNat = Xi U29 972 (q).toNat from by rw [eU30]; exact Xi_ne (by omega)).trans ((show Xi U29 972 (q).toNat = Xi S 972 (q).toNat from by rw [eU29]; exact Xi_ne (by omega))))
                    have w698 : Xi T36 973 (q).toNat = Xi S 973 (q).toNat := (show Xi T36 973 (q).toNat = Xi U30 973 (q).toNat from (w694.cx 973 rfl _).1).trans ( (show Xi U30 973 (q).toNat = Xi U29 973 (q).toNat from by rw [eU30]; exact Xi_ne (by omega)).trans ((show Xi U29 973 (q).toNat = Xi S 973 (q).toNat from by rw [eU29]; exact Xi_ne (by omega))))
                    have w699 : Xi T36 974 (q).toNat = Xi S 974 (q).toNat := (show Xi T36 974 (q).toNat = Xi U30 974 (q).toNat from (w694.cx 974 rfl _).1).trans ( (show Xi U30 974 (q).toNat = Xi U29 974 (q).toNat from by rw [eU30]; exact Xi_ne (by omega)).trans ((show Xi U29 974 (q).toNat = Xi S 974 (q).toNat from by rw [eU29]; exact Xi_ne (by omega))))
                    have w700 : Xi T36 975 (q).toNat = Xi S 975 (q).toNat := (show Xi T36 975 (q).toNat = Xi U30 975 (q).toNat from (w694.cx 975 rfl _).1).trans ( (show Xi U30 975 (q).toNat = Xi U29 975 (q).toNat from by rw [eU30]; exact Xi_ne (by omega)).trans ((show Xi U29 975 (q).toNat = Xi S 975 (q).toNat from by rw [eU29]; exact Xi_ne (by omega))))
                    have w701 : Xi T36 976 (p).toNat = Xi U29 976 (p).toNat := (show Xi T36 976 (p).toNat = Xi U30 976 (p).toNat from (w694.cx 976 rfl _).1).trans ((show Xi U30 976 (p).toNat = Xi U29 976 (p).toNat from by rw [eU30]; exact Xi_ne (by omega)))
                    have w702 : Xi T36 977 (p).toNat = Xi U30 977 (p).toNat := (show Xi T36 977 (p).toNat = Xi U30 977 (p).toNat from (w694.cx 977 rfl _).1)
                    have w703 : 0 ≤ Xi T36 904 106 ∧ Xi T36 904 106 ≤ 9 := hHT36.c _ _
                    have w704 : Xi T36 904 115 = Xi S 904 115 := (show Xi T36 904 115 = Xi U30 904 115 from w694.x _ _ rfl).trans ( (show Xi U30 904 115 = Xi U29 904 115 from by rw [eU30]; exact Xi_ne (by omega)).trans ((show Xi U29 904 115 = Xi S 904 115 from by rw [eU29]; exact Xi_ne (by omega))))
                    have w705 : -1 ≤ Xi S 904 115 ∧ Xi S 904 115 ≤ 15 := hH.c _ _
                    have w706 : Xi T36 904 128 = Xi S 904 128 := (show Xi T36 904 128 = Xi U30 904 128 from w694.x _ _ rfl).trans ( (show Xi U30 904 128 = Xi U29 904 128 from by rw [eU30]; exact Xi_ne (by omega)).trans ((show Xi U29 904 128 = Xi S 904 128 from by rw [eU29]; exact Xi_ne (by omega))))
                    have w707 : 0 ≤ Xi S 904 128 ∧ Xi S 904 128 ≤ 11 := hH.c _ _
                    have w708 : Xi T36 904 129 = Xi S 904 129 := (show Xi T36 904 129 = Xi U30 904 129 from w694.x _ _ rfl).trans ( (show Xi U30 904 129 = Xi U29 904 129 from by rw [eU30]; exact Xi_ne (by omega)).trans ((show Xi U29 904 129 = Xi S 904 129 from by rw [eU29]; exact Xi_ne (by omega))))
                    have w709 : -1 ≤ Xi S 904 129 ∧ Xi S 904 129 ≤ 23 := hH.c _ _
                    have w710 : Xi T36 904 69 = Xi S 904 69 := (show Xi T36 904 69 = Xi U30 904 69 from w694.x _ _ rfl).trans ( (show Xi U30 904 69 = Xi U29 904 69 from by rw [eU30]; exact Xi_ne (by omega)).trans ((show Xi U29 904 69 = Xi S 904 69 from by rw [eU29]; exact Xi_ne (by omega))))
                    have w711 : 0 ≤ Xi S 904 69 ∧ Xi S 904 69 ≤ 2600 := hH.c _ _
                    exact Rl_weak (C409 T36 hHT36 hFT36 ((Xi S 964 ((i).toNat))) (z610) (by omega) (by omega) ((KQ_FR w694 rfl (KQ.w (KQ.w KQ.rf eU29 (by omega)) eU30 (by omega)))) ((KH_FR w694 rfl (by assumption : KH U30 _ _))) (by omega) (by omega) (by omega) (by omega) (by omega) (by omega) (by omega) (by omega) (by omega) (by omega)) (And.intro rfl (And.intro rfl (And.intro rfl (And.intro rfl (True.intro)))))
          · have w712 : Xi U30 970 (q).toNat = Xi S 970 (q).toNat := (show Xi U30 970 (q).toNat = Xi U29 970 (q).toNat from by rw [eU30]; exact Xi_ne (by omega)).trans ((show Xi U29 970 (q).toNat = Xi S 970 (q).toNat from by rw [eU29]; exact Xi_ne (by omega)))
            have w713 : Xi U30 971 (q).toNat = Xi S 971 (q).toNat := (show Xi U30 971 (q).toNat = Xi U29 971 (q).toNat from by rw [eU30]; exact Xi_ne (by omega)).trans ((show Xi U29 971 (q).toNat = Xi S 971 (q).toNat from by rw [eU29]; exact Xi_ne (by omega)))
            have w714 : Xi U30 972 (q).toNat = Xi S 972 (q).toNat := (show Xi U30 972 (q).toNat = Xi U29 972 (q).toNat from by rw [eU30]; exact Xi_ne (by omega)).trans ((show Xi U29 972 (q).toNat = Xi S 972 (q).toNat from by rw [eU29]; exact Xi_ne (by omega)))
            have w715 : Xi U30 973 (q).toNat = Xi S 973 (q).toNat := (show Xi U30 973 (q).toNat = Xi U29 973 (q).toNat from by rw [eU30]; exact Xi_ne (by omega)).trans ((show Xi U29 973 (q).toNat = Xi S 973 (q).toNat from by rw [eU29]; exact Xi_ne (by omega)))
            have w716 : Xi U30 974 (q).toNat = Xi S 974 (q).toNat := (show Xi U30 974 (q).toNat = Xi U29 974 (q).toNat from by rw [eU30]; exact Xi_ne (by omega)).trans ((show Xi U29 974 (q).toNat = Xi S 974 (q).toNat from by rw [eU29]; exact Xi_ne (by omega)))
            have w717 : Xi U30 975 (q).toNat = Xi S 975 (q).toNat := (show Xi U30 975 (q).toNat = Xi U29 975 (q).toNat from by rw [eU30]; exact Xi_ne (by omega)).trans ((show Xi U29 975 (q).toNat = Xi S 975 (q).toNat from by rw [eU29]; exact Xi_ne (by omega)))
            have w718 : Xi U30 976 (p).toNat = Xi U29 976 (p).toNat := (show Xi U30 976 (p).toNat = Xi U29 976 (p).toNat from by rw [eU30]; exact Xi_ne (by omega))
            have w719 : Xi U30 904 106 = Xi S 904 106 := (show Xi U30 904 106 = Xi U29 904 106 from by rw [eU30]; exact Xi_ne (by omega)).trans ((show Xi U29 904 106 = Xi S 904 106 from by rw [eU29]; exact Xi_ne (by omega)))
            have w720 : 0 ≤ Xi S 904 106 ∧ Xi S 904 106 ≤ 9 := hH.c _ _
            have w721 : Xi U30 904 115 = Xi S 904 115 := (show Xi U30 904 115 = Xi U29 904 115 from by rw [eU30]; exact Xi_ne (by omega)).trans ((show Xi U29 904 115 = Xi S 904 115 from by rw [eU29]; exact Xi_ne (by omega)))
            have w722 : -1 ≤ Xi S 904 115 ∧ Xi S 904 115 ≤ 15 := hH.c _ _
            have w723 : Xi U30 904 128 = Xi S 904 128 := (show Xi U30 904 128 = Xi U29 904 128 from by rw [eU30]; exact Xi_ne (by omega)).trans ((show Xi U29 904 128 = Xi S 904 128 from by rw [eU29]; exact Xi_ne (by omega)))
            have w724 : 0 ≤ Xi S 904 128 ∧ Xi S 904 128 ≤ 11 := hH.c _ _
            have w725 : Xi U30 904 129 = Xi S 904 129 := (show Xi U30 904 129 = Xi U29 904 129 from by rw [eU30]; exact Xi_ne (by omega)).trans ((show Xi U29 904 129 = Xi S 904 129 from by rw [eU29]; exact Xi_ne (by omega)))
            have w726 : -1 ≤ Xi S 904 129 ∧ Xi S 904 129 ≤ 23 := hH.c _ _
            have w727 : Xi U30 904 69 = Xi S 904 69 := (show Xi U30 904 69 = Xi U29 904 69 from by rw [eU30]; exact Xi_ne (by omega)).trans ((show Xi U29 904 69 = Xi S 904 69 from by rw [eU29]; exact Xi_ne (by omega)))
            have w728 : 0 ≤ Xi S 904 69 ∧ Xi S 904 69 ≤ 2600 := hH.c _ _
            exact Rl_weak (C257 U30 hHU30 hFU30 ((Xi S 964 ((i).toNat))) (by omega) ((KQ.w (KQ.w KQ.rf eU29 (by omega)) eU30 (by omega))) ((by assumption : KH U30 _ _)) (by omega) (by omega) (by omega) (by omega) (by omega) (by omega) (by omega)) (And.intro rfl (And.intro rfl (And.intro rfl (True.intro))))
      · refine l_aload_n rfl rfl ?_
        refine l_gfr rfl rfl rfl rfl rfl (hHU30.r 904 120 971 rfl) ?_
        refine l_iload_n rfl rfl ?_
        refine l_aload_n rfl rfl ?_
        refine l_aload_n rfl rfl ?_
        refine l_gfr rfl rfl rfl rfl rfl (hHU30.r 904 84 954 rfl) ?_
        refine l_iload rfl rfl ?_
        refine l_iaload (n := 1700) rfl rfl (by omega) (by omega) (by unfold rg; omega) ?_
        have w729 : 0 ≤ (Xi U30 954 (((Xi S 964 ((i).toNat))).toNat)) ∧ (Xi U30 954 (((Xi S 964 ((i).toNat))).toNat)) ≤ 25010 := hHU30.c _ _
        have e148 : (Xi U30 954 (((Xi S 964 ((i).toNat))).toNat)) = Xi S 954 (Xi S 964 (i).toNat).toNat := by first | rfl | exact (hFU30.cx 954 rfl _).1 | exact (hFU29.cx 954 rfl _).1 | exact (hFS.cx 954 rfl _).1 | (rw [(hFU30.cx 954 rfl _).1]; exact congrArg (fun t : Int => Xi S 954 t.toNat) (by omega)) | (rw [(hFU29.cx 954 rfl _).1]; exact congrArg (fun t : Int => Xi S 954 t.toNat) (by omega)) | (rw [(hFS.cx 954 rfl _).1]; exact congrArg (fun t : Int => Xi S 954 t.toNat) (by omega))
        refine l_aload_n rfl rfl ?_
        refine l_gfr rfl rfl rfl rfl rfl (hHU30.r 904 85 955 rfl) ?_
        refine l_iload rfl rfl ?_
        refine l_iaload (n := 1700) rfl rfl (by omega) (by omega) (by unfold rg; omega) ?_
        have w730 : 0 ≤ (Xi U30 955 (((Xi S 964 ((i).toNat))).toNat)) ∧ (Xi U30 955 (((Xi S 964 ((i).toNat))).toNat)) ≤ 2600 := hHU30.c _ _
        have e155 : (Xi U30 955 (((Xi S 964 ((i).toNat))).toNat)) = Xi S 955 (Xi S 964 (i).toNat).toNat := by first | rfl | exact (hFU30.cx 955 rfl _).1 | exact (hFU29.cx 955 rfl _).1 | exact (hFS.cx 955 rfl _).1 | (rw [(hFU30.cx 955 rfl _).1]; exact congrArg (fun t : Int => Xi S 955 t.toNat) (by omega)) | (rw [(hFU29.cx 955 rfl _).1]; exact congrArg (fun t : Int => Xi S 955 t.toNat) (by omega)) | (rw [(hFS.cx 955 rfl _).1]; exact congrArg (fun t : Int => Xi S 955 t.toNat) (by omega))
        have q155 := q_thv (hp.2.2.1 (by omega)) e148 e155 (hFU30.x 904 69 rfl) hn5
        have w731 : Xi U30 904 106 = Xi S 904 106 := (show Xi U30 904 106 = Xi U29 904 106 from by rw [eU30]; exact Xi_ne (by omega)).trans ((show Xi U29 904 106 = Xi S 904 106 from by rw [eU29]; exact Xi_ne (by omega)))
        have w732 : 0 ≤ Xi S 904 106 ∧ Xi S 904 106 ≤ 9 := hH.c _ _
        have w733 : Xi U30 904 115 = Xi S 904 115 := (show Xi U30 904 115 = Xi U29 904 115 from by rw [eU30]; exact Xi_ne (by omega)).trans ((show Xi U29 904 115 = Xi S 904 115 from by rw [eU29]; exact Xi_ne (by omega)))
        have w734 : -1 ≤ Xi S 904 115 ∧ Xi S 904 115 ≤ 15 := hH.c _ _
        have w735 : Xi U30 904 128 = Xi S 904 128 := (show Xi U30 904 128 = Xi U29 904 128 from by rw [eU30]; exact Xi_ne (by omega)).trans ((show Xi U29 904 128 = Xi S 904 128 from by rw [eU29]; exact Xi_ne (by omega)))
        have w736 : 0 ≤ Xi S 904 128 ∧ Xi S 904 128 ≤ 11 := hH.c _ _
        have w737 : Xi U30 904 129 = Xi S 904 129 := (show Xi U30 904 129 = Xi U29 904 129 from by rw [eU30]; exact Xi_ne (by omega)).trans ((show Xi U29 904 129 = Xi S 904 129 from by rw [eU29]; exact Xi_ne (by omega)))
        have w738 : -1 ≤ Xi S 904 129 ∧ Xi S 904 129 ≤ 23 := hH.c _ _
        have w739 : Xi U30 904 19 = Xi S 904 19 := (show Xi U30 904 19 = Xi U29 904 19 from by rw [eU30]; exact Xi_ne (by omega)).trans ((show Xi U29 904 19 = Xi S 904 19 from by rw [eU29]; exact Xi_ne (by omega)))
        have w740 : 0 ≤ Xi S 904 19 ∧ Xi S 904 19 ≤ 24 := hH.c _ _
        have w741 : Xi U30 904 69 = Xi S 904 69 := (show Xi U30 904 69 = Xi U29 904 69 from by rw [eU30]; exact Xi_ne (by omega)).trans ((show Xi U29 904 69 = Xi S 904 69 from by rw [eU29]; exact Xi_ne (by omega)))
        have w742 : 0 ≤ Xi S 904 69 ∧ Xi S 904 69 ≤ 2600 := hH.c _ _
        refine l_callV rfl rfl rfl (t_mo_meant hHU30 n (Xi U30 954 (((Xi S 964 ((i).toNat))).toNat)) (Xi U30 955 (((Xi S 964 ((i).toNat))).toNat)) ⟨by omega, by omega⟩ ⟨by omega, by omega⟩ (by first | assumption | exact (TK_FR hFU30 rfl (by assumption : TK S _))) (by first | assumption | exact (RNV_FR hFU30 rfl (by assumption : RNV S _))) (by first | exact q436.1 | exact q276.1 | exact q229.1 | exact q155.1) (by first | exact q436.2 | exact q276.2 | exact q229.2 | exact q155.2) (by first | assumption | exact (LXM_FR hFU30 rfl (by assumption : LXM S))) _) ?_
        rintro _ T37 ⟨hHT37, w746, z745, rfl, w745, p156, i156, j156, w743, w744⟩
        have hFT37 : FR md_mo_phraseMeant S T37 := FR.tr hFU30 w746 rfl
        show Rl _ _ _ _ _ [iv z745, iv q, .ref 971] _ _
        have th156 : z745 ≠ -9 → thK S False (0 ≤ Xi S 904 116) z745 := fun x => by unfold thK; have a := hFU30.x 904 19 rfl; have b := hFT37.x 904 115 rfl; have c := hFT37.x 904 116 rfl; omega
        have m156 : z745 ≠ -9 → -2 ≤ z745 := by omega
        clear p156 i156 j156
        refine l_iastore (n := 2400) rfl rfl (by omega) (by omega) (by unfold rg; omega) ?_
        obtain ⟨U38, eU38⟩ : ∃ T : sS, T = uI T37 971 ((q).toNat) (Int32.ofInt z745) := ⟨_, rfl⟩
        rw [← eU38]
        have hHU38 : HI U38 := by rw [eU38]; exact HI_w hHT37 (show -9 ≤ z745 by omega) (show z745 ≤ 23 by omega)
        have hFU38 : FR md_mo_phraseMeant S U38 := by rw [eU38]; exact FR.wI hFT37 (mdf_i (r := (971, 972, 0, 100000)) (List.mem_of_getElem? (i := 14) rfl) (inR_i (by omega) (by omega) (by omega) (by omega)))
        have w747 : Xi U38 971 ((q).toNat) = z745 := by rw [eU38]; exact Xi_same (by unfold rg; omega)
        refine l_aload_n rfl rfl ?_
        refine l_aload_n rfl rfl ?_
        refine l_gfr rfl rfl rfl rfl rfl (hHU38.r 904 120 971 rfl) ?_
        refine l_iload_n rfl rfl ?_
        refine l_iaload (n := 2400) rfl rfl (by omega) (by omega) (by unfold rg; omega) ?_
        refine l_bipush rfl rfl ?_
        refine l_icmp_eq rfl rfl (by unfold rg; omega) (by unfold rg; omega) (fun w748 => ?_) (fun w749 => ?_)
        · refine l_iconst rfl ?_
          refine l_goto rfl rfl ?_
          refine l_iconst rfl ?_
          refine l_aload_n rfl rfl ?_
          refine l_gfr rfl rfl rfl rfl rfl (hHU38.r 904 84 954 rfl) ?_
          refine l_iload rfl rfl ?_
          refine l_iaload (n := 1700) rfl rfl (by omega) (by omega) (by unfold rg; omega) ?_
          have w750 : (Xi U38 954 (((Xi S 964 ((i).toNat))).toNat)) = (Xi U30 954 (((Xi S 964 ((i).toNat))).toNat)) := (show Xi U38 954 (((Xi S 964 ((i).toNat))).toNat) = Xi T37 954 (((Xi S 964 ((i).toNat))).toNat) from by rw [eU38]; exact Xi_ne (by omega)).trans ((show Xi T37 954 (((Xi S 964 ((i).toNat))).toNat) = Xi U30 954 (((Xi S 964 ((i).toNat))).toNat) from w746.x _ _ rfl))
          rw [w750]
          have e202 : (Xi U30 954 (((Xi S 964 ((i).toNat))).toNat)) = Xi S 954 (Xi S 964 (i).toNat).toNat := by first | rfl | exact (hFU38.cx 954 rfl _).1 | exact (hFT37.cx 954 rfl _).1 | exact (hFS.cx 954 rfl _).1 | (rw [(hFU38.cx 954 rfl _).1]; exact congrArg (fun t : Int => Xi S 954 t.toNat) (by omega)) | (rw [(hFT37.cx 954 rfl _).1]; exact congrArg (fun t : Int => Xi S 954 t.toNat) (by omega)) | (rw [(hFS.cx 954 rfl _).1]; exact congrArg (fun t : Int => Xi S 954 t.toNat) (by omega))
          refine l_sipush rfl rfl ?_
          refine l_iremP rfl (by omega) (by omega) (by unfold rg; omega) (by unfold rg; omega) ?_
          have w752 : Xi U38 904 106 = Xi T37 904 106 := (show Xi U38 904 106 = Xi T37 904 106 from by rw [eU38]; exact Xi_ne (by omega))
          have w753 : 0 ≤ Xi T37 904 106 ∧ Xi T37 904 106 ≤ 9 := hHT37.c _ _
          have w754 : Xi U38 904 115 = Xi S 904 115 := (show Xi U38 904 115 = Xi T37 904 115 from by rw [eU38]; exact Xi_ne (by omega)).trans ( (show Xi T37 904 115 = Xi U30 904 115 from w746.x _ _ rfl).trans ( (show Xi U30 904 115 = Xi U29 904 115 from by rw [eU30]; exact Xi_ne (by omega)).trans ((show Xi U29 904 115 = Xi S 904 115 from by rw [eU29]; exact Xi_ne (by omega)))))
          have w755 : -1 ≤ Xi S 904 115 ∧ Xi S 904 115 ≤ 15 := hH.c _ _
          have w756 : Xi U38 904 128 = Xi S 904 128 := (show Xi U38 904 128 = Xi T37 904 128 from by rw [eU38]; exact Xi_ne (by omega)).trans ( (show Xi T37 904 128 = Xi U30 904 128 from w746.x _ _ rfl).trans ( (show Xi U30 904 128 = Xi U29 904 128 from by rw [eU30]; exact Xi_ne (by omega)).trans ((show Xi U29 904 128 = Xi S 904 128 from by rw [eU29]; exact Xi_ne (by omega)))))
          have w757 : 0 ≤ Xi S 904 128 ∧ Xi S 904 128 ≤ 11 := hH.c _ _
          have w758 : Xi U38 904 129 = Xi S 904 129 := (show Xi U38 904 129 = Xi T37 904 129 from by rw [eU38]; exact Xi_ne (by omega)).trans ( (show Xi T37 904 129 = Xi U30 904 129 from w746.x _ _ rfl).trans ( (show Xi U30 904 129 = Xi U29 904 129 from by rw [eU30]; exact Xi_ne (by omega)).trans ((show Xi U29 904 129 = Xi S 904 129 from by rw [eU29]; exact Xi_ne (by omega)))))
          have w759 : -1 ≤ Xi S 904 129 ∧ Xi S 904 129 ≤ 23 := hH.c _ _
          have w760 : Xi U38 904 69 = Xi S 904 69 := (show Xi U38 904 69 = Xi T37 904 69 from by rw [eU38]; exact Xi_ne (by omega)).trans ( (show Xi T37 904 69 = Xi U30 904 69 from w746.x _ _ rfl).trans ( (show Xi U30 904 69 = Xi U29 904 69 from by rw [eU30]; exact Xi_ne (by omega)).trans ((show Xi U29 904 69 = Xi S 904 69 from by rw [eU29]; exact Xi_ne (by omega)))))
          have w761 : 0 ≤ Xi S 904 69 ∧ Xi S 904 69 ≤ 2600 := hH.c _ _
          refine l_callV rfl rfl rfl (t_mo_need hHU38 1 4 ((Xi U30 954 (((Xi S 964 ((i).toNat))).toNat)) % 10000) ⟨by omega, by omega⟩ ⟨by omega, by omega⟩ ⟨by omega, by omega⟩ _) ?_
          rintro _ T39 ⟨hHT39, w765, rfl, w762, w763⟩
          have hFT39 : FR md_mo_phraseMeant S T39 := FR.tr hFU38 w765 rfl
          show Rl _ _ _ _ _ [] _ _
          have w766 : Xi T39 970 (q).toNat = Xi S 970 (q).toNat := (show Xi T39 970 (q).toNat = Xi U38 970 (q).toNat from (w765.cx 970 rfl _).1).trans ( (show Xi U38 970 (q).toNat = Xi T37 970 (q).toNat from by rw [eU38]; exact Xi_ne (by omega)).trans ( (show Xi T37 970 (q).toNat = Xi U30 970 (q).toNat from (w746.cx 970 rfl _).1).trans ( (show Xi U30 970 (q).toNat = Xi U29 970 (q).toNat from by rw [eU30]; exact Xi_ne (by omega)).trans ((show Xi U29 970 (q).toNat = Xi S 970 (q).toNat from by rw [eU29]; exact Xi_ne (by omega))))))
          have w767 : Xi T39 971 (q).toNat = Xi U38 971 (q).toNat := (show Xi T39 971 (q).toNat = Xi U38 971 (q).toNat from (w765.cx 971 rfl _).1)
          have w768 : Xi T39 972 (q).toNat = Xi S 972 (q).toNat := (show Xi T39 972 (q).toNat = Xi U38 972 (q).toNat from (w765.cx 972 rfl _).1).trans ( (show Xi U38 972 (q).toNat = Xi T37 972 (q).toNat from by rw [eU38]; exact Xi_ne (by omega)).trans ( (show Xi T37 972 (q).toNat = Xi U30 972 (q).toNat from (w746.cx 972 rfl _).1).trans ( (show Xi U30 972 (q).toNat = Xi U29 972 (q).toNat from by rw [eU30]; exact Xi_ne (by omega)).trans ((show Xi U29 972 (q).toNat = Xi S 972 (q).toNat from by rw [eU29]; exact Xi_ne (by omega))))))
          have w769 : Xi T39 973 (q).toNat = Xi S 973 (q).toNat := (show Xi T39 973 (q).toNat = Xi U38 973 (q).toNat from (w765.cx 973 rfl _).1).trans ( (show Xi U38 973 (q).toNat = Xi T37 973 (q).toNat from by rw [eU38]; exact Xi_ne (by omega)).trans ( (show Xi T37 973 (q).toNat = Xi U30 973 (q).toNat from (w746.cx 973 rfl _).1).trans ( (show Xi U30 973 (q).toNat = Xi U29 973 (q).toNat from by rw [eU30]; exact Xi_ne (by omega)).trans ((show Xi U29 973 (q).toNat = Xi S 973 (q).toNat from by rw [eU29]; exact Xi_ne (by omega))))))
          have w770 : Xi T39 974 (q).toNat = Xi S 974 (q).toNat := (show Xi T39 974 (q).toNat = Xi U38 974 (q).toNat from (w765.cx 974 rfl _).1).trans ( (show Xi U38 974 (q).toNat = Xi T37 974 (q).toNat from by rw [eU38]; exact Xi_ne (by omega)).trans ( (show Xi T37 974 (q).toNat = Xi U30 974 (q).toNat from (w746.cx 974 rfl _).1).trans ( (show Xi U30 974 (q).toNat = Xi U29 974 (q).toNat from by rw [eU30]; exact Xi_ne (by omega)).trans ((show Xi U29 974 (q).toNat = Xi S 974 (q).toNat from by rw [eU29]; exact Xi_ne (by omega))))))
          have w771 : Xi T39 975 (q).toNat = Xi S 975 (q).toNat := (show Xi T39 975 (q).toNat = Xi U38 975 (q).toNat from (w765.cx 975 rfl _).1).trans ( (show Xi U38 975 (q).toNat = Xi T37 975 (q).toNat from by rw [eU38]; exact Xi_ne (by omega)).trans ( (show Xi T37 975 (q).toNat = Xi U30 975 (q).toNat from (w746.cx 975 rfl _).1).trans ( (show Xi U30 975 (q).toNat = Xi U29 975 (q).toNat from by rw [eU30]; exact Xi_ne (by omega)).trans ((show Xi U29 975 (q).toNat = Xi S 975 (q).toNat from by rw [eU29]; exact Xi_ne (by omega))))))
          have w772 : Xi T39 976 (p).toNat = Xi U29 976 (p).toNat := (show Xi T39 976 (p).toNat = Xi U38 976 (p).toNat from (w765.cx 976 rfl _).1).trans ( (show Xi U38 976 (p).toNat = Xi T37 976 (p).toNat from by rw [eU38]; exact Xi_ne (by omega)).trans ( (show Xi T37 976 (p).toNat = Xi U30 976 (p).toNat from (w746.cx 976 rfl _).1).trans ((show Xi U30 976 (p).toNat = Xi U29 976 (p).toNat from by rw [eU30]; exact Xi_ne (by omega)))))
          have w773 : Xi T39 977 (p).toNat = Xi U30 977 (p).toNat := (show Xi T39 977 (p).toNat = Xi U38 977 (p).toNat from (w765.cx 977 rfl _).1).trans ( (show Xi U38 977 (p).toNat = Xi T37 977 (p).toNat from by rw [eU38]; exact Xi_ne (by omega)).trans ((show Xi T37 977 (p).toNat = Xi U30 977 (p).toNat from (w746.cx 977 rfl _).1)))
          have w774 : 0 ≤ Xi T39 904 106 ∧ Xi T39 904 106 ≤ 9 := hHT39.c _ _
          have w775 : Xi T39 904 115 = Xi S 904 115 := (show Xi T39 904 115 = Xi U38 904 115 from w765.x _ _ rfl).trans ( (show Xi U38 904 115 = Xi T37 904 115 from by rw [eU38]; exact Xi_ne (by omega)).trans ( (show Xi T37 904 115 = Xi U30 904 115 from w746.x _ _ rfl).trans ( (show Xi U30 904 115 = Xi U29 904 115 from by rw [eU30]; exact Xi_ne (by omega)).trans ((show Xi U29 904 115 = Xi S 904 115 from by rw [eU29]; exact Xi_ne (by omega))))))
          have w776 : -1 ≤ Xi S 904 115 ∧ Xi S 904 115 ≤ 15 := hH.c _ _
          have w777 : Xi T39 904 128 = Xi S 904 128 := (show Xi T39 904 128 = Xi U38 904 128 from w765.x _ _ rfl).trans ( (show Xi U38 904 128 = Xi T37 904 128 from by rw [eU38]; exact Xi_ne (by omega)).trans ( (show Xi T37 904 128 = Xi U30 904 128 from w746.x _ _ rfl).trans ( (show Xi U30 904 128 = Xi U29 904 128 from by rw [eU30]; exact Xi_ne (by omega)).trans ((show Xi U29 904 128 = Xi S 904 128 from by rw [eU29]; exact Xi_ne (by omega))))))
          have w778 : 0 ≤ Xi S 904 128 ∧ Xi S 904 128 ≤ 11 := hH.c _ _
          have w779 : Xi T39 904 129 = Xi S 904 129 := (show Xi T39 904 129 = Xi U38 904 129 from w765.x _ _ rfl).trans ( (show Xi U38 904 129 = Xi T37 904 129 from by rw [eU38]; exact Xi_ne (by omega)).trans ( (show Xi T37 904 129 = Xi U30 904 129 from w746.x _ _ rfl).trans ( (show Xi U30 904 129 = Xi U29 904 129 from by rw [eU30]; exact Xi_ne (by omega)).trans ((show Xi U29 904 129 = Xi S 904 129 from by rw [eU29]; exact Xi_ne (by omega))))))
          have w780 : -1 ≤ Xi S 904 129 ∧ Xi S 904 129 ≤ 23 := hH.c _ _
          have w781 : Xi T39 904 69 = Xi S 904 69 := (show Xi T39 904 69 = Xi U38 904 69 from w765.x _ _ rfl).trans ( (show Xi U38 904 69 = Xi T37 904 69 from by rw [eU38]; exact Xi_ne (by omega)).trans ( (show Xi T37 904 69 = Xi U30 904 69 from w746.x _ _ rfl).trans ( (show Xi U30 904 69 = Xi U29 904 69 from by rw [eU30]; exact Xi_ne (by omega)).trans ((show Xi U29 904 69 = Xi S 904 69 from by rw [eU29]; exact Xi_ne (by omega))))))
          have w782 : 0 ≤ Xi S 904 69 ∧ Xi S 904 69 ≤ 2600 := hH.c _ _
          exact Rl_weak (C210 T39 hHT39 hFT39 ((Xi S 964 ((i).toNat))) (by omega) ((KQ_FR w765 rfl (KQ.w (KQ_FR w746 rfl (KQ.w (KQ.w KQ.rf eU29 (by omega)) eU30 (by omega))) eU38 (by omega)))) ((KH_FR w765 rfl (KH_FR (FR_e eU38) rfl (KH_FR w746 rfl (by assumption : KH U30 _ _))))) (by omega) (by omega) (by omega) (by omega) (by omega) (by omega) (by omega) (fun x => by rw [show Xi T39 971 (q).toNat = _ from (by assumption)]; exact th156 (by omega))) (And.intro rfl (And.intro rfl (And.intro rfl (True.intro))))
        · refine l_aload_n rfl rfl ?_
          refine l_aload_n rfl rfl ?_
          refine l_aload_n rfl rfl ?_
          refine l_gfr rfl rfl rfl rfl rfl (hHU38.r 904 120 971 rfl) ?_
          refine l_iload_n rfl rfl ?_
          refine l_iaload (n := 2400) rfl rfl (by omega) (by omega) (by unfold rg; omega) ?_
          have w783 : Xi U38 904 106 = Xi T37 904 106 := (show Xi U38 904 106 = Xi T37 904 106 from by rw [eU38]; exact Xi_ne (by omega))
          have w784 : 0 ≤ Xi T37 904 106 ∧ Xi T37 904 106 ≤ 9 := hHT37.c _ _
          have w785 : Xi U38 904 115 = Xi S 904 115 := (show Xi U38 904 115 = Xi T37 904 115 from by rw [eU38]; exact Xi_ne (by omega)).trans ( (show Xi T37 904 115 = Xi U30 904 115 from w746.x _ _ rfl).trans ( (show Xi U30 904 115 = Xi U29 904 115 from by rw [eU30]; exact Xi_ne (by omega)).trans ((show Xi U29 904 115 = Xi S 904 115 from by rw [eU29]; exact Xi_ne (by omega)))))
          have w786 : -1 ≤ Xi S 904 115 ∧ Xi S 904 115 ≤ 15 := hH.c _ _
          have w787 : Xi U38 904 128 = Xi S 904 128 := (show Xi U38 904 128 = Xi T37 904 128 from by rw [eU38]; exact Xi_ne (by omega)).trans ( (show Xi T37 904 128 = Xi U30 904 128 from w746.x _ _ rfl).trans ( (show Xi U30 904 128 = Xi U29 904 128 from by rw [eU30]; exact Xi_ne (by omega)).trans ((show Xi U29 904 128 = Xi S 904 128 from by rw [eU29]; exact Xi_ne (by omega)))))
          have w788 : 0 ≤ Xi S 904 128 ∧ Xi S 904 128 ≤ 11 := hH.c _ _
          have w789 : Xi U38 904 129 = Xi S 904 129 := (show Xi U38 904 129 = Xi T37 904 129 from by rw [eU38]; exact Xi_ne (by omega)).trans ( (show Xi T37 904 129 = Xi U30 904 129 from w746.x _ _ rfl).trans ( (show Xi U30 904 129 = Xi U29 904 129 from by rw [eU30]; exact Xi_ne (by omega)).trans ((show Xi U29 904 129 = Xi S 904 129 from by rw [eU29]; exact Xi_ne (by omega)))))
          have w790 : -1 ≤ Xi S 904 129 ∧ Xi S 904 129 ≤ 23 := hH.c _ _
          have w791 : Xi U38 904 69 = Xi S 904 69 := (show Xi U38 904 69 = Xi T37 904 69 from by rw [eU38]; exact Xi_ne (by omega)).trans ( (show Xi T37 904 69 = Xi U30 904 69 from w746.x _ _ rfl).trans ( (show Xi U30 904 69 = Xi U29 904 69 from by rw [eU30]; exact Xi_ne (by omega)).trans ((show Xi U29 904 69 = Xi S 904 69 from by rw [eU29]; exact Xi_ne (by omega)))))
          have w792 : 0 ≤ Xi S 904 69 ∧ Xi S 904 69 ≤ 2600 := hH.c _ _
          refine l_callV rfl rfl rfl (t_mo_kindOfThing hHU38 (Xi U38 971 ((q).toNat)) ⟨by omega, by omega⟩ (by first | assumption | omega) _) ?_
          rintro _ _ ⟨rfl, z793, rfl, w793⟩
          show Rl _ _ _ _ _ [iv z793, .ref 904, .ref 904] _ _
          refine l_iconst rfl ?_
          have w794 : Xi U38 904 106 = Xi T37 904 106 := (show Xi U38 904 106 = Xi T37 904 106 from by rw [eU38]; exact Xi_ne (by omega))
          have w795 : 0 ≤ Xi T37 904 106 ∧ Xi T37 904 106 ≤ 9 := hHT37.c _ _
          have w796 : Xi U38 904 115 = Xi S 904 115 := (show Xi U38 904 115 = Xi T37 904 115 from by rw [eU38]; exact Xi_ne (by omega)).trans ( (show Xi T37 904 115 = Xi U30 904 115 from w746.x _ _ rfl).trans ( (show Xi U30 904 115 = Xi U29 904 115 from by rw [eU30]; exact Xi_ne (by omega)).trans ((show Xi U29 904 115 = Xi S 904 115 from by rw [eU29]; exact Xi_ne (by omega)))))
          have w797 : -1 ≤ Xi S 904 115 ∧ Xi S 904 115 ≤ 15 := hH.c _ _
          have w798 : Xi U38 904 128 = Xi S 904 128 := (show Xi U38 904 128 = Xi T37 904 128 from by rw [eU38]; exact Xi_ne (by omega)).trans ( (show Xi T37 904 128 = Xi U30 904 128 from w746.x _ _ rfl).trans ( (show Xi U30 904 128 = Xi U29 904 128 from by rw [eU30]; exact Xi_ne (by omega)).trans ((show Xi U29 904 128 = Xi S 904 128 from by rw [eU29]; exact Xi_ne (by omega)))))
          have w799 : 0 ≤ Xi S 904 128 ∧ Xi S 904 128 ≤ 11 := hH.c _ _
          have w800 : Xi U38 904 129 = Xi S 904 129 := (show Xi U38 904 129 = Xi T37 904 129 from by rw [eU38]; exact Xi_ne (by omega)).trans ( (show Xi T37 904 129 = Xi U30 904 129 from w746.x _ _ rfl).trans ( (show Xi U30 904 129 = Xi U29 904 129 from by rw [eU30]; exact Xi_ne (by omega)).trans ((show Xi U29 904 129 = Xi S 904 129 from by rw [eU29]; exact Xi_ne (by omega)))))
          have w801 : -1 ≤ Xi S 904 129 ∧ Xi S 904 129 ≤ 23 := hH.c _ _
          have w802 : Xi U38 904 69 = Xi S 904 69 := (show Xi U38 904 69 = Xi T37 904 69 from by rw [eU38]; exact Xi_ne (by omega)).trans ( (show Xi T37 904 69 = Xi U30 904 69 from w746.x _ _ rfl).trans ( (show Xi U30 904 69 = Xi U29 904 69 from by rw [eU30]; exact Xi_ne (by omega)).trans ((show Xi U29 904 69 = Xi S 904 69 from by rw [eU29]; exact Xi_ne (by omega)))))
          have w803 : 0 ≤ Xi S 904 69 ∧ Xi S 904 69 ≤ 2600 := hH.c _ _
          refine l_callV rfl rfl rfl (t_mo_isBelow hHU38 z793 0 ⟨by omega, by omega⟩ ⟨by omega, by omega⟩ (by first | assumption | exact (ABV_FR hFU38 rfl (by assumption : ABV S))) _) ?_
          rintro _ _ ⟨rfl, z805, rfl, w805, w804⟩
          show Rl _ _ _ _ _ [iv z805, .ref 904] _ _
          refine l_if_eq rfl rfl (by unfold rg; omega) (fun w806 => ?_) (fun w807 => ?_)
          · refine l_iconst rfl ?_
            refine l_iconst rfl ?_
            refine l_aload_n rfl rfl ?_
            refine l_gfr rfl rfl rfl rfl rfl (hHU38.r 904 84 954 rfl) ?_
            refine l_iload rfl rfl ?_
            refine l_iaload (n := 1700) rfl rfl (by omega) (by omega) (by unfold rg; omega) ?_
            have w808 : (Xi U38 954 (((Xi S 964 ((i).toNat))).toNat)) = (Xi U30 954 (((Xi S 964 ((i).toNat))).toNat)) := (show Xi U38 954 (((Xi S 964 ((i).toNat))).toNat) = Xi T37 954 (((Xi S 964 ((i).toNat))).toNat) from by rw [eU38]; exact Xi_ne (by omega)).trans ((show Xi T37 954 (((Xi S 964 ((i).toNat))).toNat) = Xi U30 954 (((Xi S 964 ((i).toNat))).toNat) from w746.x _ _ rfl))
            rw [w808]
            have e202 : (Xi U30 954 (((Xi S 964 ((i).toNat))).toNat)) = Xi S 954 (Xi S 964 (i).toNat).toNat := by first | rfl | exact (hFU38.cx 954 rfl _).1 | exact (hFT37.cx 954 rfl _).1 | exact (hFS.cx 954 rfl _).1 | (rw [(hFU38.cx 954 rfl _).1]; exact congrArg (fun t : Int => Xi S 954 t.toNat) (by omega)) | (rw [(hFT37.cx 954 rfl _).1]; exact congrArg (fun t : Int => Xi S 954 t.toNat) (by omega)) | (rw [(hFS.cx 954 rfl _).1]; exact congrArg (fun t : Int => Xi S 954 t.toNat) (by omega))
            refine l_sipush rfl rfl ?_
            refine l_iremP rfl (by omega) (by omega) (by unfold rg; omega) (by unfold rg; omega) ?_
            have w810 : Xi U38 904 106 = Xi T37 904 106 := (show Xi U38 904 106 = Xi T37 904 106 from by rw [eU38]; exact Xi_ne (by omega))
            have w811 : 0 ≤ Xi T37 904 106 ∧ Xi T37 904 106 ≤ 9 := hHT37.c _ _
            have w812 : Xi U38 904 115 = Xi S 904 115 := (show Xi U38 904 115 = Xi T37 904 115 from by rw [eU38]; exact Xi_ne (by omega)).trans ( (show Xi T37 904 115 = Xi U30 904 115 from w746.x _ _ rfl).trans ( (show Xi U30 904 115 = Xi U29 904 115 from by rw [eU30]; exact Xi_ne (by omega)).trans ((show Xi U29 904 115 = Xi S 904 115 from by rw [eU29]; exact Xi_ne (by omega)))))
            have w813 : -1 ≤ Xi S 904 115 ∧ Xi S 904 115 ≤ 15 := hH.c _ _
            have w814 : Xi U38 904 128 = Xi S 904 128 := (show Xi U38 904 128 = Xi T37 904 128 from by rw [eU38]; exact Xi_ne (by omega)).trans ( (show Xi T37 904 128 = Xi U30 904 128 from w746.x _ _ rfl).trans ( (show Xi U30 904 128 = Xi U29 904 128 from by rw [eU30]; exact Xi_ne (by omega)).trans ((show Xi U29 904 128 = Xi S 904 128 from by rw [eU29]; exact Xi_ne (by omega)))))
            have w815 : 0 ≤ Xi S 904 128 ∧ Xi S 904 128 ≤ 11 := hH.c _ _
            have w816 : Xi U38 904 129 = Xi S 904 129 := (show Xi U38 904 129 = Xi T37 904 129 from by rw [eU38]; exact Xi_ne (by omega)).trans ( (show Xi T37 904 129 = Xi U30 904 129 from w746.x _ _ rfl).trans ( (show Xi U30 904 129 = Xi U29 904 129 from by rw [eU30]; exact Xi_ne (by omega)).trans ((show Xi U29 904 129 = Xi S 904 129 from by rw [eU29]; exact Xi_ne (by omega)))))
            have w817 : -1 ≤ Xi S 904 129 ∧ Xi S 904 129 ≤ 23 := hH.c _ _
            have w818 : Xi U38 904 69 = Xi S 904 69 := (show Xi U38 904 69 = Xi T37 904 69 from by rw [eU38]; exact Xi_ne (by omega)).trans ( (show Xi T37 904 69 = Xi U30 904 69 from w746.x _ _ rfl).trans ( (show Xi U30 904 69 = Xi U29 904 69 from by rw [eU30]; exact Xi_ne (by omega)).trans ((show Xi U29 904 69 = Xi S 904 69 from by rw [eU29]; exact Xi_ne (by omega)))))
            have w819 : 0 ≤ Xi S 904 69 ∧ Xi S 904 69 ≤ 2600 := hH.c _ _
            refine l_callV rfl rfl rfl (t_mo_need hHU38 0 4 ((Xi U30 954 (((Xi S 964 ((i).toNat))).toNat)) % 10000) ⟨by omega, by omega⟩ ⟨by omega, by omega⟩ ⟨by omega, by omega⟩ _) ?_
            rintro _ T40 ⟨hHT40, w823, rfl, w820, w821⟩
            have hFT40 : FR md_mo_phraseMeant S T40 := FR.tr hFU38 w823 rfl
            show Rl _ _ _ _ _ [] _ _
            have w824 : Xi T40 970 (q).toNat = Xi S 970 (q).toNat := (show Xi T40 970 (q).toNat = Xi U38 970 (q).toNat from (w823.cx 970 rfl _).1).trans ( (show Xi U38 970 (q).toNat = Xi T37 970 (q).toNat from by rw [eU38]; exact Xi_ne (by omega)).trans ( (show Xi T37 970 (q).toNat = Xi U30 970 (q).toNat from (w746.cx 970 rfl _).1).trans ( (show Xi U30 970 (q).toNat = Xi U29 970 (q).toNat from by rw [eU30]; exact Xi_ne (by omega)).trans ((show Xi U29 970 (q).toNat = Xi S 970 (q).toNat from by rw [eU29]; exact Xi_ne (by omega))))))
            have w825 : Xi T40 971 (q).toNat = Xi U38 971 (q).toNat := (show Xi T40 971 (q).toNat = Xi U38 971 (q).toNat from (w823.cx 971 rfl _).1)
            have w826 : Xi T40 972 (q).toNat = Xi S 972 (q).toNat := (show Xi T40 972 (q).toNat = Xi U38 972 (q).toNat from (w823.cx 972 rfl _).1).trans ( (show Xi U38 972 (q).toNat = Xi T37 972 (q).toNat from by rw [eU38]; exact Xi_ne (by omega)).trans ( (show Xi T37 972 (q).toNat = Xi U30 972 (q).toNat from (w746.cx 972 rfl _).1).trans ( (show Xi U30 972 (q).toNat = Xi U29 972 (q).toNat from by rw [eU30]; exact Xi_ne (by omega)).trans ((show Xi U29 972 (q).toNat = Xi S 972 (q).toNat from by rw [eU29]; exact Xi_ne (by omega))))))
            have w827 : Xi T40 973 (q).toNat = Xi S 973 (q).toNat := (show Xi T40 973 (q).toNat = Xi U38 973 (q).toNat from (w823.cx 973 rfl _).1).trans ( (show Xi U38 973 (q).toNat = Xi T37 973 (q).toNat from by rw [eU38]; exact Xi_ne (by omega)).trans ( (show Xi T37 973 (q).toNat = Xi U30 973 (q).toNat from (w746.cx 973 rfl _).1).trans ( (show Xi U30 973 (q).toNat = Xi U29 973 (q).toNat from by rw [eU30]; exact Xi_ne (by omega)).trans ((show Xi U29 973 (q).toNat = Xi S 973 (q).toNat from by rw [eU29]; exact Xi_ne (by omega))))))
            have w828 : Xi T40 974 (q).toNat = Xi S 974 (q).toNat := (show Xi T40 974 (q).toNat = Xi U38 974 (q).toNat from (w823.cx 974 rfl _).1).trans ( (show Xi U38 974 (q).toNat = Xi T37 974 (q).toNat from by rw [eU38]; exact Xi_ne (by omega)).trans ( (show Xi T37 974 (q).toNat = Xi U30 974 (q).toNat from (w746.cx 974 rfl _).1).trans ( (show Xi U30 974 (q).toNat = Xi U29 974 (q).toNat from by rw [eU30]; exact Xi_ne (by omega)).trans ((show Xi U29 974 (q).toNat = Xi S 974 (q).toNat from by rw [eU29]; exact Xi_ne (by omega))))))
            have w829 : Xi T40 975 (q).toNat = Xi S 975 (q).toNat := (show Xi T40 975 (q).toNat = Xi U38 975 (q).toNat from (w823.cx 975 rfl _).1).trans ( (show Xi U38 975 (q).toNat = Xi T37 975 (q).toNat from by rw [eU38]; exact Xi_ne (by omega)).trans ( (show Xi T37 975 (q).toNat = Xi U30 975 (q).toNat from (w746.cx 975 rfl _).1).trans ( (show Xi U30 975 (q).toNat = Xi U29 975 (q).toNat from by rw [eU30]; exact Xi_ne (by omega)).trans ((show Xi U29 975 (q).toNat = Xi S 975 (q).toNat from by rw [eU29]; exact Xi_ne (by omega))))))
            have w830 : Xi T40 976 (p).toNat = Xi U29 976 (p).toNat := (show Xi T40 976 (p).toNat = Xi U38 976 (p).toNat from (w823.cx 976 rfl _).1).trans ( (show Xi U38 976 (p).toNat = Xi T37 976 (p).toNat from by rw [eU38]; exact Xi_ne (by omega)).trans ( (show Xi T37 976 (p).toNat = Xi U30 976 (p).toNat from (w746.cx 976 rfl _).1).trans ((show Xi U30 976 (p).toNat = Xi U29 976 (p).toNat from by rw [eU30]; exact Xi_ne (by omega)))))
            have w831 : Xi T40 977 (p).toNat = Xi U30 977 (p).toNat := (show Xi T40 977 (p).toNat = Xi U38 977 (p).toNat from (w823.cx 977 rfl _).1).trans ( (show Xi U38 977 (p).toNat = Xi T37 977 (p).toNat from by rw [eU38]; exact Xi_ne (by omega)).trans ((show Xi T37 977 (p).toNat = Xi U30 977 (p).toNat from (w746.cx 977 rfl _).1)))
            have w832 : 0 ≤ Xi T40 904 106 ∧ Xi T40 904 106 ≤ 9 := hHT40.c _ _
            have w833 : Xi T40 904 115 = Xi S 904 115 := (show Xi T40 904 115 = Xi U38 904 115 from w823.x _ _ rfl).trans ( (show Xi U38 904 115 = Xi T37 904 115 from by rw [eU38]; exact Xi_ne (by omega)).trans ( (show Xi T37 904 115 = Xi U30 904 115 from w746.x _ _ rfl).trans ( (show Xi U30 904 115 = Xi U29 904 115 from by rw [eU30]; exact Xi_ne (by omega)).trans ((show Xi U29 904 115 = Xi S 904 115 from by rw [eU29]; exact Xi_ne (by omega))))))
            have w834 : -1 ≤ Xi S 904 115 ∧ Xi S 904 115 ≤ 15 := hH.c _ _
            have w835 : Xi T40 904 128 = Xi S 904 128 := (show Xi T40 904 128 = Xi U38 904 128 from w823.x _ _ rfl).trans ( (show Xi U38 904 128 = Xi T37 904 128 from by rw [eU38]; exact Xi_ne (by omega)).trans ( (show Xi T37 904 128 = Xi U30 904 128 from w746.x _ _ rfl).trans ( (show Xi U30 904 128 = Xi U29 904 128 from by rw [eU30]; exact Xi_ne (by omega)).trans ((show Xi U29 904 128 = Xi S 904 128 from by rw [eU29]; exact Xi_ne (by omega))))))
            have w836 : 0 ≤ Xi S 904 128 ∧ Xi S 904 128 ≤ 11 := hH.c _ _
            have w837 : Xi T40 904 129 = Xi S 904 129 := (show Xi T40 904 129 = Xi U38 904 129 from w823.x _ _ rfl).trans ( (show Xi U38 904 129 = Xi T37 904 129 from by rw [eU38]; exact Xi_ne (by omega)).trans ( (show Xi T37 904 129 = Xi U30 904 129 from w746.x _ _ rfl).trans ( (show Xi U30 904 129 = Xi U29 904 129 from by rw [eU30]; exact Xi_ne (by omega)).trans ((show Xi U29 904 129 = Xi S 904 129 from by rw [eU29]; exact Xi_ne (by omega))))))
            have w838 : -1 ≤ Xi S 904 129 ∧ Xi S 904 129 ≤ 23 := hH.c _ _
            have w839 : Xi T40 904 69 = Xi S 904 69 := (show Xi T40 904 69 = Xi U38 904 69 from w823.x _ _ rfl).trans ( (show Xi U38 904 69 = Xi T37 904 69 from by rw [eU38]; exact Xi_ne (by omega)).trans ( (show Xi T37 904 69 = Xi U30 904 69 from w746.x _ _ rfl).trans ( (show Xi U30 904 69 = Xi U29 904 69 from by rw [eU30]; exact Xi_ne (by omega)).trans ((show Xi U29 904 69 = Xi S 904 69 from by rw [eU29]; exact Xi_ne (by omega))))))
            have w840 : 0 ≤ Xi S 904 69 ∧ Xi S 904 69 ≤ 2600 := hH.c _ _
            exact Rl_weak (C210 T40 hHT40 hFT40 ((Xi S 964 ((i).toNat))) (by omega) ((KQ_FR w823 rfl (KQ.w (KQ_FR w746 rfl (KQ.w (KQ.w KQ.rf eU29 (by omega)) eU30 (by omega))) eU38 (by omega)))) ((KH_FR w823 rfl (KH_FR (FR_e eU38) rfl (KH_FR w746 rfl (by assumption : KH U30 _ _))))) (by omega) (by omega) (by omega) (by omega) (by omega) (by omega) (by omega) (fun x => by rw [show Xi T40 971 (q).toNat = _ from (by assumption)]; exact th156 (by omega))) (And.intro rfl (And.intro rfl (And.intro rfl (True.intro))))
          · refine l_iconst rfl ?_
            refine l_goto rfl rfl ?_
            refine l_iconst rfl ?_
            refine l_aload_n rfl rfl ?_
            refine l_gfr rfl rfl rfl rfl rfl (hHU38.r 904 84 954 rfl) ?_
            refine l_iload rfl rfl ?_
            refine l_iaload (n := 1700) rfl rfl (by omega) (by omega) (by unfold rg; omega) ?_
            have w841 : (Xi U38 954 (((Xi S 964 ((i).toNat))).toNat)) = (Xi U30 954 (((Xi S 964 ((i).toNat))).toNat)) := (show Xi U38 954 (((Xi S 964 ((i).toNat))).toNat) = Xi T37 954 (((Xi S 964 ((i).toNat))).toNat) from by rw [eU38]; exact Xi_ne (by omega)).trans ((show Xi T37 954 (((Xi S 964 ((i).toNat))).toNat) = Xi U30 954 (((Xi S 964 ((i).toNat))).toNat) from w746.x _ _ rfl))
            rw [w841]
            have e202 : (Xi U30 954 (((Xi S 964 ((i).toNat))).toNat)) = Xi S 954 (Xi S 964 (i).toNat).toNat := by first | rfl | exact (hFU38.cx 954 rfl _).1 | exact (hFT37.cx 954 rfl _).1 | exact (hFS.cx 954 rfl _).1 | (rw [(hFU38.cx 954 rfl _).1]; exact congrArg (fun t : Int => Xi S 954 t.toNat) (by omega)) | (rw [(hFT37.cx 954 rfl _).1]; exact congrArg (fun t : Int => Xi S 954 t.toNat) (by omega)) | (rw [(hFS.cx 954 rfl _).1]; exact congrArg (fun t : Int => Xi S 954 t.toNat) (by omega))
            refine l_sipush rfl rfl ?_
            refine l_iremP rfl (by omega) (by omega) (by unfold rg; omega) (by unfold rg; omega) ?_
            have w843 : Xi U38 904 106 = Xi T37 904 106 := (show Xi U38 904 106 = Xi T37 904 106 from by rw [eU38]; exact Xi_ne (by omega))
            have w844 : 0 ≤ Xi T37 904 106 ∧ Xi T37 904 106 ≤ 9 := hHT37.c _ _
            have w845 : Xi U38 904 115 = Xi S 904 115 := (show Xi U38 904 115 = Xi T37 904 115 from by rw [eU38]; exact Xi_ne (by omega)).trans ( (show Xi T37 904 115 = Xi U30 904 115 from w746.x _ _ rfl).trans ( (show Xi U30 904 115 = Xi U29 904 115 from by rw [eU30]; exact Xi_ne (by omega)).trans ((show Xi U29 904 115 = Xi S 904 115 from by rw [eU29]; exact Xi_ne (by omega)))))
            have w846 : -1 ≤ Xi S 904 115 ∧ Xi S 904 115 ≤ 15 := hH.c _ _
            have w847 : Xi U38 904 128 = Xi S 904 128 := (show Xi U38 904 128 = Xi T37 904 128 from by rw [eU38]; exact Xi_ne (by omega)).trans ( (show Xi T37 904 128 = Xi U30 904 128 from w746.x _ _ rfl).trans ( (show Xi U30 904 128 = Xi U29 904 128 from by rw [eU30]; exact Xi_ne (by omega)).trans ((show Xi U29 904 128 = Xi S 904 128 from by rw [eU29]; exact Xi_ne (by omega)))))
            have w848 : 0 ≤ Xi S 904 128 ∧ Xi S 904 128 ≤ 11 := hH.c _ _
            have w849 : Xi U38 904 129 = Xi S 904 129 := (show Xi U38 904 129 = Xi T37 904 129 from by rw [eU38]; exact Xi_ne (by omega)).trans ( (show Xi T37 904 129 = Xi U30 904 129 from w746.x _ _ rfl).trans ( (show Xi U30 904 129 = Xi U29 904 129 from by rw [eU30]; exact Xi_ne (by omega)).trans ((show Xi U29 904 129 = Xi S 904 129 from by rw [eU29]; exact Xi_ne (by omega)))))
            have w850 : -1 ≤ Xi S 904 129 ∧ Xi S 904 129 ≤ 23 := hH.c _ _
            have w851 : Xi U38 904 69 = Xi S 904 69 := (show Xi U38 904 69 = Xi T37 904 69 from by rw [eU38]; exact Xi_ne (by omega)).trans ( (show Xi T37 904 69 = Xi U30 904 69 from w746.x _ _ rfl).trans ( (show Xi U30 904 69 = Xi U29 904 69 from by rw [eU30]; exact Xi_ne (by omega)).trans ((show Xi U29 904 69 = Xi S 904 69 from by rw [eU29]; exact Xi_ne (by omega)))))
            have w852 : 0 ≤ Xi S 904 69 ∧ Xi S 904 69 ≤ 2600 := hH.c _ _
            refine l_callV rfl rfl rfl (t_mo_need hHU38 1 4 ((Xi U30 954 (((Xi S 964 ((i).toNat))).toNat)) % 10000) ⟨by omega, by omega⟩ ⟨by omega, by omega⟩ ⟨by omega, by omega⟩ _) ?_
            rintro _ T41 ⟨hHT41, w856, rfl, w853, w854⟩
            have hFT41 : FR md_mo_phraseMeant S T41 := FR.tr hFU38 w856 rfl
            show Rl _ _ _ _ _ [] _ _
            have w857 : Xi T41 970 (q).toNat = Xi S 970 (q).toNat := (show Xi T41 970 (q).toNat = Xi U38 970 (q).toNat from (w856.cx 970 rfl _).1).trans ( (show Xi U38 970 (q).toNat = Xi T37 970 (q).toNat from by rw [eU38]; exact Xi_ne (by omega)).trans ( (show Xi T37 970 (q).toNat = Xi U30 970 (q).toNat from (w746.cx 970 rfl _).1).trans ( (show Xi U30 970 (q).toNat = Xi U29 970 (q).toNat from by rw [eU30]; exact Xi_ne (by omega)).trans ((show Xi U29 970 (q).toNat = Xi S 970 (q).toNat from by rw [eU29]; exact Xi_ne (by omega))))))
            have w858 : Xi T41 971 (q).toNat = Xi U38 971 (q).toNat := (show Xi T41 971 (q).toNat = Xi U38 971 (q).toNat from (w856.cx 971 rfl _).1)
            have w859 : Xi T41 972 (q).toNat = Xi S 972 (q).toNat := (show Xi T41 972 (q).toNat = Xi U38 972 (q).toNat from (w856.cx 972 rfl _).1).trans ( (show Xi U38 972 (q).toNat = Xi T37 972 (q).toNat from by rw [eU38]; exact Xi_ne (by omega)).trans ( (show Xi T37 972 (q).toNat = Xi U30 972 (q).toNat from (w746.cx 972 rfl _).1).trans ( (show Xi U30 972 (q).toNat = Xi U29 972 (q).toNat from by rw [eU30]; exact Xi_ne (by omega)).trans ((show Xi U29 972 (q).toNat = Xi S 972 (q).toNat from by rw [eU29]; exact Xi_ne (by omega))))))
            have w860 : Xi T41 973 (q).toNat = Xi S 973 (q).toNat := (show Xi T41 973 (q).toNat = Xi U38 973 (q).toNat from (w856.cx 973 rfl _).1).trans ( (show Xi U38 973 (q).toNat = Xi T37 973 (q).toNat from by rw [eU38]; exact Xi_ne (by omega)).trans ( (show Xi T37 973 (q).toNat = Xi U30 973 (q).toNat from (w746.cx 973 rfl _).1).trans ( (show Xi U30 973 (q).toNat = Xi U29 973 (q).toNat from by rw [eU30]; exact Xi_ne (by omega)).trans ((show Xi U29 973 (q).toNat = Xi S 973 (q).toNat from by rw [eU29]; exact Xi_ne (by omega))))))
            have w861 : Xi T41 974 (q).toNat = Xi S 974 (q).toNat := (show Xi T41 974 (q).toNat = Xi U38 974 (q).toNat from (w856.cx 974 rfl _).1).trans ( (show Xi U38 974 (q).toNat = Xi T37 974 (q).toNat from by rw [eU38]; exact Xi_ne (by omega)).trans ( (show Xi T37 974 (q).toNat = Xi U30 974 (q).toNat from (w746.cx 974 rfl _).1).trans ( (show Xi U30 974 (q).toNat = Xi U29 974 (q).toNat from by rw [eU30]; exact Xi_ne (by omega)).trans ((show Xi U29 974 (q).toNat = Xi S 974 (q).toNat from by rw [eU29]; exact Xi_ne (by omega))))))
            have w862 : Xi T41 975 (q).toNat = Xi S 975 (q).toNat := (show Xi T41 975 (q).toNat = Xi U38 975 (q).toNat from (w856.cx 975 rfl _).1).trans ( (show Xi U38 975 (q).toNat = Xi T37 975 (q).toNat from by rw [eU38]; exact Xi_ne (by omega)).trans ( (show Xi T37 975 (q).toNat = Xi U30 975 (q).toNat from (w746.cx 975 rfl _).1).trans ( (show Xi U30 975 (q).toNat = Xi U29 975 (q).toNat from by rw [eU30]; exact Xi_ne (by omega)).trans ((show Xi U29 975 (q).toNat = Xi S 975 (q).toNat from by rw [eU29]; exact Xi_ne (by omega))))))
            have w863 : Xi T41 976 (p).toNat = Xi U29 976 (p).toNat := (show Xi T41 976 (p).toNat = Xi U38 976 (p).toNat from (w856.cx 976 rfl _).1).trans ( (show Xi U38 976 (p).toNat = Xi T37 976 (p).toNat from by rw [eU38]; exact Xi_ne (by omega)).trans ( (show Xi T37 976 (p).toNat = Xi U30 976 (p).toNat from (w746.cx 976 rfl _).1).trans ((show Xi U30 976 (p).toNat = Xi U29 976 (p).toNat from by rw [eU30]; exact Xi_ne (by omega)))))
            have w864 : Xi T41 977 (p).toNat = Xi U30 977 (p).toNat := (show Xi T41 977 (p).toNat = Xi U38 977 (p).toNat from (w856.cx 977 rfl _).1).trans ( (show Xi U38 977 (p).toNat = Xi T37 977 (p).toNat from by rw [eU38]; exact Xi_ne (by omega)).trans ((show Xi T37 977 (p).toNat = Xi U30 977 (p).toNat from (w746.cx 977 rfl _).1)))
            have w865 : 0 ≤ Xi T41 904 106 ∧ Xi T41 904 106 ≤ 9 := hHT41.c _ _
            have w866 : Xi T41 904 115 = Xi S 904 115 := (show Xi T41 904 115 = Xi U38 904 115 from w856.x _ _ rfl).trans ( (show Xi U38 904 115 = Xi T37 904 115 from by rw [eU38]; exact Xi_ne (by omega)).trans ( (show Xi T37 904 115 = Xi U30 904 115 from w746.x _ _ rfl).trans ( (show Xi U30 904 115 = Xi U29 904 115 from by rw [eU30]; exact Xi_ne (by omega)).trans ((show Xi U29 904 115 = Xi S 904 115 from by rw [eU29]; exact Xi_ne (by omega))))))
            have w867 : -1 ≤ Xi S 904 115 ∧ Xi S 904 115 ≤ 15 := hH.c _ _
            have w868 : Xi T41 904 128 = Xi S 904 128 := (show Xi T41 904 128 = Xi U38 904 128 from w856.x _ _ rfl).trans ( (show Xi U38 904 128 = Xi T37 904 128 from by rw [eU38]; exact Xi_ne (by omega)).trans ( (show Xi T37 904 128 = Xi U30 904 128 from w746.x _ _ rfl).trans ( (show Xi U30 904 128 = Xi U29 904 128 from by rw [eU30]; exact Xi_ne (by omega)).trans ((show Xi U29 904 128 = Xi S 904 128 from by rw [eU29]; exact Xi_ne (by omega))))))
            have w869 : 0 ≤ Xi S 904 128 ∧ Xi S 904 128 ≤ 11 := hH.c _ _
            have w870 : Xi T41 904 129 = Xi S 904 129 := (show Xi T41 904 129 = Xi U38 904 129 from w856.x _ _ rfl).trans ( (show Xi U38 904 129 = Xi T37 904 129 from by rw [eU38]; exact Xi_ne (by omega)).trans ( (show Xi T37 904 129 = Xi U30 904 129 from w746.x _ _ rfl).trans ( (show Xi U30 904 129 = Xi U29 904 129 from by rw [eU30]; exact Xi_ne (by omega)).trans ((show Xi U29 904 129 = Xi S 904 129 from by rw [eU29]; exact Xi_ne (by omega))))))
            have w871 : -1 ≤ Xi S 904 129 ∧ Xi S 904 129 ≤ 23 := hH.c _ _
            have w872 : Xi T41 904 69 = Xi S 904 69 := (show Xi T41 904 69 = Xi U38 904 69 from w856.x _ _ rfl).trans ( (show Xi U38 904 69 = Xi T37 904 69 from by rw [eU38]; exact Xi_ne (by omega)).trans ( (show Xi T37 904 69 = Xi U30 904 69 from w746.x _ _ rfl).trans ( (show Xi U30 904 69 = Xi U29 904 69 from by rw [eU30]; exact Xi_ne (by omega)).trans ((show Xi U29 904 69 = Xi S 904 69 from by rw [eU29]; exact Xi_ne (by omega))))))
            have w873 : 0 ≤ Xi S 904 69 ∧ Xi S 904 69 ≤ 2600 := hH.c _ _
            exact Rl_weak (C210 T41 hHT41 hFT41 ((Xi S 964 ((i).toNat))) (by omega) ((KQ_FR w856 rfl (KQ.w (KQ_FR w746 rfl (KQ.w (KQ.w KQ.rf eU29 (by omega)) eU30 (by omega))) eU38 (by omega)))) ((KH_FR w856 rfl (KH_FR (FR_e eU38) rfl (KH_FR w746 rfl (by assumption : KH U30 _ _))))) (by omega) (by omega) (by omega) (by omega) (by omega) (by omega) (by omega) (fun x => by rw [show Xi T41 971 (q).toNat = _ from (by assumption)]; exact th156 (by omega))) (And.intro rfl (And.intro rfl (And.intro rfl (True.intro))))
    · refine l_aload_n rfl rfl ?_
      refine l_iload rfl rfl ?_
      refine l_iload_n rfl rfl ?_
      refine l_iconst rfl ?_
      have w874 : Xi U30 904 106 = Xi S 904 106 := (show Xi U30 904 106 = Xi U29 904 106 from by rw [eU30]; exact Xi_ne (by omega)).trans ((show Xi U29 904 106 = Xi S 904 106 from by rw [eU29]; exact Xi_ne (by omega)))
      have w875 : 0 ≤ Xi S 904 106 ∧ Xi S 904 106 ≤ 9 := hH.c _ _
      have w876 : Xi U30 904 115 = Xi S 904 115 := (show Xi U30 904 115 = Xi U29 904 115 from by rw [eU30]; exact Xi_ne (by omega)).trans ((show Xi U29 904 115 = Xi S 904 115 from by rw [eU29]; exact Xi_ne (by omega)))
      have w877 : -1 ≤ Xi S 904 115 ∧ Xi S 904 115 ≤ 15 := hH.c _ _
      have w878 : Xi U30 904 116 = Xi S 904 116 := (show Xi U30 904 116 = Xi U29 904 116 from by rw [eU30]; exact Xi_ne (by omega)).trans ((show Xi U29 904 116 = Xi S 904 116 from by rw [eU29]; exact Xi_ne (by omega)))
      have w879 : -1 ≤ Xi S 904 116 ∧ Xi S 904 116 ≤ 15 := hH.c _ _
      have w880 : Xi U30 904 128 = Xi S 904 128 := (show Xi U30 904 128 = Xi U29 904 128 from by rw [eU30]; exact Xi_ne (by omega)).trans ((show Xi U29 904 128 = Xi S 904 128 from by rw [eU29]; exact Xi_ne (by omega)))
      have w881 : 0 ≤ Xi S 904 128 ∧ Xi S 904 128 ≤ 11 := hH.c _ _
      have w882 : Xi U30 904 129 = Xi S 904 129 := (show Xi U30 904 129 = Xi U29 904 129 from by rw [eU30]; exact Xi_ne (by omega)).trans ((show Xi U29 904 129 = Xi S 904 129 from by rw [eU29]; exact Xi_ne (by omega)))
      have w883 : -1 ≤ Xi S 904 129 ∧ Xi S 904 129 ≤ 23 := hH.c _ _
      have w884 : Xi U30 904 69 = Xi S 904 69 := (show Xi U30 904 69 = Xi U29 904 69 from by rw [eU30]; exact Xi_ne (by omega)).trans ((show Xi U29 904 69 = Xi S 904 69 from by rw [eU29]; exact Xi_ne (by omega)))
      have w885 : 0 ≤ Xi S 904 69 ∧ Xi S 904 69 ≤ 2600 := hH.c _ _
      refine l_callV rfl rfl rfl (t_mo_testMeant hHU30 n (Xi S 964 ((i).toNat)) q 1 ⟨by omega, by omega⟩ ⟨by omega, by omega⟩ ⟨by omega, by omega⟩ (by first | assumption | exact (TK_FR hFU30 rfl (by assumption : TK S _))) (by first | assumption | exact (RNV_FR hFU30 rfl (by assumption : RNV S _))) (by first | assumption | exact (LXM_FR hFU30 rfl (by assumption : LXM S))) (by first | assumption | exact (ABV_FR hFU30 rfl (by assumption : ABV S))) (by first | assumption | exact (DCM_FR hFU30 rfl (by assumption : DCM S))) (by first | assumption | exact (TXK_FR hFU30 rfl (by assumption : TXK S _))) (TV_FR hFU30 rfl (hp.2.1 (by omega)).1) (fun _ => by rw [(hFU30.cx 952 rfl _).1]; exact (hp.2.1 (by omega)).2) _) ?_
      rintro _ T42 ⟨hHT42, w889, rfl, w886, t120, n120, w887⟩
      have hFT42 : FR md_mo_phraseMeant S T42 := FR.tr hFU30 w889 rfl
      show Rl _ _ _ _ _ [] _ _
      refine l_goto rfl rfl ?_
      refine l_return rfl rfl ?_
      have w890 : Xi T42 976 (p).toNat = Xi U29 976 (p).toNat := (show Xi T42 976 (p).toNat = Xi U30 976 (p).toNat from (w889.cx 976 rfl _).1).trans ((show Xi U30 976 (p).toNat = Xi U29 976 (p).toNat from by rw [eU30]; exact Xi_ne (by omega)))
      have w891 : Xi T42 977 (p).toNat = Xi U30 977 (p).toNat := (show Xi T42 977 (p).toNat = Xi U30 977 (p).toNat from (w889.cx 977 rfl _).1)
      have w892 : 0 ≤ Xi T42 904 106 ∧ Xi T42 904 106 ≤ 9 := hHT42.c _ _
      have w893 : Xi T42 904 115 = Xi S 904 115 := (show Xi T42 904 115 = Xi U30 904 115 from w889.x _ _ rfl).trans ( (show Xi U30 904 115 = Xi U29 904 115 from by rw [eU30]; exact Xi_ne (by omega)).trans ((show Xi U29 904 115 = Xi S 904 115 from by rw [eU29]; exact Xi_ne (by omega))))
      have w894 : -1 ≤ Xi S 904 115 ∧ Xi S 904 115 ≤ 15 := hH.c _ _
      have w895 : Xi T42 904 128 = Xi S 904 128 := (show Xi T42 904 128 = Xi U30 904 128 from w889.x _ _ rfl).trans ( (show Xi U30 904 128 = Xi U29 904 128 from by rw [eU30]; exact Xi_ne (by omega)).trans ((show Xi U29 904 128 = Xi S 904 128 from by rw [eU29]; exact Xi_ne (by omega))))
      have w896 : 0 ≤ Xi S 904 128 ∧ Xi S 904 128 ≤ 11 := hH.c _ _
      have w897 : Xi T42 904 129 = Xi S 904 129 := (show Xi T42 904 129 = Xi U30 904 129 from w889.x _ _ rfl).trans ( (show Xi U30 904 129 = Xi U29 904 129 from by rw [eU30]; exact Xi_ne (by omega)).trans ((show Xi U29 904 129 = Xi S 904 129 from by rw [eU29]; exact Xi_ne (by omega))))
      have w898 : -1 ≤ Xi S 904 129 ∧ Xi S 904 129 ≤ 23 := hH.c _ _
      have w899 : Xi T42 904 69 = Xi S 904 69 := (show Xi T42 904 69 = Xi U30 904 69 from w889.x _ _ rfl).trans ( (show Xi U30 904 69 = Xi U29 904 69 from by rw [eU30]; exact Xi_ne (by omega)).trans ((show Xi U29 904 69 = Xi S 904 69 from by rw [eU29]; exact Xi_ne (by omega))))
      have w900 : 0 ≤ Xi S 904 69 ∧ Xi S 904 69 ≤ 2600 := hH.c _ _
      exact ⟨hHT42, hFT42, rfl, (by omega), (by first | exact (fun _ q => pq_i (q := (q).toNat) (w := 0) (pqt_0 (by omega)) (by omega) (by omega) (by omega)) o42 | exact (fun _ q => pq_i (q := (q).toNat) (w := 1) (pqt_1 ⟨(t120 (by omega)).mono (fun y => absurd y (by omega)) (fun y => by omega), (n120 (by omega) rfl).1, (n120 (by omega) rfl).2⟩) (by omega) (by omega) (by omega)) t120 | exact (fun _ q => pq_i (q := (q).toNat) (w := 2) (pqt_2 (thk_c (H210 (by omega)) (hFT42.x 904 19 rfl) (by omega)) (thk_c (th230 (by omega)) (hFT42.x 904 19 rfl) (by omega))) (by omega) (by omega) (by omega)) th230 | exact (fun _ q => pq_i (q := (q).toNat) (w := Xi T42 976 (p).toNat) (pqt_3 (by omega) (thk_c (th277 (by omega)) (hFT42.x 904 19 rfl) (by omega)) (by have a := hFT42.x 904 32 rfl; omega) (by rw [(hFT42.cx 928 rfl _).1, show Xi T42 972 (q).toNat = rnR S (Xi S 956 (Xi S 964 (i).toNat).toNat) 7 from by have t := p300 (by omega); omega]; have t := n312 (by omega); omega)) (by omega) (by omega) (by omega)) th277 | exact (fun _ q => pq_i (q := (q).toNat) (w := 5) (pqt_5 (by have a := hFT42.x 904 49 rfl; have t := (Z537 (by omega)).1; omega) (fun y => (by by_cases c : Xi S 953 (Xi S 964 (i).toNat).toNat = 0; exact Or.inl (by have t := (Z537 (by omega)).2.1 c (by omega); have a := hFT42.x 904 19 rfl; omega); exact thk_c (Y537 (by omega) c) (hFT42.x 904 19 rfl) (by omega))) (fun y => by rw [(hFT42.cx 942 rfl _).1, show Xi T42 972 (q).toNat = Xi S 972 (q).toNat by omega]; exact (Z537 (by omega)).2.2 (by omega) (by omega))) (by omega) (by omega) (by omega)) Z537 | exact fun x => pq_i (q := (q).toNat) (w := 6) pqt_6 (by omega) (by omega) (by omega) | exact fun x => absurd x (by omega)), ((KQ.tr (KQ.w (KQ.w KQ.rf eU29 (by omega)) eU30 (by omega)) (by assumption : KQ T42 U30 _))), ((KH_FR w889 rfl (by assumption : KH U30 _ _))), (by omega)⟩
  · refine l_aload_n rfl rfl ?_
    refine l_gfr rfl rfl rfl rfl rfl (hHU30.r 904 87 957 rfl) ?_
    refine l_iload rfl rfl ?_
    refine l_iaload (n := 1700) rfl rfl (by omega) (by omega) (by unfold rg; omega) ?_
    have w901 : 0 ≤ (Xi U30 957 (((Xi S 964 ((i).toNat))).toNat)) ∧ (Xi U30 957 (((Xi S 964 ((i).toNat))).toNat)) ≤ 5010 := hHU30.c _ _
    have e42 : (Xi U30 957 (((Xi S 964 ((i).toNat))).toNat)) = Xi S 957 (Xi S 964 (i).toNat).toNat := by first | rfl | exact (hFU30.cx 957 rfl _).1 | exact (hFU29.cx 957 rfl _).1 | exact (hFS.cx 957 rfl _).1 | (rw [(hFU30.cx 957 rfl _).1]; exact congrArg (fun t : Int => Xi S 957 t.toNat) (by omega)) | (rw [(hFU29.cx 957 rfl _).1]; exact congrArg (fun t : Int => Xi S 957 t.toNat) (by omega)) | (rw [(hFS.cx 957 rfl _).1]; exact congrArg (fun t : Int => Xi S 957 t.toNat) (by omega))
    have b42 := hp.1 (by omega)
    have l42 : Xi S 957 (Xi S 964 (i).toNat).toNat < n := tk_lt hT (by have := (hH.c 957 (Xi S 964 (i).toNat).toNat).1; omega) b42.1 (by have := b42.2; omega)
    have o42 : Xi S 908 (Xi S 957 (Xi S 964 (i).toNat).toNat).toNat + 1 + Xi S 909 (Xi S 957 (Xi S 964 (i).toNat).toNat).toNat ≤ 5000 := hK (Xi S 957 (Xi S 964 (i).toNat).toNat).toNat (by have := (hH.c 957 (Xi S 964 (i).toNat).toNat).1; omega) b42.2
    have g42 : 0 ≤ Xi S 908 (Xi S 957 (Xi S 964 (i).toNat).toNat).toNat ∧ 0 ≤ Xi S 909 (Xi S 957 (Xi S 964 (i).toNat).toNat).toNat := ⟨(hH.c 908 _).1, (hH.c 909 _).1⟩
    have x908 : ∀ T : sS, (∀ j, Xi T 908 j = Xi S 908 j) → Xi T 908 ((Xi U30 957 (((Xi S 964 ((i).toNat))).toNat))).toNat = Xi S 908 (Xi S 957 (Xi S 964 (i).toNat).toNat).toNat := fun T h => by rw [h, e42]
    have x909 : ∀ T : sS, (∀ j, Xi T 909 j = Xi S 909 j) → Xi T 909 ((Xi U30 957 (((Xi S 964 ((i).toNat))).toNat))).toNat = Xi S 909 (Xi S 957 (Xi S 964 (i).toNat).toNat).toNat := fun T h => by rw [h, e42]
    refine l_istore rfl rfl rfl ?_
    refine l_aload_n rfl rfl ?_
    refine l_gfr rfl rfl rfl rfl rfl (hHU30.r 904 122 973 rfl) ?_
    refine l_iload_n rfl rfl ?_
    refine l_aload_n rfl rfl ?_
    refine l_gfr rfl rfl rfl rfl rfl (hHU30.r 904 5 908 rfl) ?_
    refine l_iload rfl rfl ?_
    refine l_iaload (n := 5002) rfl rfl (by omega) (by omega) (by unfold rg; omega) ?_
    have w902 : 0 ≤ (Xi U30 908 (((Xi U30 957 (((Xi S 964 ((i).toNat))).toNat))).toNat)) ∧ (Xi U30 908 (((Xi U30 957 (((Xi S 964 ((i).toNat))).toNat))).toNat)) ≤ 5000 := hHU30.c _ _
    have e56 := x908 U30 (fun j => (hFU30.cx 908 rfl j).1)
    refine l_iconst rfl ?_
    refine l_iadd rfl ?_
    refine l_iastore (n := 2400) rfl rfl (by omega) (by omega) (by unfold rg; omega) ?_
    obtain ⟨U43, eU43⟩ : ∃ T : sS, T = uI U30 973 ((q).toNat) (Int32.ofInt ((Xi U30 908 (((Xi U30 957 (((Xi S 964 ((i).toNat))).toNat))).toNat)) + 1)) := ⟨_, rfl⟩
    rw [← eU43]
    have hHU43 : HI U43 := by rw [eU43]; exact HI_any hHU30 (rfl)
    have hFU43 : FR md_mo_phraseMeant S U43 := by rw [eU43]; exact FR.wI hFU30 (mdf_i (r := (973, 974, 0, 100000)) (List.mem_of_getElem? (i := 16) rfl) (inR_i (by omega) (by omega) (by omega) (by omega)))
    have w903 : Xi U43 973 ((q).toNat) = ((Xi U30 908 (((Xi U30 957 (((Xi S 964 ((i).toNat))).toNat))).toNat)) + 1) := by rw [eU43]; exact Xi_same (by unfold rg; omega)
    refine l_aload_n rfl rfl ?_
    refine l_gfr rfl rfl rfl rfl rfl (hHU43.r 904 123 974 rfl) ?_
    refine l_iload_n rfl rfl ?_
    refine l_aload_n rfl rfl ?_
    refine l_gfr rfl rfl rfl rfl rfl (hHU43.r 904 6 909 rfl) ?_
    refine l_iload rfl rfl ?_
    refine l_iaload (n := 5002) rfl rfl (by omega) (by omega) (by unfold rg; omega) ?_
    have w904 : 0 ≤ (Xi U43 909 (((Xi U30 957 (((Xi S 964 ((i).toNat))).toNat))).toNat)) ∧ (Xi U43 909 (((Xi U30 957 (((Xi S 964 ((i).toNat))).toNat))).toNat)) ≤ 5000 := hHU43.c _ _
    have e71 := x909 U43 (fun j => (hFU43.cx 909 rfl j).1)
    refine l_iastore (n := 2400) rfl rfl (by omega) (by omega) (by unfold rg; omega) ?_
    obtain ⟨U44, eU44⟩ : ∃ T : sS, T = uI U43 974 ((q).toNat) (Int32.ofInt (Xi U43 909 (((Xi U30 957 (((Xi S 964 ((i).toNat))).toNat))).toNat))) := ⟨_, rfl⟩
    rw [← eU44]
    have hHU44 : HI U44 := by rw [eU44]; exact HI_any hHU43 (rfl)
    have hFU44 : FR md_mo_phraseMeant S U44 := by rw [eU44]; exact FR.wI hFU43 (mdf_i (r := (974, 975, 0, 100000)) (List.mem_of_getElem? (i := 17) rfl) (inR_i (by omega) (by omega) (by omega) (by omega)))
    have w905 : Xi U44 974 ((q).toNat) = (Xi U43 909 (((Xi U30 957 (((Xi S 964 ((i).toNat))).toNat))).toNat)) := by rw [eU44]; exact Xi_same (by unfold rg; omega)
    refine l_aload_n rfl rfl ?_
    refine l_aload_n rfl rfl ?_
    refine l_aload_n rfl rfl ?_
    refine l_gfr rfl rfl rfl rfl rfl (hHU44.r 904 5 908 rfl) ?_
    refine l_iload rfl rfl ?_
    refine l_iaload (n := 5002) rfl rfl (by omega) (by omega) (by unfold rg; omega) ?_
    have w906 : (Xi U44 908 (((Xi U30 957 (((Xi S 964 ((i).toNat))).toNat))).toNat)) = (Xi U30 908 (((Xi U30 957 (((Xi S 964 ((i).toNat))).toNat))).toNat)) := (show Xi U44 908 (((Xi U30 957 (((Xi S 964 ((i).toNat))).toNat))).toNat) = Xi U43 908 (((Xi U30 957 (((Xi S 964 ((i).toNat))).toNat))).toNat) from by rw [eU44]; exact Xi_ne (by omega)).trans ((show Xi U43 908 (((Xi U30 957 (((Xi S 964 ((i).toNat))).toNat))).toNat) = Xi U30 908 (((Xi U30 957 (((Xi S 964 ((i).toNat))).toNat))).toNat) from by rw [eU43]; exact Xi_ne (by omega)))
    rw [w906]
    have e81 := x908 U44 (fun j => (hFU44.cx 908 rfl j).1)
    refine l_iconst rfl ?_
    refine l_iadd rfl ?_
    refine l_aload_n rfl rfl ?_
    refine l_gfr rfl rfl rfl rfl rfl (hHU44.r 904 6 909 rfl) ?_
    refine l_iload rfl rfl ?_
    refine l_iaload (n := 5002) rfl rfl (by omega) (by omega) (by unfold rg; omega) ?_
    have w907 : (Xi U44 909 (((Xi U30 957 (((Xi S 964 ((i).toNat))).toNat))).toNat)) = (Xi U43 909 (((Xi U30 957 (((Xi S 964 ((i).toNat))).toNat))).toNat)) := (show Xi U44 909 (((Xi U30 957 (((Xi S 964 ((i).toNat))).toNat))).toNat) = Xi U43 909 (((Xi U30 957 (((Xi S 964 ((i).toNat))).toNat))).toNat) from by rw [eU44]; exact Xi_ne (by omega))
    rw [w907]
    have e90 := x909 U44 (fun j => (hFU44.cx 909 rfl j).1)
    refine l_iconst rfl ?_
    have w908 : Xi U44 904 106 = Xi S 904 106 := (show Xi U44 904 106 = Xi U43 904 106 from by rw [eU44]; exact Xi_ne (by omega)).trans ( (show Xi U43 904 106 = Xi U30 904 106 from by rw [eU43]; exact Xi_ne (by omega)).trans ( (show Xi U30 904 106 = Xi U29 904 106 from by rw [eU30]; exact Xi_ne (by omega)).trans ((show Xi U29 904 106 = Xi S 904 106 from by rw [eU29]; exact Xi_ne (by omega)))))
    have w909 : 0 ≤ Xi S 904 106 ∧ Xi S 904 106 ≤ 9 := hH.c _ _
    have w910 : Xi U44 904 115 = Xi S 904 115 := (show Xi U44 904 115 = Xi U43 904 115 from by rw [eU44]; exact Xi_ne (by omega)).trans ( (show Xi U43 904 115 = Xi U30 904 115 from by rw [eU43]; exact Xi_ne (by omega)).trans ( (show Xi U30 904 115 = Xi U29 904 115 from by rw [eU30]; exact Xi_ne (by omega)).trans ((show Xi U29 904 115 = Xi S 904 115 from by rw [eU29]; exact Xi_ne (by omega)))))
    have w911 : -1 ≤ Xi S 904 115 ∧ Xi S 904 115 ≤ 15 := hH.c _ _
    have w912 : Xi U44 904 128 = Xi S 904 128 := (show Xi U44 904 128 = Xi U43 904 128 from by rw [eU44]; exact Xi_ne (by omega)).trans ( (show Xi U43 904 128 = Xi U30 904 128 from by rw [eU43]; exact Xi_ne (by omega)).trans ( (show Xi U30 904 128 = Xi U29 904 128 from by rw [eU30]; exact Xi_ne (by omega)).trans ((show Xi U29 904 128 = Xi S 904 128 from by rw [eU29]; exact Xi_ne (by omega)))))
    have w913 : 0 ≤ Xi S 904 128 ∧ Xi S 904 128 ≤ 11 := hH.c _ _
    have w914 : Xi U44 904 129 = Xi S 904 129 := (show Xi U44 904 129 = Xi U43 904 129 from by rw [eU44]; exact Xi_ne (by omega)).trans ( (show Xi U43 904 129 = Xi U30 904 129 from by rw [eU43]; exact Xi_ne (by omega)).trans ( (show Xi U30 904 129 = Xi U29 904 129 from by rw [eU30]; exact Xi_ne (by omega)).trans ((show Xi U29 904 129 = Xi S 904 129 from by rw [eU29]; exact Xi_ne (by omega)))))
    have w915 : -1 ≤ Xi S 904 129 ∧ Xi S 904 129 ≤ 23 := hH.c _ _
    have w916 : Xi U44 904 19 = Xi S 904 19 := (show Xi U44 904 19 = Xi U43 904 19 from by rw [eU44]; exact Xi_ne (by omega)).trans ( (show Xi U43 904 19 = Xi U30 904 19 from by rw [eU43]; exact Xi_ne (by omega)).trans ( (show Xi U30 904 19 = Xi U29 904 19 from by rw [eU30]; exact Xi_ne (by omega)).trans ((show Xi U29 904 19 = Xi S 904 19 from by rw [eU29]; exact Xi_ne (by omega)))))
    have w917 : 0 ≤ Xi S 904 19 ∧ Xi S 904 19 ≤ 24 := hH.c _ _
    have w918 : Xi U44 904 69 = Xi S 904 69 := (show Xi U44 904 69 = Xi U43 904 69 from by rw [eU44]; exact Xi_ne (by omega)).trans ( (show Xi U43 904 69 = Xi U30 904 69 from by rw [eU43]; exact Xi_ne (by omega)).trans ( (show Xi U30 904 69 = Xi U29 904 69 from by rw [eU30]; exact Xi_ne (by omega)).trans ((show Xi U29 904 69 = Xi S 904 69 from by rw [eU29]; exact Xi_ne (by omega)))))
    have w919 : 0 ≤ Xi S 904 69 ∧ Xi S 904 69 ≤ 2600 := hH.c _ _
    refine l_callV rfl rfl rfl (t_mo_says hHU44 ((Xi U30 908 (((Xi U30 957 (((Xi S 964 ((i).toNat))).toNat))).toNat)) + 1) (Xi U43 909 (((Xi U30 957 (((Xi S 964 ((i).toNat))).toNat))).toNat)) (-1) ⟨by omega, by omega⟩ ⟨by omega, by omega⟩ ⟨by omega, by omega⟩ (by first | assumption | omega) (by first | assumption | exact (LXM_FR hFU44 rfl (by assumption : LXM S))) (by first | assumption | exact (ABV_FR hFU44 rfl (by assumption : ABV S))) (by first | assumption | exact (TXM_FR hFU44 rfl (by assumption : TXM S))) (by first | assumption | omega) _) ?_
    rintro _ T45 ⟨hHT45, w921, z920, rfl, w920⟩
    have hFT45 : FR md_mo_phraseMeant S T45 := FR.tr hFU44 w921 rfl
    show Rl _ _ _ _ _ [iv z920, .ref 904] _ _
    refine l_bipush rfl rfl ?_
    refine l_iload rfl rfl ?_
    have w922 : Xi T45 904 106 = Xi S 904 106 := (show Xi T45 904 106 = Xi U44 904 106 from w921.x _ _ rfl).trans ( (show Xi U44 904 106 = Xi U43 904 106 from by rw [eU44]; exact Xi_ne (by omega)).trans ( (show Xi U43 904 106 = Xi U30 904 106 from by rw [eU43]; exact Xi_ne (by omega)).trans ( (show Xi U30 904 106 = Xi U29 904 106 from by rw [eU30]; exact Xi_ne (by omega)).trans ((show Xi U29 904 106 = Xi S 904 106 from by rw [eU29]; exact Xi_ne (by omega))))))
    have w923 : 0 ≤ Xi S 904 106 ∧ Xi S 904 106 ≤ 9 := hH.c _ _
    have w924 : Xi T45 904 115 = Xi S 904 115 := (show Xi T45 904 115 = Xi U44 904 115 from w921.x _ _ rfl).trans ( (show Xi U44 904 115 = Xi U43 904 115 from by rw [eU44]; exact Xi_ne (by omega)).trans ( (show Xi U43 904 115 = Xi U30 904 115 from by rw [eU43]; exact Xi_ne (by omega)).trans ( (show Xi U30 904 115 = Xi U29 904 115 from by rw [eU30]; exact Xi_ne (by omega)).trans ((show Xi U29 904 115 = Xi S 904 115 from by rw [eU29]; exact Xi_ne (by omega))))))
    have w925 : -1 ≤ Xi S 904 115 ∧ Xi S 904 115 ≤ 15 := hH.c _ _
    have w926 : Xi T45 904 128 = Xi S 904 128 := (show Xi T45 904 128 = Xi U44 904 128 from w921.x _ _ rfl).trans ( (show Xi U44 904 128 = Xi U43 904 128 from by rw [eU44]; exact Xi_ne (by omega)).trans ( (show Xi U43 904 128 = Xi U30 904 128 from by rw [eU43]; exact Xi_ne (by omega)).trans ( (show Xi U30 904 128 = Xi U29 904 128 from by rw [eU30]; exact Xi_ne (by omega)).trans ((show Xi U29 904 128 = Xi S 904 128 from by rw [eU29]; exact Xi_ne (by omega))))))
    have w927 : 0 ≤ Xi S 904 128 ∧ Xi S 904 128 ≤ 11 := hH.c _ _
    have w928 : Xi T45 904 129 = Xi S 904 129 := (show Xi T45 904 129 = Xi U44 904 129 from w921.x _ _ rfl).trans ( (show Xi U44 904 129 = Xi U43 904 129 from by rw [eU44]; exact Xi_ne (by omega)).trans ( (show Xi U43 904 129 = Xi U30 904 129 from by rw [eU43]; exact Xi_ne (by omega)).trans ( (show Xi U30 904 129 = Xi U29 904 129 from by rw [eU30]; exact Xi_ne (by omega)).trans ((show Xi U29 904 129 = Xi S 904 129 from by rw [eU29]; exact Xi_ne (by omega))))))
    have w929 : -1 ≤ Xi S 904 129 ∧ Xi S 904 129 ≤ 23 := hH.c _ _
    have w930 : Xi T45 904 69 = Xi S 904 69 := (show Xi T45 904 69 = Xi U44 904 69 from w921.x _ _ rfl).trans ( (show Xi U44 904 69 = Xi U43 904 69 from by rw [eU44]; exact Xi_ne (by omega)).trans ( (show Xi U43 904 69 = Xi U30 904 69 from by rw [eU43]; exact Xi_ne (by omega)).trans ( (show Xi U30 904 69 = Xi U29 904 69 from by rw [eU30]; exact Xi_ne (by omega)).trans ((show Xi U29 904 69 = Xi S 904 69 from by rw [eU29]; exact Xi_ne (by omega))))))
    have w931 : 0 ≤ Xi S 904 69 ∧ Xi S 904 69 ≤ 2600 := hH.c _ _
    refine l_callV rfl rfl rfl (t_mo_need hHT45 z920 8 (Xi U30 957 (((Xi S 964 ((i).toNat))).toNat)) ⟨by omega, by omega⟩ ⟨by omega, by omega⟩ ⟨by omega, by omega⟩ _) ?_
    rintro _ T46 ⟨hHT46, w935, rfl, w932, w933⟩
    have hFT46 : FR md_mo_phraseMeant S T46 := FR.tr hFT45 w935 rfl
    show Rl _ _ _ _ _ [] _ _
    refine l_goto rfl rfl ?_
    refine l_return rfl rfl ?_
    have w936 : Xi T46 970 (q).toNat = Xi S 970 (q).toNat := (show Xi T46 970 (q).toNat = Xi T45 970 (q).toNat from (w935.cx 970 rfl _).1).trans ( (show Xi T45 970 (q).toNat = Xi U44 970 (q).toNat from (w921.cx 970 rfl _).1).trans ( (show Xi U44 970 (q).toNat = Xi U43 970 (q).toNat from by rw [eU44]; exact Xi_ne (by omega)).trans ( (show Xi U43 970 (q).toNat = Xi U30 970 (q).toNat from by rw [eU43]; exact Xi_ne (by omega)).trans ( (show Xi U30 970 (q).toNat = Xi U29 970 (q).toNat from by rw [eU30]; exact Xi_ne (by omega)).trans ((show Xi U29 970 (q).toNat = Xi S 970 (q).toNat from by rw [eU29]; exact Xi_ne (by omega)))))))
    have w937 : Xi T46 971 (q).toNat = Xi S 971 (q).toNat := (show Xi T46 971 (q).toNat = Xi T45 971 (q).toNat from (w935.cx 971 rfl _).1).trans ( (show Xi T45 971 (q).toNat = Xi U44 971 (q).toNat from (w921.cx 971 rfl _).1).trans ( (show Xi U44 971 (q).toNat = Xi U43 971 (q).toNat from by rw [eU44]; exact Xi_ne (by omega)).trans ( (show Xi U43 971 (q).toNat = Xi U30 971 (q).toNat from by rw [eU43]; exact Xi_ne (by omega)).trans ( (show Xi U30 971 (q).toNat = Xi U29 971 (q).toNat from by rw [eU30]; exact Xi_ne (by omega)).trans ((show Xi U29 971 (q).toNat = Xi S 971 (q).toNat from by rw [eU29]; exact Xi_ne (by omega)))))))
    have w938 : Xi T46 972 (q).toNat = Xi S 972 (q).toNat := (show Xi T46 972 (q).toNat = Xi T45 972 (q).toNat from (w935.cx 972 rfl _).1).trans ( (show Xi T45 972 (q).toNat = Xi U44 972 (q).toNat from (w921.cx 972 rfl _).1).trans ( (show Xi U44 972 (q).toNat = Xi U43 972 (q).toNat from by rw [eU44]; exact Xi_ne (by omega)).trans ( (show Xi U43 972 (q).toNat = Xi U30 972 (q).toNat from by rw [eU43]; exact Xi_ne (by omega)).trans ( (show Xi U30 972 (q).toNat = Xi U29 972 (q).toNat from by rw [eU30]; exact Xi_ne (by omega)).trans ((show Xi U29 972 (q).toNat = Xi S 972 (q).toNat from by rw [eU29]; exact Xi_ne (by omega)))))))
    have w939 : Xi T46 973 (q).toNat = Xi U43 973 (q).toNat := (show Xi T46 973 (q).toNat = Xi T45 973 (q).toNat from (w935.cx 973 rfl _).1).trans ( (show Xi T45 973 (q).toNat = Xi U44 973 (q).toNat from (w921.cx 973 rfl _).1).trans ((show Xi U44 973 (q).toNat = Xi U43 973 (q).toNat from by rw [eU44]; exact Xi_ne (by omega))))
    have w940 : Xi T46 974 (q).toNat = Xi U44 974 (q).toNat := (show Xi T46 974 (q).toNat = Xi T45 974 (q).toNat from (w935.cx 974 rfl _).1).trans ((show Xi T45 974 (q).toNat = Xi U44 974 (q).toNat from (w921.cx 974 rfl _).1))
    have w941 : Xi T46 975 (q).toNat = Xi S 975 (q).toNat := (show Xi T46 975 (q).toNat = Xi T45 975 (q).toNat from (w935.cx 975 rfl _).1).trans ( (show Xi T45 975 (q).toNat = Xi U44 975 (q).toNat from (w921.cx 975 rfl _).1).trans ( (show Xi U44 975 (q).toNat = Xi U43 975 (q).toNat from by rw [eU44]; exact Xi_ne (by omega)).trans ( (show Xi U43 975 (q).toNat = Xi U30 975 (q).toNat from by rw [eU43]; exact Xi_ne (by omega)).trans ( (show Xi U30 975 (q).toNat = Xi U29 975 (q).toNat from by rw [eU30]; exact Xi_ne (by omega)).trans ((show Xi U29 975 (q).toNat = Xi S 975 (q).toNat from by rw [eU29]; exact Xi_ne (by omega)))))))
    have w942 : Xi T46 976 (p).toNat = Xi U29 976 (p).toNat := (show Xi T46 976 (p).toNat = Xi T45 976 (p).toNat from (w935.cx 976 rfl _).1).trans ( (show Xi T45 976 (p).toNat = Xi U44 976 (p).toNat from (w921.cx 976 rfl _).1).trans ( (show Xi U44 976 (p).toNat = Xi U43 976 (p).toNat from by rw [eU44]; exact Xi_ne (by omega)).trans ( (show Xi U43 976 (p).toNat = Xi U30 976 (p).toNat from by rw [eU43]; exact Xi_ne (by omega)).trans ((show Xi U30 976 (p).toNat = Xi U29 976 (p).toNat from by rw [eU30]; exact Xi_ne (by omega))))))
    have w943 : Xi T46 977 (p).toNat = Xi U30 977 (p).toNat := (show Xi T46 977 (p).toNat = Xi T45 977 (p).toNat from (w935.cx 977 rfl _).1).trans ( (show Xi T45 977 (p).toNat = Xi U44 977 (p).toNat from (w921.cx 977 rfl _).1).trans ( (show Xi U44 977 (p).toNat = Xi U43 977 (p).toNat from by rw [eU44]; exact Xi_ne (by omega)).trans ((show Xi U43 977 (p).toNat = Xi U30 977 (p).toNat from by rw [eU43]; exact Xi_ne (by omega)))))
    have w944 : 0 ≤ Xi T46 904 106 ∧ Xi T46 904 106 ≤ 9 := hHT46.c _ _
    have w945 : Xi T46 904 115 = Xi S 904 115 := (show Xi T46 904 115 = Xi T45 904 115 from w935.x _ _ rfl).trans ( (show Xi T45 904 115 = Xi U44 904 115 from w921.x _ _ rfl).trans ( (show Xi U44 904 115 = Xi U43 904 115 from by rw [eU44]; exact Xi_ne (by omega)).trans ( (show Xi U43 904 115 = Xi U30 904 115 from by rw [eU43]; exact Xi_ne (by omega)).trans ( (show Xi U30 904 115 = Xi U29 904 115 from by rw [eU30]; exact Xi_ne (by omega)).trans ((show Xi U29 904 115 = Xi S 904 115 from by rw [eU29]; exact Xi_ne (by omega)))))))
    have w946 : -1 ≤ Xi S 904 115 ∧ Xi S 904 115 ≤ 15 := hH.c _ _
    have w947 : Xi T46 904 128 = Xi S 904 128 := (show Xi T46 904 128 = Xi T45 904 128 from w935.x _ _ rfl).trans ( (show Xi T45 904 128 = Xi U44 904 128 from w921.x _ _ rfl).trans ( (show Xi U44 904 128 = Xi U43 904 128 from by rw [eU44]; exact Xi_ne (by omega)).trans ( (show Xi U43 904 128 = Xi U30 904 128 from by rw [eU43]; exact Xi_ne (by omega)).trans ( (show Xi U30 904 128 = Xi U29 904 128 from by rw [eU30]; exact Xi_ne (by omega)).trans ((show Xi U29 904 128 = Xi S 904 128 from by rw [eU29]; exact Xi_ne (by omega)))))))
    have w948 : 0 ≤ Xi S 904 128 ∧ Xi S 904 128 ≤ 11 := hH.c _ _
    have w949 : Xi T46 904 129 = Xi S 904 129 := (show Xi T46 904 129 = Xi T45 904 129 from w935.x _ _ rfl).trans ( (show Xi T45 904 129 = Xi U44 904 129 from w921.x _ _ rfl).trans ( (show Xi U44 904 129 = Xi U43 904 129 from by rw [eU44]; exact Xi_ne (by omega)).trans ( (show Xi U43 904 129 = Xi U30 904 129 from by rw [eU43]; exact Xi_ne (by omega)).trans ( (show Xi U30 904 129 = Xi U29 904 129 from by rw [eU30]; exact Xi_ne (by omega)).trans ((show Xi U29 904 129 = Xi S 904 129 from by rw [eU29]; exact Xi_ne (by omega)))))))
    have w950 : -1 ≤ Xi S 904 129 ∧ Xi S 904 129 ≤ 23 := hH.c _ _
    have w951 : Xi T46 904 69 = Xi S 904 69 := (show Xi T46 904 69 = Xi T45 904 69 from w935.x _ _ rfl).trans ( (show Xi T45 904 69 = Xi U44 904 69 from w921.x _ _ rfl).trans ( (show Xi U44 904 69 = Xi U43 904 69 from by rw [eU44]; exact Xi_ne (by omega)).trans ( (show Xi U43 904 69 = Xi U30 904 69 from by rw [eU43]; exact Xi_ne (by omega)).trans ( (show Xi U30 904 69 = Xi U29 904 69 from by rw [eU30]; exact Xi_ne (by omega)).trans ((show Xi U29 904 69 = Xi S 904 69 from by rw [eU29]; exact Xi_ne (by omega)))))))
    have w952 : 0 ≤ Xi S 904 69 ∧ Xi S 904 69 ≤ 2600 := hH.c _ _
    exact ⟨hHT46, hFT46, rfl, (by omega), (by first | exact (fun _ q => pq_i (q := (q).toNat) (w := 0) (pqt_0 (by omega)) (by omega) (by omega) (by omega)) o42 | exact (fun _ q => pq_i (q := (q).toNat) (w := 1) (pqt_1 ⟨(t120 (by omega)).mono (fun y => absurd y (by omega)) (fun y => by omega), (n120 (by omega) rfl).1, (n120 (by omega) rfl).2⟩) (by omega) (by omega) (by omega)) t120 | exact (fun _ q => pq_i (q := (q).toNat) (w := 2) (pqt_2 (thk_c (H210 (by omega)) (hFT46.x 904 19 rfl) (by omega)) (thk_c (th230 (by omega)) (hFT46.x 904 19 rfl) (by omega))) (by omega) (by omega) (by omega)) th230 | exact (fun _ q => pq_i (q := (q).toNat) (w := Xi T46 976 (p).toNat) (pqt_3 (by omega) (thk_c (th277 (by omega)) (hFT46.x 904 19 rfl) (by omega)) (by have a := hFT46.x 904 32 rfl; omega) (by rw [(hFT46.cx 928 rfl _).1, show Xi T46 972 (q).toNat = rnR S (Xi S 956 (Xi S 964 (i).toNat).toNat) 7 from by have t := p300 (by omega); omega]; have t := n312 (by omega); omega)) (by omega) (by omega) (by omega)) th277 | exact (fun _ q => pq_i (q := (q).toNat) (w := 5) (pqt_5 (by have a := hFT46.x 904 49 rfl; have t := (Z537 (by omega)).1; omega) (fun y => (by by_cases c : Xi S 953 (Xi S 964 (i).toNat).toNat = 0; exact Or.inl (by have t := (Z537 (by omega)).2.1 c (by omega); have a := hFT46.x 904 19 rfl; omega); exact thk_c (Y537 (by omega) c) (hFT46.x 904 19 rfl) (by omega))) (fun y => by rw [(hFT46.cx 942 rfl _).1, show Xi T46 972 (q).toNat = Xi S 972 (q).toNat by omega]; exact (Z537 (by omega)).2.2 (by omega) (by omega))) (by omega) (by omega) (by omega)) Z537 | exact fun x => pq_i (q := (q).toNat) (w := 6) pqt_6 (by omega) (by omega) (by omega) | exact fun x => absurd x (by omega)), ((KQ_FR w935 rfl (KQ_FR w921 rfl (KQ.w (KQ.w (KQ.w (KQ.w KQ.rf eU29 (by omega)) eU30 (by omega)) eU43 (by omega)) eU44 (by omega))))), ((KH_FR w935 rfl (KH_FR w921 rfl (KH_FR (FR_e eU44) rfl (KH_FR (FR_e eU43) rfl (by assumption : KH U30 _ _)))))), (by omega)⟩
