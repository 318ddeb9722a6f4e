/-! SAFETY of methods: printed by wip/safe (vc.py, decl.py) -/
def md_mo_doDefined : List rec := [(904, 905, 15, 16), (904, 905, 23, 24), (904, 905, 117, 118), (912, 913, 0, 100000), (913, 914, 0, 100000), (914, 915, 0, 100000), (915, 916, 0, 100000), (916, 917, 0, 100000), (921, 922, 0, 100000), (922, 923, 0, 100000), (923, 924, 0, 100000), (924, 925, 0, 100000)]
abbrev Q_mo_doDefined (S : sS) (n : Nat) : pst := fun r S1 => HI S1 ∧ FR md_mo_doDefined S S1 ∧ (r = none ∧ (LXM S1) ∧ (LCN S1) ∧ (GR S1 S) ∧ (DEFM S1) ∧ (DCM S1) ∧ (Xi S1 904 117 = Xi S 904 117 + Xi S 904 94) ∧ (Xi S1 904 23 = Xi S 904 23 + 1) ∧ (Xi S1 923 (Xi S 904 23).toNat + Xi S1 924 (Xi S 904 23).toNat ≤ Xi S1 904 117))
set_option maxRecDepth 100000 in
theorem t_mo_doDefined {S : sS} (hH : HI S) (n : Nat) (hT : TK S n) (hv : RNV S n) (hM : LXM S) (hLC : LCN S) (hC : DCM S) (hD : DEFM S) (h : Xi S 904 23 ≤ 23) (h2 : 2 ≤ Xi S 904 69) (hs : Xi S 951 1 ≤ 3) (hk : rnR S 0 0 ≠ -1) (ht : 1 ≤ Xi S 904 94 ∧ Xi S 904 94 ≤ 6) (hq : TQA S True False (Xi S 904 117) (Xi S 904 94)) (hb : Xi S 904 117 ≤ 474) (d : Nat) : Mt lay0 (d + 5) m_mo_doDefined [.ref 904] S (Q_mo_doDefined S n) := by
  refine Mt_R rfl rfl ?_
  have hF : FR md_mo_doDefined S S := FR.rf
  have w1 : 0 ≤ Xi S 904 117 ∧ Xi S 904 117 ≤ 480 := hH.c _ _
  have w2 : 0 ≤ Xi S 904 23 ∧ Xi S 904 23 ≤ 24 := hH.c _ _
  have w3 : 0 ≤ Xi S 904 69 ∧ Xi S 904 69 ≤ 2600 := hH.c _ _
  have w4 : 0 ≤ Xi S 904 94 ∧ Xi S 904 94 ≤ 1700 := hH.c _ _
  have w5 : 0 ≤ Xi S 951 1 ∧ Xi S 951 1 ≤ 5010 := hH.c _ _
  have hn5 := hT.1
  have hc69 : 0 ≤ Xi S 904 69 ∧ Xi S 904 69 ≤ 2600 := hH.c _ _
  have q0 := hv 0 (by omega)
  have q1 := hv 1 (by omega)
  have g0 : 0 ≤ Xi S 950 0 ∧ Xi S 950 0 ≤ 5010 := hH.c 950 0
  have g1 : 0 ≤ Xi S 950 1 ∧ Xi S 950 1 ≤ 5010 := hH.c 950 1
  have hc15 : 0 ≤ Xi S 904 15 ∧ Xi S 904 15 ≤ 300 := hH.c _ _
  have hl9 := lcn_le hH hLC
  have hc16 : 0 ≤ Xi S 904 16 ∧ Xi S 904 16 ≤ 16 := hH.c _ _
  have hc23 : 0 ≤ Xi S 904 23 := (hH.c 904 23).1
  have hc117 : 0 ≤ Xi S 904 117 := (hH.c 904 117).1
  refine l_aload_n rfl rfl ?_
  refine l_aload_n rfl rfl ?_
  refine l_iconst rfl ?_
  refine l_iconst rfl ?_
  have w7 : 0 ≤ Xi S 904 15 ∧ Xi S 904 15 ≤ 300 := hH.c _ _
  refine l_callV rfl rfl rfl (t_mo_meansRun__2 hH n 0 0 ⟨by omega, by omega⟩ ⟨by omega, by omega⟩ (by first | assumption | exact (TK_FR hF rfl (by assumption : TK S _))) (by first | assumption | exact (RNV_FR hF rfl (by assumption : RNV S _))) (by first | assumption | omega) (by first | assumption | exact (by assumption : LXM S)) _) ?_
  rintro _ _ ⟨rfl, z13, rfl, w13, w11, w12⟩
  show Rl _ _ _ _ _ [iv z13, .ref 904] _ _
  have x4 : z13 ≠ -1 → z13 < Xi S 904 16 := fun q => by have t := (by assumption : z13 ≠ -1 → z13 < cM S 0) q; rw [cM0] at t; exact t
  have r4 : z13 = rnR S 0 0 := by assumption
  refine l_iconst rfl ?_
  refine l_callV rfl rfl rfl (t_mo_addAdjective hH z13 (-1) ⟨by omega, by omega⟩ ⟨by omega, by omega⟩ (by first | assumption | omega) _) ?_
  rintro _ T1 ⟨hHT1, w22, z21, rfl, w21, w19, w20, e8, k8⟩
  have hFT1 : FR md_mo_doDefined S T1 := FR.tr hF w22 rfl
  show Rl _ _ _ _ _ [iv z21] _ _
  have t8 : Xi T1 904 117 = Xi S 904 117 ∧ Xi T1 904 94 = Xi S 904 94 := ⟨(by assumption : FR md_mo_addAdjective S T1).x 904 117 rfl, (by assumption : FR md_mo_addAdjective S T1).x 904 94 rfl⟩
  have g8 : GR T1 S := gr_m GR.rf (Int.le_of_eq ((by assumption : FR md_mo_addAdjective S T1).x 904 16 rfl).symm) (Int.le_of_eq ((by assumption : FR md_mo_addAdjective S T1).x 904 18 rfl).symm) (Int.le_of_eq ((by assumption : FR md_mo_addAdjective S T1).x 904 19 rfl).symm) (by omega) (Int.le_of_eq ((by assumption : FR md_mo_addAdjective S T1).x 904 30 rfl).symm) (Int.le_of_eq ((by assumption : FR md_mo_addAdjective S T1).x 904 32 rfl).symm) (Int.le_of_eq ((by assumption : FR md_mo_addAdjective S T1).x 904 41 rfl).symm) (Int.le_of_eq ((by assumption : FR md_mo_addAdjective S T1).x 904 47 rfl).symm) (Int.le_of_eq ((by assumption : FR md_mo_addAdjective S T1).x 904 49 rfl).symm) (fun i hi => ⟨(k8 i hi).2.1, ((by assumption : FR md_mo_addAdjective S T1).cx 923 rfl i).1, (k8 i hi).2.2⟩) (fun i _ => ((by assumption : FR md_mo_addAdjective S T1).cx 928 rfl i).1) (fun i _ => ((by assumption : FR md_mo_addAdjective S T1).cx 942 rfl i).1)
  refine l_istore_n rfl rfl rfl ?_
  refine l_aload_n rfl rfl ?_
  refine l_gfr rfl rfl rfl rfl rfl (hHT1.r 904 26 923 rfl) ?_
  refine l_iload_n rfl rfl ?_
  refine l_aload_n rfl rfl ?_
  refine l_gfi rfl rfl rfl rfl rfl ?_
  have w23 : (Xi T1 904 117) = (Xi S 904 117) := (show Xi T1 904 117 = Xi S 904 117 from w22.x _ _ rfl)
  rw [w23]
  refine l_iastore (n := 24) rfl rfl (by omega) (by omega) (by unfold rg; omega) ?_
  obtain ⟨U2, eU2⟩ : ∃ T : sS, T = uI T1 923 ((z21).toNat) (Int32.ofInt (Xi S 904 117)) := ⟨_, rfl⟩
  rw [← eU2]
  have hHU2 : HI U2 := by rw [eU2]; exact HI_w hHT1 (show 0 ≤ (Xi S 904 117) by omega) (show (Xi S 904 117) ≤ 480 by omega)
  have hFU2 : FR md_mo_doDefined S U2 := by rw [eU2]; exact FR.wI hFT1 (mdf_i (r := (923, 924, 0, 100000)) (List.mem_of_getElem? (i := 10) rfl) (inR_i (by omega) (by omega) (by omega) (by omega)))
  have w24 : Xi U2 923 ((z21).toNat) = (Xi S 904 117) := by rw [eU2]; exact Xi_same (by unfold rg; omega)
  have g21 : GR U2 S := GR.w g8 eU2 (by unfold rg; omega) (by omega)
  have q21 : Xi U2 923 (Xi S 904 23).toNat = Xi S 904 117 := by rw [show (Xi S 904 23).toNat = (z21).toNat by omega, eU2, Xi_same (by unfold rg; omega)] <;> omega
  have t21 : Xi U2 904 94 = Xi S 904 94 := by have t : Xi U2 904 94 = Xi T1 904 94 := (by rw [eU2, Xi_ne (by omega)]); omega
  refine l_aload_n rfl rfl ?_
  refine l_gfr rfl rfl rfl rfl rfl (hHU2.r 904 27 924 rfl) ?_
  refine l_iload_n rfl rfl ?_
  refine l_aload_n rfl rfl ?_
  refine l_gfi rfl rfl rfl rfl rfl ?_
  have w25 : (Xi U2 904 94) = (Xi S 904 94) := (show Xi U2 904 94 = Xi T1 904 94 from by rw [eU2]; exact Xi_ne (by omega)).trans ((show Xi T1 904 94 = Xi S 904 94 from w22.x _ _ rfl))
  rw [w25]
  refine l_iastore (n := 24) rfl rfl (by omega) (by omega) (by unfold rg; omega) ?_
  obtain ⟨U3, eU3⟩ : ∃ T : sS, T = uI U2 924 ((z21).toNat) (Int32.ofInt (Xi S 904 94)) := ⟨_, rfl⟩
  rw [← eU3]
  have hHU3 : HI U3 := by rw [eU3]; exact HI_w hHU2 (show 0 ≤ (Xi S 904 94) by omega) (show (Xi S 904 94) ≤ 6 by omega)
  have hFU3 : FR md_mo_doDefined S U3 := by rw [eU3]; exact FR.wI hFU2 (mdf_i (r := (924, 925, 0, 100000)) (List.mem_of_getElem? (i := 11) rfl) (inR_i (by omega) (by omega) (by omega) (by omega)))
  have w26 : Xi U3 924 ((z21).toNat) = (Xi S 904 94) := by rw [eU3]; exact Xi_same (by unfold rg; omega)
  have g31 : GR U3 S := GR.w g21 eU3 (by unfold rg; omega) (by omega)
  have q31 : Xi U3 923 (Xi S 904 23).toNat = Xi S 904 117 := by rw [eU3, Xi_ne (by omega)]; exact q21
  have p31 : Xi U3 924 (Xi S 904 23).toNat = Xi S 904 94 := by rw [show (Xi S 904 23).toNat = (z21).toNat by omega, eU3, Xi_same (by unfold rg; omega)] <;> omega
  refine l_aload_n rfl rfl ?_
  refine l_dup rfl rfl ?_
  refine l_gfi rfl rfl rfl rfl rfl ?_
  have w27 : (Xi U3 904 117) = (Xi S 904 117) := (show Xi U3 904 117 = Xi U2 904 117 from by rw [eU3]; exact Xi_ne (by omega)).trans ( (show Xi U2 904 117 = Xi T1 904 117 from by rw [eU2]; exact Xi_ne (by omega)).trans ((show Xi T1 904 117 = Xi S 904 117 from w22.x _ _ rfl)))
  rw [w27]
  refine l_aload_n rfl rfl ?_
  refine l_gfi rfl rfl rfl rfl rfl ?_
  have w28 : (Xi U3 904 94) = (Xi S 904 94) := (show Xi U3 904 94 = Xi U2 904 94 from by rw [eU3]; exact Xi_ne (by omega)).trans ( (show Xi U2 904 94 = Xi T1 904 94 from by rw [eU2]; exact Xi_ne (by omega)).trans ((show Xi T1 904 94 = Xi S 904 94 from w22.x _ _ rfl)))
  rw [w28]
  refine l_iadd rfl ?_
  refine l_pfi rfl rfl rfl rfl ?_
  obtain ⟨U4, eU4⟩ : ∃ T : sS, T = uI U3 904 117 (Int32.ofInt ((Xi S 904 117) + (Xi S 904 94))) := ⟨_, rfl⟩
  rw [← eU4]
  have hHU4 : HI U4 := by rw [eU4]; exact HI_w hHU3 (show 0 ≤ ((Xi S 904 117) + (Xi S 904 94)) by omega) (show ((Xi S 904 117) + (Xi S 904 94)) ≤ 480 by omega)
  have hFU4 : FR md_mo_doDefined S U4 := by rw [eU4]; exact FR.wI hFU3 (mdf_i (r := (904, 905, 117, 118)) (List.mem_of_getElem? (i := 2) rfl) (inR_i (by omega) (by omega) (by omega) (by omega)))
  have w29 : Xi U4 904 117 = ((Xi S 904 117) + (Xi S 904 94)) := by rw [eU4]; exact Xi_same (by unfold rg; omega)
  have g42 : GR U4 S := GR_FR (FR_e eU4) rfl g31
  have x42 : LXK U4 S (Xi S 904 15) := (LXK.fr (LXK.fr (LXK.fr (LXK.fr LXK.rf w22 rfl) (FR_e eU2) rfl) (FR_e eU3) rfl) (FR_e eU4) rfl)
  have c42 : Xi U4 904 15 = Xi S 904 15 := ((show Xi U4 904 15 = Xi U3 904 15 from by rw [eU4]; exact Xi_ne (by omega)).trans ((show Xi U3 904 15 = Xi U2 904 15 from by rw [eU3]; exact Xi_ne (by omega)).trans ((show Xi U2 904 15 = Xi T1 904 15 from by rw [eU2]; exact Xi_ne (by omega)).trans ((show Xi T1 904 15 = Xi S 904 15 from w22.x _ _ rfl)))))
  have d42 : Xi U4 904 23 = Xi S 904 23 + 1 := by rw [eU4, Xi_ne (by omega), eU3, Xi_ne (by omega), eU2, Xi_ne (by omega)]; assumption
  have q42 : Xi U4 923 (Xi S 904 23).toNat = Xi S 904 117 ∧ Xi U4 924 (Xi S 904 23).toNat = Xi S 904 94 := ⟨by rw [eU4, Xi_ne (by omega)]; exact q31, by rw [eU4, Xi_ne (by omega)]; exact p31⟩
  refine l_aload_n rfl rfl ?_
  refine l_iconst rfl ?_
  refine l_iload_n rfl rfl ?_
  refine l_iconst rfl ?_
  have w30 : 0 ≤ Xi U4 904 117 ∧ Xi U4 904 117 ≤ 480 := hHU4.c _ _
  have w31 : Xi U4 904 15 = Xi S 904 15 := (show Xi U4 904 15 = Xi U3 904 15 from by rw [eU4]; exact Xi_ne (by omega)).trans ( (show Xi U3 904 15 = Xi U2 904 15 from by rw [eU3]; exact Xi_ne (by omega)).trans ( (show Xi U2 904 15 = Xi T1 904 15 from by rw [eU2]; exact Xi_ne (by omega)).trans ((show Xi T1 904 15 = Xi S 904 15 from w22.x _ _ rfl))))
  have w33 : Xi U4 904 23 = Xi T1 904 23 := (show Xi U4 904 23 = Xi U3 904 23 from by rw [eU4]; exact Xi_ne (by omega)).trans ( (show Xi U3 904 23 = Xi U2 904 23 from by rw [eU3]; exact Xi_ne (by omega)).trans ((show Xi U2 904 23 = Xi T1 904 23 from by rw [eU2]; exact Xi_ne (by omega))))
  have w34 : 0 ≤ Xi T1 904 23 ∧ Xi T1 904 23 ≤ 24 := hHT1.c _ _
  have w35 : Xi U4 904 69 = Xi S 904 69 := (show Xi U4 904 69 = Xi U3 904 69 from by rw [eU4]; exact Xi_ne (by omega)).trans ( (show Xi U3 904 69 = Xi U2 904 69 from by rw [eU3]; exact Xi_ne (by omega)).trans ( (show Xi U2 904 69 = Xi T1 904 69 from by rw [eU2]; exact Xi_ne (by omega)).trans ((show Xi T1 904 69 = Xi S 904 69 from w22.x _ _ rfl))))
  have w37 : Xi U4 904 94 = Xi S 904 94 := (show Xi U4 904 94 = Xi U3 904 94 from by rw [eU4]; exact Xi_ne (by omega)).trans ( (show Xi U3 904 94 = Xi U2 904 94 from by rw [eU3]; exact Xi_ne (by omega)).trans ( (show Xi U2 904 94 = Xi T1 904 94 from by rw [eU2]; exact Xi_ne (by omega)).trans ((show Xi T1 904 94 = Xi S 904 94 from w22.x _ _ rfl))))
  refine l_callV rfl rfl rfl (t_mo_tellRun hHU4 n 5 z21 1 ⟨by omega, by omega⟩ ⟨by omega, by omega⟩ ⟨by omega, by omega⟩ (by first | assumption | exact (TK_FR hFU4 rfl (by assumption : TK S _))) (by first | assumption | exact (RNV_FR hFU4 rfl (by assumption : RNV S _))) (by first | assumption | omega) (by rw [(hFU4.cx 951 rfl _).1]; exact hs) (by first | assumption | omega) _) ?_
  rintro _ T5 ⟨hHT5, w41, rfl, w39, e49, k49⟩
  have hFT5 : FR md_mo_doDefined S T5 := FR.tr hFU4 w41 rfl
  show Rl _ _ _ _ _ [] _ _
  have g49 : GR T5 S := GR_FR (by assumption : FR md_mo_tellRun U4 T5) rfl g42
  have x49 : LXK T5 S (Xi S 904 15) := x42.tr k49 (by omega)
  have n49 : Xi T5 923 (Xi S 904 23).toNat = Xi S 904 117 ∧ Xi T5 924 (Xi S 904 23).toNat = Xi S 904 94 := ⟨((by assumption : FR md_mo_tellRun U4 T5).cx 923 rfl _).1.trans q42.1, ((by assumption : FR md_mo_tellRun U4 T5).cx 924 rfl _).1.trans q42.2⟩
  have f49 : Xi T5 904 23 = Xi S 904 23 + 1 := ((by assumption : FR md_mo_tellRun U4 T5).x 904 23 rfl).trans d42
  have d49 : Xi T5 915 (Xi S 904 15).toNat < cM T5 (Xi T5 914 (Xi S 904 15).toNat) := by rw [← c42, e49.1, e49.2, cM5]; omega
  have M49 : LXM T5 := lxm_gr hM x49 g49 (by omega) (Or.inr ⟨by omega, d49⟩)
  have y49_16 : Xi T5 904 16 = Xi S 904 16 := hFT5.x 904 16 rfl
  have y49_18 : Xi T5 904 18 = Xi S 904 18 := hFT5.x 904 18 rfl
  have y49_19 : Xi T5 904 19 = Xi S 904 19 := hFT5.x 904 19 rfl
  have y49_30 : Xi T5 904 30 = Xi S 904 30 := hFT5.x 904 30 rfl
  have y49_32 : Xi T5 904 32 = Xi S 904 32 := hFT5.x 904 32 rfl
  have y49_41 : Xi T5 904 41 = Xi S 904 41 := hFT5.x 904 41 rfl
  have y49_47 : Xi T5 904 47 = Xi S 904 47 := hFT5.x 904 47 rfl
  have y49_49 : Xi T5 904 49 = Xi S 904 49 := hFT5.x 904 49 rfl
  have L49 : LCN T5 := lcn_i hLC (pls_le x49 (by omega) (by omega) (by omega)) (by omega)
  have Q49 : ∀ k, 969 ≤ k → k ≤ 975 → ∀ i, Xi T5 k i = Xi S k i := fun k a b i => kdis_q hFT5 rfl k a b i
  have D49 : DEFM T5 := defm_gr hD g49 Q49 (fun a b c e => by rw [show a = (Xi S 904 23).toNat by omega, n49.1, n49.2]; refine ⟨by omega, fun k hk => tq_gr g49 (fun j x y => Q49 j x y _) ?_⟩; have t := hq (k : Int) (by omega) (by omega); rw [show (Xi S 904 117 + (k : Int)).toNat = (Xi S 904 117).toNat + k by omega] at t; exact t)
  have C49 : DCM T5 := dcm_gr hC g49 (fun a b c e => by rw [show a = (Xi S 904 23).toNat by omega, n49.2] at e; omega)
  refine l_return rfl rfl ?_
  have w42 : Xi T5 923 (Xi S 904 23).toNat = Xi U2 923 (Xi S 904 23).toNat := (show Xi T5 923 (Xi S 904 23).toNat = Xi U4 923 (Xi S 904 23).toNat from (w41.cx 923 rfl _).1).trans ( (show Xi U4 923 (Xi S 904 23).toNat = Xi U3 923 (Xi S 904 23).toNat from by rw [eU4]; exact Xi_ne (by omega)).trans ((show Xi U3 923 (Xi S 904 23).toNat = Xi U2 923 (Xi S 904 23).toNat from by rw [eU3]; exact Xi_ne (by omega))))
  have w43 : Xi T5 924 (Xi S 904 23).toNat = Xi U3 924 (Xi S 904 23).toNat := (show Xi T5 924 (Xi S 904 23).toNat = Xi U4 924 (Xi S 904 23).toNat from (w41.cx 924 rfl _).1).trans ((show Xi U4 924 (Xi S 904 23).toNat = Xi U3 924 (Xi S 904 23).toNat from by rw [eU4]; exact Xi_ne (by omega)))
  have w44 : Xi T5 904 117 = Xi U4 904 117 := (show Xi T5 904 117 = Xi U4 904 117 from w41.x _ _ rfl)
  have w47 : Xi T5 904 23 = Xi T1 904 23 := (show Xi T5 904 23 = Xi U4 904 23 from w41.x _ _ rfl).trans ( (show Xi U4 904 23 = Xi U3 904 23 from by rw [eU4]; exact Xi_ne (by omega)).trans ( (show Xi U3 904 23 = Xi U2 904 23 from by rw [eU3]; exact Xi_ne (by omega)).trans ((show Xi U2 904 23 = Xi T1 904 23 from by rw [eU2]; exact Xi_ne (by omega)))))
  have w51 : Xi T5 904 94 = Xi S 904 94 := (show Xi T5 904 94 = Xi U4 904 94 from w41.x _ _ rfl).trans ( (show Xi U4 904 94 = Xi U3 904 94 from by rw [eU4]; exact Xi_ne (by omega)).trans ( (show Xi U3 904 94 = Xi U2 904 94 from by rw [eU3]; exact Xi_ne (by omega)).trans ( (show Xi U2 904 94 = Xi T1 904 94 from by rw [eU2]; exact Xi_ne (by omega)).trans ((show Xi T1 904 94 = Xi S 904 94 from w22.x _ _ rfl)))))
  exact ⟨hHT5, hFT5, rfl, (by first | assumption | exact (by assumption : LXM T5)), (by first | assumption | exact (by assumption : LCN T5)), (g49), (D49), (C49), (by omega), (by omega), (by have t := n49; omega)⟩
/-! SAFETY of methods: printed by wip/safe (vc.py, decl.py) -/
def md_mo_sentence__3 : List rec := [(904, 905, 8, 9), (904, 905, 65, 66), (904, 905, 66, 67), (904, 905, 69, 70), (904, 905, 70, 71), (904, 905, 71, 72), (904, 905, 72, 73), (904, 905, 73, 74), (904, 905, 74, 75), (904, 905, 75, 76), (904, 905, 76, 77), (904, 905, 77, 78), (904, 905, 78, 79), (904, 905, 79, 80), (904, 905, 80, 81), (904, 905, 81, 82), (904, 905, 93, 94), (904, 905, 94, 95), (904, 905, 98, 99), (904, 905, 99, 100), (904, 905, 100, 101), (904, 905, 101, 102), (904, 905, 102, 103), (904, 905, 103, 104), (950, 951, 0, 100000), (951, 952, 0, 100000), (952, 953, 0, 100000), (953, 954, 0, 100000), (954, 955, 0, 100000), (955, 956, 0, 100000), (956, 957, 0, 100000), (957, 958, 0, 100000), (958, 959, 0, 100000), (959, 960, 0, 100000), (960, 961, 0, 100000), (961, 962, 0, 100000), (962, 963, 0, 100000), (963, 964, 0, 100000), (964, 965, 0, 100000), (965, 966, 0, 100000)]
abbrev Q_mo_sentence__3 (S : sS) (n : Nat) : pst := fun r S1 => HI S1 ∧ FR md_mo_sentence__3 S S1 ∧ (r = none ∧ (Xi S 904 8 ≤ Xi S1 904 8) ∧ (Xi S1 904 65 = 0 → Xi S 904 8 < Xi S1 904 8 ∧ Xi S1 904 8 ≤ n) ∧ (RNV S1 n) ∧ (Xi S1 904 65 = 0 → SNQ S1 n) ∧ (Xi S1 904 65 = 0 → Xi S1 904 70 ≤ 6 → 2 ≤ Xi S1 904 70 → TVA S1 n (Xi S1 904 94)) ∧ (Xi S1 904 65 = 0 → Xi S1 904 70 ≤ 6 → 3 ≤ Xi S1 904 70 → PVA S1 n (Xi S1 904 98)) ∧ (Xi S1 904 65 = 0 → Xi S1 904 70 ≤ 6 → 3 ≤ Xi S1 904 70 → Xi S1 904 94 + Xi S1 904 98 ≤ 1666) ∧ (Xi S1 904 65 = 0 → Xi S1 904 94 ≤ 1668) ∧ (Xi S1 904 65 = 0 → Xi S1 904 70 ≠ 0 → Xi S 907 (Xi S1 904 8 - 1).toNat = 46) ∧ (Xi S1 904 65 = 0 → Xi S1 904 70 = 11 → -1 ≤ Xi S1 904 78) ∧ (Xi S1 904 65 = 0 → Xi S1 904 70 = 2 → 1 ≤ Xi S1 904 94) ∧ (PF S1) ∧ (BDA S1))
set_option maxRecDepth 100000 in
set_option maxHeartbeats 8000000 in
theorem c350_mo_sentence__3 {S : sS} (hH : HI S) (n : Nat) (hT : TK S n) (hx : Xi S 904 8 ≤ n) (hk : Xi S 907 (Xi S 904 8).toNat ≠ 1) (hPF : PF S) (hBDA : BDA S) (d : Nat) : ∀  (T1 : sS) (_ : HI T1) (_ : FR md_mo_sentence__3 S T1), (AT T1 n 0) → (RNV T1 n) → (Xi S 904 8 ≤ Xi T1 904 8 ∧ Xi T1 904 8 ≤ n + 2) → (Xi T1 904 65 = 0 → SNQ T1 n) → (Xi T1 904 65 = 0 → Xi T1 904 70 ≤ 6 → 2 ≤ Xi T1 904 70 → TVA T1 n (Xi T1 904 94)) → (Xi T1 904 65 = 0 → Xi T1 904 70 ≤ 6 → 3 ≤ Xi T1 904 70 → PVA T1 n (Xi T1 904 98)) → (Xi T1 904 65 = 0 → Xi T1 904 70 ≤ 6 → 3 ≤ Xi T1 904 70 → Xi T1 904 94 + Xi T1 904 98 ≤ 1666) → (Xi T1 904 65 = 0 → Xi T1 904 94 ≤ 1668) → (Xi T1 904 65 = 0 → Xi T1 904 70 = 11 → -1 ≤ Xi T1 904 78) → (Xi T1 904 65 = 0 → Xi T1 904 70 = 2 → 1 ≤ Xi T1 904 94) → (PF T1) → (BDA T1) → Rl lay0 (d + 9) m_mo_sentence 350 [(0, .ref 904)] [] T1 (Q_mo_sentence__3 S n) := by
  have hF : FR md_mo_sentence__3 S S := FR.rf
  have w1 : 0 ≤ Xi S 904 65 ∧ Xi S 904 65 ≤ 1 := hH.c _ _
  have w2 : 0 ≤ Xi S 904 69 ∧ Xi S 904 69 ≤ 2600 := hH.c _ _
  have w3 : 0 ≤ Xi S 904 70 ∧ Xi S 904 70 ≤ 20 := hH.c _ _
  have w4 : -2 ≤ Xi S 904 78 ∧ Xi S 904 78 ≤ 5010 := hH.c _ _
  have w5 : 0 ≤ Xi S 904 8 ∧ Xi S 904 8 ≤ 5010 := hH.c _ _
  have w6 : 0 ≤ Xi S 904 93 ∧ Xi S 904 93 ≤ 1700 := hH.c _ _
  have w7 : 0 ≤ Xi S 904 94 ∧ Xi S 904 94 ≤ 1700 := hH.c _ _
  have w8 : 0 ≤ Xi S 904 98 ∧ Xi S 904 98 ≤ 1700 := hH.c _ _
  have hn5 := hT.1
  have h8 : 0 ≤ Xi S 904 8 ∧ Xi S 904 8 ≤ 5010 := hH.c _ _
  intro T1 hHT1 hFT1 A350 V350 w9 Q350 T350 P350 w10 w11 w12 w13 PF_350 BDA_350
  have w14 : 0 ≤ Xi T1 904 65 ∧ Xi T1 904 65 ≤ 1 := hHT1.c _ _
  have w15 : 0 ≤ Xi T1 904 70 ∧ Xi T1 904 70 ≤ 20 := hHT1.c _ _
  have w16 : -2 ≤ Xi T1 904 78 ∧ Xi T1 904 78 ≤ 5010 := hHT1.c _ _
  have w17 : 0 ≤ Xi T1 904 8 ∧ Xi T1 904 8 ≤ 5010 := hHT1.c _ _
  have w18 : 0 ≤ Xi T1 904 94 ∧ Xi T1 904 94 ≤ 1700 := hHT1.c _ _
  have w19 : 0 ≤ Xi T1 904 98 ∧ Xi T1 904 98 ≤ 1700 := hHT1.c _ _
  refine l_aload_n rfl rfl ?_
  refine l_bipush rfl rfl ?_
  have w20 : 0 ≤ Xi T1 904 102 ∧ Xi T1 904 102 ≤ 2600 := hHT1.c _ _
  have w21 : -1 ≤ Xi T1 904 103 ∧ Xi T1 904 103 ≤ 2600 := hHT1.c _ _
  have w23 : 0 ≤ Xi T1 904 69 ∧ Xi T1 904 69 ≤ 2600 := hHT1.c _ _
  have w25 : 0 ≤ Xi T1 904 71 ∧ Xi T1 904 71 ≤ 2600 := hHT1.c _ _
  have w26 : 0 ≤ Xi T1 904 72 ∧ Xi T1 904 72 ≤ 2600 := hHT1.c _ _
  have w27 : 0 ≤ Xi T1 904 73 ∧ Xi T1 904 73 ≤ 5 := hHT1.c _ _
  have w28 : 0 ≤ Xi T1 904 74 ∧ Xi T1 904 74 ≤ 2600 := hHT1.c _ _
  have w31 : 0 ≤ Xi T1 904 81 ∧ Xi T1 904 81 ≤ 5010 := hHT1.c _ _
  have w32 : 0 ≤ Xi T1 904 93 ∧ Xi T1 904 93 ≤ 1700 := hHT1.c _ _
  refine l_callV rfl rfl rfl (t_mo_take__3 hHT1 n 0 46 ⟨by omega, by omega⟩ (by first | assumption | exact (TK_FR hFT1 rfl (by assumption : TK S _))) (by first | assumption | exact (by assumption : AT T1 _ _)) (by omega) (by first | assumption | exact (by assumption : BDA T1)) _) ?_
  rintro _ T2 ⟨hHT2, w39, rfl, w35, w36, kb353, tk353, w37⟩
  have hFT2 : FR md_mo_sentence__3 S T2 := FR.tr hFT1 w39 rfl
  show Rl _ _ _ _ _ [] _ _
  have w41 : 0 ≤ Xi T2 904 8 ∧ Xi T2 904 8 ≤ 5010 := hHT2.c _ _
  have w42 : 0 ≤ Xi T2 904 65 ∧ Xi T2 904 65 ≤ 1 := hHT2.c _ _
  have w43 : Xi T2 904 69 = Xi T1 904 69 := (show Xi T2 904 69 = Xi T1 904 69 from w39.x _ _ rfl)
  have w45 : Xi T2 904 93 = Xi T1 904 93 := (show Xi T2 904 93 = Xi T1 904 93 from w39.x _ _ rfl)
  have d353 : Xi T2 904 65 = 0 → Xi S 907 (Xi T2 904 8 - 1).toNat = 46 := fun q => by have t := (by assumption : Xi T2 904 65 = 0 → Xi T2 904 8 = Xi T1 904 8 + 1 ∧ Xi T1 907 (Xi T1 904 8).toNat = 46) q; rw [(hFT1.cx 907 rfl _).1] at t; rw [show Xi T2 904 8 - 1 = Xi T1 904 8 by omega]; exact t.2
  have y353 : Xi T2 904 94 = Xi T1 904 94 ∧ Xi T2 904 98 = Xi T1 904 98 ∧ Xi T2 904 70 = Xi T1 904 70 := ⟨(by assumption : FR md_mo_take T1 T2).x 904 94 rfl, (by assumption : FR md_mo_take T1 T2).x 904 98 rfl, (by assumption : FR md_mo_take T1 T2).x 904 70 rfl⟩
  have Q353 : Xi T2 904 65 = 0 → SNQ T2 n := fun q => SNQ_FR (by assumption : FR md_mo_take T1 T2) rfl (Q350 (by omega))
  have T353 : Xi T2 904 65 = 0 → Xi T2 904 70 ≤ 6 → 2 ≤ Xi T2 904 70 → TVA T2 n (Xi T2 904 94) := fun q a b => by rw [y353.1]; exact TVA_FR (by assumption : FR md_mo_take T1 T2) rfl (T350 (by omega) (by omega) (by omega))
  have P353 : Xi T2 904 65 = 0 → Xi T2 904 70 ≤ 6 → 3 ≤ Xi T2 904 70 → PVA T2 n (Xi T2 904 98) := fun q a b => by rw [y353.2.1]; exact PVA_FR hHT1 (by assumption : FR md_mo_take T1 T2) rfl (P350 (by omega) (by omega) (by omega))
  have L353 : Xi T2 904 65 = 0 → Xi T1 904 65 = 0 ∧ Xi S 904 8 < Xi T2 904 8 ∧ Xi T2 904 8 ≤ n := fun q => ⟨kb353 q, by have t := tk353 q; omega, ((by assumption : AT T2 n 0) q).1⟩
  have z353 : Xi T2 904 78 = Xi T1 904 78 := (by assumption : FR md_mo_take T1 T2).x 904 78 rfl
  have w40 : Xi S 904 8 ≤ Xi T2 904 8 ∧ Xi T2 904 8 ≤ n + 2 := by omega
  clear w36 kb353
  refine l_return rfl rfl ?_
  have w47 : Xi T2 904 102 = Xi T1 904 102 := (show Xi T2 904 102 = Xi T1 904 102 from w39.x _ _ rfl)
  have w49 : Xi T2 904 103 = Xi T1 904 103 := (show Xi T2 904 103 = Xi T1 904 103 from w39.x _ _ rfl)
  have w54 : Xi T2 904 70 = Xi T1 904 70 := (show Xi T2 904 70 = Xi T1 904 70 from w39.x _ _ rfl)
  have w56 : Xi T2 904 71 = Xi T1 904 71 := (show Xi T2 904 71 = Xi T1 904 71 from w39.x _ _ rfl)
  have w58 : Xi T2 904 72 = Xi T1 904 72 := (show Xi T2 904 72 = Xi T1 904 72 from w39.x _ _ rfl)
  have w60 : Xi T2 904 73 = Xi T1 904 73 := (show Xi T2 904 73 = Xi T1 904 73 from w39.x _ _ rfl)
  have w62 : Xi T2 904 74 = Xi T1 904 74 := (show Xi T2 904 74 = Xi T1 904 74 from w39.x _ _ rfl)
  have w64 : Xi T2 904 78 = Xi T1 904 78 := (show Xi T2 904 78 = Xi T1 904 78 from w39.x _ _ rfl)
  have w67 : Xi T2 904 81 = Xi T1 904 81 := (show Xi T2 904 81 = Xi T1 904 81 from w39.x _ _ rfl)
  have w71 : Xi T2 904 94 = Xi T1 904 94 := (show Xi T2 904 94 = Xi T1 904 94 from w39.x _ _ rfl)
  have w73 : Xi T2 904 98 = Xi T1 904 98 := (show Xi T2 904 98 = Xi T1 904 98 from w39.x _ _ rfl)
  exact ⟨hHT2, hFT2, rfl, (by omega), (by omega), (by first | assumption | exact (RNV_FR w39 rfl (by assumption : RNV T1 _))), (by first | exact Q353 | (exact fun q => by unfold SNQ; refine ⟨fun q1 => ⟨by omega, by rw [(hFT2.cx 907 rfl _).1, show Xi T2 904 81 = Xi S 904 8 by omega]; exact s5⟩, by omega, by omega, by omega, fun q9 => absurd q9 (by omega), by omega, by omega, by omega, by omega, by omega⟩)), (by first | exact T353 | exact fun q a b => absurd b (by omega)), (by first | exact P353 | exact fun q a b => absurd b (by omega)), (by omega), (by omega), (by first | exact fun q _ => d353 q | exact fun q a => absurd (by omega) a), (by omega), (by omega), (by first | assumption | exact (PF_FR w39 rfl (by assumption : PF T1))), (by first | assumption | exact (by assumption : BDA T2))⟩
set_option maxRecDepth 100000 in
set_option maxHeartbeats 8000000 in
theorem c168_mo_sentence__3 {S : sS} (hH : HI S) (n : Nat) (hT : TK S n) (hx : Xi S 904 8 ≤ n) (hk : Xi S 907 (Xi S 904 8).toNat ≠ 1) (hPF : PF S) (hBDA : BDA S) (d : Nat) : ∀  (T3 : sS) (_ : HI T3) (_ : FR md_mo_sentence__3 S T3) (v1 : Int), (138 ≤ v1 ∧ v1 ≤ 141) → (AT T3 n 0) → (RNV T3 n) → (Xi T3 904 8 = Xi S 904 8) → (Xi T3 904 65 = 0) → (Xi T3 904 69 = 0) → (Xi T3 904 93 = 0) → (Xi T3 904 94 = 0) → (Xi T3 904 98 = 0) → (Xi T3 907 (Xi T3 904 8).toNat ≠ 1) → (v1 = 138 ∨ v1 = 139 ∨ v1 = 140 ∨ v1 = 141) → (v1 = Xi T3 907 (Xi T3 904 8).toNat) → (PF T3) → (BDA T3) → Rl lay0 (d + 9) m_mo_sentence 168 [(0, .ref 904), (1, iv v1)] [] T3 (Q_mo_sentence__3 S n) := by
  have C350 := c350_mo_sentence__3 hH n hT hx hk hPF hBDA d 
  have hF : FR md_mo_sentence__3 S S := FR.rf
  have w1 : 0 ≤ Xi S 904 65 ∧ Xi S 904 65 ≤ 1 := hH.c _ _
  have w2 : 0 ≤ Xi S 904 69 ∧ Xi S 904 69 ≤ 2600 := hH.c _ _
  have w3 : 0 ≤ Xi S 904 70 ∧ Xi S 904 70 ≤ 20 := hH.c _ _
  have w4 : -2 ≤ Xi S 904 78 ∧ Xi S 904 78 ≤ 5010 := hH.c _ _
  have w5 : 0 ≤ Xi S 904 8 ∧ Xi S 904 8 ≤ 5010 := hH.c _ _
  have w6 : 0 ≤ Xi S 904 93 ∧ Xi S 904 93 ≤ 1700 := hH.c _ _
  have w7 : 0 ≤ Xi S 904 94 ∧ Xi S 904 94 ≤ 1700 := hH.c _ _
  have w8 : 0 ≤ Xi S 904 98 ∧ Xi S 904 98 ≤ 1700 := hH.c _ _
  have hn5 := hT.1
  have h8 : 0 ≤ Xi S 904 8 ∧ Xi S 904 8 ≤ 5010 := hH.c _ _
  intro T3 hHT3 hFT3 v1 w75 A168 V168 w76 w77 w78 w79 w80 w81 k168 w82 w83 PF_168 BDA_168
  have w84 : 0 ≤ Xi T3 904 65 ∧ Xi T3 904 65 ≤ 1 := hHT3.c _ _
  have w85 : 0 ≤ Xi T3 904 69 ∧ Xi T3 904 69 ≤ 2600 := hHT3.c _ _
  have w86 : 0 ≤ Xi T3 904 8 ∧ Xi T3 904 8 ≤ 5010 := hHT3.c _ _
  have w87 : 0 ≤ Xi T3 904 93 ∧ Xi T3 904 93 ≤ 1700 := hHT3.c _ _
  have w88 : 0 ≤ Xi T3 904 94 ∧ Xi T3 904 94 ≤ 1700 := hHT3.c _ _
  have w89 : 0 ≤ Xi T3 904 98 ∧ Xi T3 904 98 ≤ 1700 := hHT3.c _ _
  refine l_aload_n rfl rfl ?_
  refine l_iload_n rfl rfl ?_
  refine l_sipush rfl rfl ?_
  refine l_icmp_ne rfl rfl (by unfold rg; omega) (by unfold rg; omega) (fun w90 => ?_) (fun w91 => ?_)
  · refine l_iload_n rfl rfl ?_
    refine l_sipush rfl rfl ?_
    refine l_icmp_ne rfl rfl (by unfold rg; omega) (by unfold rg; omega) (fun w92 => ?_) (fun w93 => ?_)
    · refine l_iload_n rfl rfl ?_
      refine l_sipush rfl rfl ?_
      refine l_icmp_ne rfl rfl (by unfold rg; omega) (by unfold rg; omega) (fun w94 => ?_) (fun w95 => ?_)
      · refine l_bipush rfl rfl ?_
        have w96 : 0 ≤ Xi T3 904 102 ∧ Xi T3 904 102 ≤ 2600 := hHT3.c _ _
        have w97 : -1 ≤ Xi T3 904 103 ∧ Xi T3 904 103 ≤ 2600 := hHT3.c _ _
        have w100 : 0 ≤ Xi T3 904 70 ∧ Xi T3 904 70 ≤ 20 := hHT3.c _ _
        refine l_callV rfl rfl rfl (t_mo_rule__3 hHT3 n 0 6 ⟨by omega, by omega⟩ (by first | assumption | exact (TK_FR hFT3 rfl (by assumption : TK S _))) (by first | assumption | exact (by assumption : AT T3 _ _)) (by first | assumption | exact (by assumption : RNV T3 _)) (by first | assumption | omega) (by first | assumption | omega | (rw [show ∀ j, Xi T3 907 j = Xi T3 907 j from fun j => by rw [rfl, Xi_ne (by omega)], show Xi T3 904 8 = Xi T3 904 8 by omega]; first | assumption | omega)) (by first | assumption | omega) (by first | assumption | omega) (by first | assumption | omega) (by first | assumption | exact (by assumption : PF T3)) (by first | assumption | exact (by assumption : BDA T3)) _) ?_
        rintro _ T4 ⟨hHT4, w121, rfl, w111, w112, w113, w114, w115, w116, tv204, pv204, w117, w118, w119⟩
        have hFT4 : FR md_mo_sentence__3 S T4 := FR.tr hFT3 w121 rfl
        show Rl _ _ _ _ _ [] _ _
        have w123 : 0 ≤ Xi T4 904 8 ∧ Xi T4 904 8 ≤ 5010 := hHT4.c _ _
        have w124 : 0 ≤ Xi T4 904 65 ∧ Xi T4 904 65 ≤ 1 := hHT4.c _ _
        have w125 : 0 ≤ Xi T4 904 69 ∧ Xi T4 904 69 ≤ 2600 := hHT4.c _ _
        have w126 : 0 ≤ Xi T4 904 93 ∧ Xi T4 904 93 ≤ 1700 := hHT4.c _ _
        have w122 : Xi S 904 8 ≤ Xi T4 904 8 ∧ Xi T4 904 8 ≤ n + 2 := by omega
        clear w112 w114
        refine l_goto rfl rfl ?_
        have w127 : 0 ≤ Xi T4 904 102 ∧ Xi T4 904 102 ≤ 2600 := hHT4.c _ _
        have w128 : -1 ≤ Xi T4 904 103 ∧ Xi T4 904 103 ≤ 2600 := hHT4.c _ _
        have w131 : 0 ≤ Xi T4 904 70 ∧ Xi T4 904 70 ≤ 20 := hHT4.c _ _
        have w132 : Xi T4 904 71 = Xi T3 904 71 := (show Xi T4 904 71 = Xi T3 904 71 from w121.x _ _ rfl)
        have w133 : 0 ≤ Xi T3 904 71 ∧ Xi T3 904 71 ≤ 2600 := hHT3.c _ _
        have w134 : Xi T4 904 72 = Xi T3 904 72 := (show Xi T4 904 72 = Xi T3 904 72 from w121.x _ _ rfl)
        have w135 : 0 ≤ Xi T3 904 72 ∧ Xi T3 904 72 ≤ 2600 := hHT3.c _ _
        have w136 : Xi T4 904 73 = Xi T3 904 73 := (show Xi T4 904 73 = Xi T3 904 73 from w121.x _ _ rfl)
        have w137 : 0 ≤ Xi T3 904 73 ∧ Xi T3 904 73 ≤ 5 := hHT3.c _ _
        have w138 : Xi T4 904 74 = Xi T3 904 74 := (show Xi T4 904 74 = Xi T3 904 74 from w121.x _ _ rfl)
        have w139 : 0 ≤ Xi T3 904 74 ∧ Xi T3 904 74 ≤ 2600 := hHT3.c _ _
        have w140 : -2 ≤ Xi T4 904 78 ∧ Xi T4 904 78 ≤ 5010 := hHT4.c _ _
        have w142 : Xi T4 904 81 = Xi T3 904 81 := (show Xi T4 904 81 = Xi T3 904 81 from w121.x _ _ rfl)
        have w143 : 0 ≤ Xi T3 904 81 ∧ Xi T3 904 81 ≤ 5010 := hHT3.c _ _
        have w145 : 0 ≤ Xi T4 904 94 ∧ Xi T4 904 94 ≤ 1700 := hHT4.c _ _
        have w146 : 0 ≤ Xi T4 904 98 ∧ Xi T4 904 98 ≤ 1700 := hHT4.c _ _
        exact Rl_weak (C350 T4 hHT4 hFT4  (by assumption) (by first | assumption | exact (by assumption : RNV T4 _)) (by omega) (by first | exact q347 | exact (fun _ => fun q => by unfold SNQ; refine ⟨fun q1 => ⟨by omega, Q115 q⟩, by omega, by omega, by omega, fun q9 => absurd q9 (by omega), by omega, by omega, by omega, by omega, by omega⟩) Q115 | (exact fun q => by unfold SNQ; refine ⟨fun q1 => absurd q1 (by omega), by omega, by omega, by omega, fun q9 => absurd q9 (by omega), by omega, by omega, by omega, by omega, by omega⟩)) (by first | exact fun q _ _ => tv134 q | exact fun q _ _ => tv204 q | exact fun q a b => absurd b (by omega) | exact fun q a b => absurd a (by omega)) (by first | exact fun q _ _ => pv204 q | exact fun q a b => absurd b (by omega) | exact fun q a b => absurd a (by omega)) (by omega) (by omega) (by omega) (by omega) (by first | assumption | exact (by assumption : PF T4)) (by first | assumption | exact (by assumption : BDA T4))) (And.intro rfl (True.intro))
      · refine l_iconst rfl ?_
        refine l_goto rfl rfl ?_
        have w147 : 0 ≤ Xi T3 904 102 ∧ Xi T3 904 102 ≤ 2600 := hHT3.c _ _
        have w148 : -1 ≤ Xi T3 904 103 ∧ Xi T3 904 103 ≤ 2600 := hHT3.c _ _
        have w151 : 0 ≤ Xi T3 904 70 ∧ Xi T3 904 70 ≤ 20 := hHT3.c _ _
        refine l_callV rfl rfl rfl (t_mo_rule__3 hHT3 n 0 5 ⟨by omega, by omega⟩ (by first | assumption | exact (TK_FR hFT3 rfl (by assumption : TK S _))) (by first | assumption | exact (by assumption : AT T3 _ _)) (by first | assumption | exact (by assumption : RNV T3 _)) (by first | assumption | omega) (by first | assumption | omega | (rw [show ∀ j, Xi T3 907 j = Xi T3 907 j from fun j => by rw [rfl, Xi_ne (by omega)], show Xi T3 904 8 = Xi T3 904 8 by omega]; first | assumption | omega)) (by first | assumption | omega) (by first | assumption | omega) (by first | assumption | omega) (by first | assumption | exact (by assumption : PF T3)) (by first | assumption | exact (by assumption : BDA T3)) _) ?_
        rintro _ T5 ⟨hHT5, w172, rfl, w162, w163, w164, w165, w166, w167, tv204, pv204, w168, w169, w170⟩
        have hFT5 : FR md_mo_sentence__3 S T5 := FR.tr hFT3 w172 rfl
        show Rl _ _ _ _ _ [] _ _
        have w174 : 0 ≤ Xi T5 904 8 ∧ Xi T5 904 8 ≤ 5010 := hHT5.c _ _
        have w175 : 0 ≤ Xi T5 904 65 ∧ Xi T5 904 65 ≤ 1 := hHT5.c _ _
        have w176 : 0 ≤ Xi T5 904 69 ∧ Xi T5 904 69 ≤ 2600 := hHT5.c _ _
        have w177 : 0 ≤ Xi T5 904 93 ∧ Xi T5 904 93 ≤ 1700 := hHT5.c _ _
        have w173 : Xi S 904 8 ≤ Xi T5 904 8 ∧ Xi T5 904 8 ≤ n + 2 := by omega
        clear w163 w165
        refine l_goto rfl rfl ?_
        have w178 : 0 ≤ Xi T5 904 102 ∧ Xi T5 904 102 ≤ 2600 := hHT5.c _ _
        have w179 : -1 ≤ Xi T5 904 103 ∧ Xi T5 904 103 ≤ 2600 := hHT5.c _ _
        have w182 : 0 ≤ Xi T5 904 70 ∧ Xi T5 904 70 ≤ 20 := hHT5.c _ _
        have w183 : Xi T5 904 71 = Xi T3 904 71 := (show Xi T5 904 71 = Xi T3 904 71 from w172.x _ _ rfl)
        have w184 : 0 ≤ Xi T3 904 71 ∧ Xi T3 904 71 ≤ 2600 := hHT3.c _ _
        have w185 : Xi T5 904 72 = Xi T3 904 72 := (show Xi T5 904 72 = Xi T3 904 72 from w172.x _ _ rfl)
        have w186 : 0 ≤ Xi T3 904 72 ∧ Xi T3 904 72 ≤ 2600 := hHT3.c _ _
        have w187 : Xi T5 904 73 = Xi T3 904 73 := (show Xi T5 904 73 = Xi T3 904 73 from w172.x _ _ rfl)
        have w188 : 0 ≤ Xi T3 904 73 ∧ Xi T3 904 73 ≤ 5 := hHT3.c _ _
        have w189 : Xi T5 904 74 = Xi T3 904 74 := (show Xi T5 904 74 = Xi T3 904 74 from w172.x _ _ rfl)
        have w190 : 0 ≤ Xi T3 904 74 ∧ Xi T3 904 74 ≤ 2600 := hHT3.c _ _
        have w191 : -2 ≤ Xi T5 904 78 ∧ Xi T5 904 78 ≤ 5010 := hHT5.c _ _
        have w193 : Xi T5 904 81 = Xi T3 904 81 := (show Xi T5 904 81 = Xi T3 904 81 from w172.x _ _ rfl)
        have w194 : 0 ≤ Xi T3 904 81 ∧ Xi T3 904 81 ≤ 5010 := hHT3.c _ _
        have w196 : 0 ≤ Xi T5 904 94 ∧ Xi T5 904 94 ≤ 1700 := hHT5.c _ _
        have w197 : 0 ≤ Xi T5 904 98 ∧ Xi T5 904 98 ≤ 1700 := hHT5.c _ _
        exact Rl_weak (C350 T5 hHT5 hFT5  (by assumption) (by first | assumption | exact (by assumption : RNV T5 _)) (by omega) (by first | exact q347 | exact (fun _ => fun q => by unfold SNQ; refine ⟨fun q1 => ⟨by omega, Q115 q⟩, by omega, by omega, by omega, fun q9 => absurd q9 (by omega), by omega, by omega, by omega, by omega, by omega⟩) Q115 | (exact fun q => by unfold SNQ; refine ⟨fun q1 => absurd q1 (by omega), by omega, by omega, by omega, fun q9 => absurd q9 (by omega), by omega, by omega, by omega, by omega, by omega⟩)) (by first | exact fun q _ _ => tv134 q | exact fun q _ _ => tv204 q | exact fun q a b => absurd b (by omega) | exact fun q a b => absurd a (by omega)) (by first | exact fun q _ _ => pv204 q | exact fun q a b => absurd b (by omega) | exact fun q a b => absurd a (by omega)) (by omega) (by omega) (by omega) (by omega) (by first | assumption | exact (by assumption : PF T5)) (by first | assumption | exact (by assumption : BDA T5))) (And.intro rfl (True.intro))
    · refine l_iconst rfl ?_
      refine l_goto rfl rfl ?_
      have w198 : 0 ≤ Xi T3 904 102 ∧ Xi T3 904 102 ≤ 2600 := hHT3.c _ _
      have w199 : -1 ≤ Xi T3 904 103 ∧ Xi T3 904 103 ≤ 2600 := hHT3.c _ _
      have w202 : 0 ≤ Xi T3 904 70 ∧ Xi T3 904 70 ≤ 20 := hHT3.c _ _
      refine l_callV rfl rfl rfl (t_mo_rule__3 hHT3 n 0 4 ⟨by omega, by omega⟩ (by first | assumption | exact (TK_FR hFT3 rfl (by assumption : TK S _))) (by first | assumption | exact (by assumption : AT T3 _ _)) (by first | assumption | exact (by assumption : RNV T3 _)) (by first | assumption | omega) (by first | assumption | omega | (rw [show ∀ j, Xi T3 907 j = Xi T3 907 j from fun j => by rw [rfl, Xi_ne (by omega)], show Xi T3 904 8 = Xi T3 904 8 by omega]; first | assumption | omega)) (by first | assumption | omega) (by first | assumption | omega) (by first | assumption | omega) (by first | assumption | exact (by assumption : PF T3)) (by first | assumption | exact (by assumption : BDA T3)) _) ?_
      rintro _ T6 ⟨hHT6, w223, rfl, w213, w214, w215, w216, w217, w218, tv204, pv204, w219, w220, w221⟩
      have hFT6 : FR md_mo_sentence__3 S T6 := FR.tr hFT3 w223 rfl
      show Rl _ _ _ _ _ [] _ _
      have w225 : 0 ≤ Xi T6 904 8 ∧ Xi T6 904 8 ≤ 5010 := hHT6.c _ _
      have w226 : 0 ≤ Xi T6 904 65 ∧ Xi T6 904 65 ≤ 1 := hHT6.c _ _
      have w227 : 0 ≤ Xi T6 904 69 ∧ Xi T6 904 69 ≤ 2600 := hHT6.c _ _
      have w228 : 0 ≤ Xi T6 904 93 ∧ Xi T6 904 93 ≤ 1700 := hHT6.c _ _
      have w224 : Xi S 904 8 ≤ Xi T6 904 8 ∧ Xi T6 904 8 ≤ n + 2 := by omega
      clear w214 w216
      refine l_goto rfl rfl ?_
      have w229 : 0 ≤ Xi T6 904 102 ∧ Xi T6 904 102 ≤ 2600 := hHT6.c _ _
      have w230 : -1 ≤ Xi T6 904 103 ∧ Xi T6 904 103 ≤ 2600 := hHT6.c _ _
      have w233 : 0 ≤ Xi T6 904 70 ∧ Xi T6 904 70 ≤ 20 := hHT6.c _ _
      have w234 : Xi T6 904 71 = Xi T3 904 71 := (show Xi T6 904 71 = Xi T3 904 71 from w223.x _ _ rfl)
      have w235 : 0 ≤ Xi T3 904 71 ∧ Xi T3 904 71 ≤ 2600 := hHT3.c _ _
      have w236 : Xi T6 904 72 = Xi T3 904 72 := (show Xi T6 904 72 = Xi T3 904 72 from w223.x _ _ rfl)
      have w237 : 0 ≤ Xi T3 904 72 ∧ Xi T3 904 72 ≤ 2600 := hHT3.c _ _
      have w238 : Xi T6 904 73 = Xi T3 904 73 := (show Xi T6 904 73 = Xi T3 904 73 from w223.x _ _ rfl)
      have w239 : 0 ≤ Xi T3 904 73 ∧ Xi T3 904 73 ≤ 5 := hHT3.c _ _
      have w240 : Xi T6 904 74 = Xi T3 904 74 := (show Xi T6 904 74 = Xi T3 904 74 from w223.x _ _ rfl)
      have w241 : 0 ≤ Xi T3 904 74 ∧ Xi T3 904 74 ≤ 2600 := hHT3.c _ _
      have w242 : -2 ≤ Xi T6 904 78 ∧ Xi T6 904 78 ≤ 5010 := hHT6.c _ _
      have w244 : Xi T6 904 81 = Xi T3 904 81 := (show Xi T6 904 81 = Xi T3 904 81 from w223.x _ _ rfl)
      have w245 : 0 ≤ Xi T3 904 81 ∧ Xi T3 904 81 ≤ 5010 := hHT3.c _ _
      have w247 : 0 ≤ Xi T6 904 94 ∧ Xi T6 904 94 ≤ 1700 := hHT6.c _ _
      have w248 : 0 ≤ Xi T6 904 98 ∧ Xi T6 904 98 ≤ 1700 := hHT6.c _ _
      exact Rl_weak (C350 T6 hHT6 hFT6  (by assumption) (by first | assumption | exact (by assumption : RNV T6 _)) (by omega) (by first | exact q347 | exact (fun _ => fun q => by unfold SNQ; refine ⟨fun q1 => ⟨by omega, Q115 q⟩, by omega, by omega, by omega, fun q9 => absurd q9 (by omega), by omega, by omega, by omega, by omega, by omega⟩) Q115 | (exact fun q => by unfold SNQ; refine ⟨fun q1 => absurd q1 (by omega), by omega, by omega, by omega, fun q9 => absurd q9 (by omega), by omega, by omega, by omega, by omega, by omega⟩)) (by first | exact fun q _ _ => tv134 q | exact fun q _ _ => tv204 q | exact fun q a b => absurd b (by omega) | exact fun q a b => absurd a (by omega)) (by first | exact fun q _ _ => pv204 q | exact fun q a b => absurd b (by omega) | exact fun q a b => absurd a (by omega)) (by omega) (by omega) (by omega) (by omega) (by first | assumption | exact (by assumption : PF T6)) (by first | assumption | exact (by assumption : BDA T6))) (And.intro rfl (True.intro))
  · refine l_iconst rfl ?_
    refine l_goto rfl rfl ?_
    have w249 : 0 ≤ Xi T3 904 102 ∧ Xi T3 904 102 ≤ 2600 := hHT3.c _ _
    have w250 : -1 ≤ Xi T3 904 103 ∧ Xi T3 904 103 ≤ 2600 := hHT3.c _ _
    have w253 : 0 ≤ Xi T3 904 70 ∧ Xi T3 904 70 ≤ 20 := hHT3.c _ _
    refine l_callV rfl rfl rfl (t_mo_rule__3 hHT3 n 0 3 ⟨by omega, by omega⟩ (by first | assumption | exact (TK_FR hFT3 rfl (by assumption : TK S _))) (by first | assumption | exact (by assumption : AT T3 _ _)) (by first | assumption | exact (by assumption : RNV T3 _)) (by first | assumption | omega) (by first | assumption | omega | (rw [show ∀ j, Xi T3 907 j = Xi T3 907 j from fun j => by rw [rfl, Xi_ne (by omega)], show Xi T3 904 8 = Xi T3 904 8 by omega]; first | assumption | omega)) (by first | assumption | omega) (by first | assumption | omega) (by first | assumption | omega) (by first | assumption | exact (by assumption : PF T3)) (by first | assumption | exact (by assumption : BDA T3)) _) ?_
    rintro _ T7 ⟨hHT7, w274, rfl, w264, w265, w266, w267, w268, w269, tv204, pv204, w270, w271, w272⟩
    have hFT7 : FR md_mo_sentence__3 S T7 := FR.tr hFT3 w274 rfl
    show Rl _ _ _ _ _ [] _ _
    have w276 : 0 ≤ Xi T7 904 8 ∧ Xi T7 904 8 ≤ 5010 := hHT7.c _ _
    have w277 : 0 ≤ Xi T7 904 65 ∧ Xi T7 904 65 ≤ 1 := hHT7.c _ _
    have w278 : 0 ≤ Xi T7 904 69 ∧ Xi T7 904 69 ≤ 2600 := hHT7.c _ _
    have w279 : 0 ≤ Xi T7 904 93 ∧ Xi T7 904 93 ≤ 1700 := hHT7.c _ _
    have w275 : Xi S 904 8 ≤ Xi T7 904 8 ∧ Xi T7 904 8 ≤ n + 2 := by omega
    clear w265 w267
    refine l_goto rfl rfl ?_
    have w280 : 0 ≤ Xi T7 904 102 ∧ Xi T7 904 102 ≤ 2600 := hHT7.c _ _
    have w281 : -1 ≤ Xi T7 904 103 ∧ Xi T7 904 103 ≤ 2600 := hHT7.c _ _
    have w284 : 0 ≤ Xi T7 904 70 ∧ Xi T7 904 70 ≤ 20 := hHT7.c _ _
    have w285 : Xi T7 904 71 = Xi T3 904 71 := (show Xi T7 904 71 = Xi T3 904 71 from w274.x _ _ rfl)
    have w286 : 0 ≤ Xi T3 904 71 ∧ Xi T3 904 71 ≤ 2600 := hHT3.c _ _
    have w287 : Xi T7 904 72 = Xi T3 904 72 := (show Xi T7 904 72 = Xi T3 904 72 from w274.x _ _ rfl)
    have w288 : 0 ≤ Xi T3 904 72 ∧ Xi T3 904 72 ≤ 2600 := hHT3.c _ _
    have w289 : Xi T7 904 73 = Xi T3 904 73 := (show Xi T7 904 73 = Xi T3 904 73 from w274.x _ _ rfl)
    have w290 : 0 ≤ Xi T3 904 73 ∧ Xi T3 904 73 ≤ 5 := hHT3.c _ _
    have w291 : Xi T7 904 74 = Xi T3 904 74 := (show Xi T7 904 74 = Xi T3 904 74 from w274.x _ _ rfl)
    have w292 : 0 ≤ Xi T3 904 74 ∧ Xi T3 904 74 ≤ 2600 := hHT3.c _ _
    have w293 : -2 ≤ Xi T7 904 78 ∧ Xi T7 904 78 ≤ 5010 := hHT7.c _ _
    have w295 : Xi T7 904 81 = Xi T3 904 81 := (show Xi T7 904 81 = Xi T3 904 81 from w274.x _ _ rfl)
    have w296 : 0 ≤ Xi T3 904 81 ∧ Xi T3 904 81 ≤ 5010 := hHT3.c _ _
    have w298 : 0 ≤ Xi T7 904 94 ∧ Xi T7 904 94 ≤ 1700 := hHT7.c _ _
    have w299 : 0 ≤ Xi T7 904 98 ∧ Xi T7 904 98 ≤ 1700 := hHT7.c _ _
    exact Rl_weak (C350 T7 hHT7 hFT7  (by assumption) (by first | assumption | exact (by assumption : RNV T7 _)) (by omega) (by first | exact q347 | exact (fun _ => fun q => by unfold SNQ; refine ⟨fun q1 => ⟨by omega, Q115 q⟩, by omega, by omega, by omega, fun q9 => absurd q9 (by omega), by omega, by omega, by omega, by omega, by omega⟩) Q115 | (exact fun q => by unfold SNQ; refine ⟨fun q1 => absurd q1 (by omega), by omega, by omega, by omega, fun q9 => absurd q9 (by omega), by omega, by omega, by omega, by omega, by omega⟩)) (by first | exact fun q _ _ => tv134 q | exact fun q _ _ => tv204 q | exact fun q a b => absurd b (by omega) | exact fun q a b => absurd a (by omega)) (by first | exact fun q _ _ => pv204 q | exact fun q a b => absurd b (by omega) | exact fun q a b => absurd a (by omega)) (by omega) (by omega) (by omega) (by omega) (by first | assumption | exact (by assumption : PF T7)) (by first | assumption | exact (by assumption : BDA T7))) (And.intro rfl (True.intro))
set_option maxRecDepth 100000 in
set_option maxHeartbeats 8000000 in
theorem c265_mo_sentence__3 {S : sS} (hH : HI S) (n : Nat) (hT : TK S n) (hx : Xi S 904 8 ≤ n) (hk : Xi S 907 (Xi S 904 8).toNat ≠ 1) (hPF : PF S) (hBDA : BDA S) (d : Nat) : ∀  (T8 : sS) (_ : HI T8) (_ : FR md_mo_sentence__3 S T8), (AT T8 n 0) → (RNV T8 n) → (Xi S 904 8 ≤ Xi T8 904 8 ∧ Xi T8 904 8 ≤ n + 2) → (Xi T8 904 70 = 7) → (Xi T8 904 94 = 0) → (Xi T8 904 65 = 0 → 1 ≤ Xi T8 904 69) → (PF T8) → (BDA T8) → Rl lay0 (d + 9) m_mo_sentence 265 [(0, .ref 904)] [] T8 (Q_mo_sentence__3 S n) := by
  have C350 := c350_mo_sentence__3 hH n hT hx hk hPF hBDA d 
  have hF : FR md_mo_sentence__3 S S := FR.rf
  have w1 : 0 ≤ Xi S 904 65 ∧ Xi S 904 65 ≤ 1 := hH.c _ _
  have w2 : 0 ≤ Xi S 904 69 ∧ Xi S 904 69 ≤ 2600 := hH.c _ _
  have w3 : 0 ≤ Xi S 904 70 ∧ Xi S 904 70 ≤ 20 := hH.c _ _
  have w4 : -2 ≤ Xi S 904 78 ∧ Xi S 904 78 ≤ 5010 := hH.c _ _
  have w5 : 0 ≤ Xi S 904 8 ∧ Xi S 904 8 ≤ 5010 := hH.c _ _
  have w6 : 0 ≤ Xi S 904 93 ∧ Xi S 904 93 ≤ 1700 := hH.c _ _
  have w7 : 0 ≤ Xi S 904 94 ∧ Xi S 904 94 ≤ 1700 := hH.c _ _
  have w8 : 0 ≤ Xi S 904 98 ∧ Xi S 904 98 ≤ 1700 := hH.c _ _
  have hn5 := hT.1
  have h8 : 0 ≤ Xi S 904 8 ∧ Xi S 904 8 ≤ 5010 := hH.c _ _
  intro T8 hHT8 hFT8 A265 V265 w300 w301 w302 c265 PF_265 BDA_265
  have w303 : 0 ≤ Xi T8 904 65 ∧ Xi T8 904 65 ≤ 1 := hHT8.c _ _
  have w304 : 0 ≤ Xi T8 904 69 ∧ Xi T8 904 69 ≤ 2600 := hHT8.c _ _
  have w305 : 0 ≤ Xi T8 904 70 ∧ Xi T8 904 70 ≤ 20 := hHT8.c _ _
  have w306 : 0 ≤ Xi T8 904 8 ∧ Xi T8 904 8 ≤ 5010 := hHT8.c _ _
  have w307 : 0 ≤ Xi T8 904 94 ∧ Xi T8 904 94 ≤ 1700 := hHT8.c _ _
  refine l_aload_n rfl rfl ?_
  refine l_bipush rfl rfl ?_
  refine l_callV rfl rfl rfl (t_mo_take__3 hHT8 n 0 102 ⟨by omega, by omega⟩ (by first | assumption | exact (TK_FR hFT8 rfl (by assumption : TK S _))) (by first | assumption | exact (by assumption : AT T8 _ _)) (by omega) (by first | assumption | exact (by assumption : BDA T8)) _) ?_
  rintro _ T9 ⟨hHT9, w328, rfl, w323, w324, w325, tk268, w326⟩
  have hFT9 : FR md_mo_sentence__3 S T9 := FR.tr hFT8 w328 rfl
  show Rl _ _ _ _ _ [] _ _
  have w330 : 0 ≤ Xi T9 904 8 ∧ Xi T9 904 8 ≤ 5010 := hHT9.c _ _
  have w331 : 0 ≤ Xi T9 904 65 ∧ Xi T9 904 65 ≤ 1 := hHT9.c _ _
  have w332 : Xi T9 904 69 = Xi T8 904 69 := (show Xi T9 904 69 = Xi T8 904 69 from w328.x _ _ rfl)
  have w334 : Xi T9 904 93 = Xi T8 904 93 := (show Xi T9 904 93 = Xi T8 904 93 from w328.x _ _ rfl)
  have w335 : 0 ≤ Xi T8 904 93 ∧ Xi T8 904 93 ≤ 1700 := hHT8.c _ _
  have c268 : Xi T9 904 65 = 0 → 1 ≤ Xi T9 904 69 := by omega
  clear c265
  clear tk268
  have w329 : Xi S 904 8 ≤ Xi T9 904 8 ∧ Xi T9 904 8 ≤ n + 2 := by omega
  clear w324 w325
  refine l_aload_n rfl rfl ?_
  refine l_callV rfl rfl rfl (t_mo_run__2 hHT9 n 0 (by first | assumption | exact (TK_FR hFT9 rfl (by assumption : TK S _))) (by first | assumption | exact (by assumption : AT T9 _ _)) (by first | assumption | exact (RNV_FR w328 rfl (by assumption : RNV T8 _))) (by first | assumption | exact (by assumption : BDA T9)) _) ?_
  rintro _ T10 ⟨hHT10, w371, z370, rfl, w370, w364, w365, w366, w367, w368, w369⟩
  have hFT10 : FR md_mo_sentence__3 S T10 := FR.tr hFT9 w371 rfl
  show Rl _ _ _ _ _ [iv z370] _ _
  have w373 : 0 ≤ Xi T10 904 8 ∧ Xi T10 904 8 ≤ 5010 := hHT10.c _ _
  have w374 : 0 ≤ Xi T10 904 65 ∧ Xi T10 904 65 ≤ 1 := hHT10.c _ _
  have w375 : 0 ≤ Xi T10 904 69 ∧ Xi T10 904 69 ≤ 2600 := hHT10.c _ _
  have w376 : Xi T10 904 93 = Xi T8 904 93 := (show Xi T10 904 93 = Xi T9 904 93 from w371.x _ _ rfl).trans ((show Xi T9 904 93 = Xi T8 904 93 from w328.x _ _ rfl))
  have c272 : Xi T10 904 65 = 0 → 2 ≤ Xi T10 904 69 := by omega
  clear c268
  have w372 : Xi S 904 8 ≤ Xi T10 904 8 ∧ Xi T10 904 8 ≤ n + 2 := by omega
  clear w365 w367 w368 w329
  refine l_pop rfl rfl ?_
  refine l_aload_n rfl rfl ?_
  refine l_bipush rfl rfl ?_
  refine l_callV rfl rfl rfl (t_mo_take__3 hHT10 n 0 126 ⟨by omega, by omega⟩ (by first | assumption | exact (TK_FR hFT10 rfl (by assumption : TK S _))) (by first | assumption | exact (by assumption : AT T10 _ _)) (by omega) (by first | assumption | exact (by assumption : BDA T10)) _) ?_
  rintro _ T11 ⟨hHT11, w410, rfl, w405, w406, w407, tk279, w408⟩
  have hFT11 : FR md_mo_sentence__3 S T11 := FR.tr hFT10 w410 rfl
  show Rl _ _ _ _ _ [] _ _
  have w412 : 0 ≤ Xi T11 904 8 ∧ Xi T11 904 8 ≤ 5010 := hHT11.c _ _
  have w413 : 0 ≤ Xi T11 904 65 ∧ Xi T11 904 65 ≤ 1 := hHT11.c _ _
  have w414 : Xi T11 904 69 = Xi T10 904 69 := (show Xi T11 904 69 = Xi T10 904 69 from w410.x _ _ rfl)
  have w416 : Xi T11 904 93 = Xi T8 904 93 := (show Xi T11 904 93 = Xi T10 904 93 from w410.x _ _ rfl).trans ( (show Xi T10 904 93 = Xi T9 904 93 from w371.x _ _ rfl).trans ((show Xi T9 904 93 = Xi T8 904 93 from w328.x _ _ rfl)))
  have c279 : Xi T11 904 65 = 0 → 2 ≤ Xi T11 904 69 := by omega
  clear c272
  clear tk279
  have w411 : Xi S 904 8 ≤ Xi T11 904 8 ∧ Xi T11 904 8 ≤ n + 2 := by omega
  clear w406 w407 w372
  refine l_goto rfl rfl ?_
  have w418 : Xi T11 904 102 = Xi T8 904 102 := (show Xi T11 904 102 = Xi T10 904 102 from w410.x _ _ rfl).trans ( (show Xi T10 904 102 = Xi T9 904 102 from w371.x _ _ rfl).trans ((show Xi T9 904 102 = Xi T8 904 102 from w328.x _ _ rfl)))
  have w419 : 0 ≤ Xi T8 904 102 ∧ Xi T8 904 102 ≤ 2600 := hHT8.c _ _
  have w420 : Xi T11 904 103 = Xi T8 904 103 := (show Xi T11 904 103 = Xi T10 904 103 from w410.x _ _ rfl).trans ( (show Xi T10 904 103 = Xi T9 904 103 from w371.x _ _ rfl).trans ((show Xi T9 904 103 = Xi T8 904 103 from w328.x _ _ rfl)))
  have w421 : -1 ≤ Xi T8 904 103 ∧ Xi T8 904 103 ≤ 2600 := hHT8.c _ _
  have w425 : Xi T11 904 70 = Xi T8 904 70 := (show Xi T11 904 70 = Xi T10 904 70 from w410.x _ _ rfl).trans ( (show Xi T10 904 70 = Xi T9 904 70 from w371.x _ _ rfl).trans ((show Xi T9 904 70 = Xi T8 904 70 from w328.x _ _ rfl)))
  have w427 : Xi T11 904 71 = Xi T8 904 71 := (show Xi T11 904 71 = Xi T10 904 71 from w410.x _ _ rfl).trans ( (show Xi T10 904 71 = Xi T9 904 71 from w371.x _ _ rfl).trans ((show Xi T9 904 71 = Xi T8 904 71 from w328.x _ _ rfl)))
  have w428 : 0 ≤ Xi T8 904 71 ∧ Xi T8 904 71 ≤ 2600 := hHT8.c _ _
  have w429 : Xi T11 904 72 = Xi T8 904 72 := (show Xi T11 904 72 = Xi T10 904 72 from w410.x _ _ rfl).trans ( (show Xi T10 904 72 = Xi T9 904 72 from w371.x _ _ rfl).trans ((show Xi T9 904 72 = Xi T8 904 72 from w328.x _ _ rfl)))
  have w430 : 0 ≤ Xi T8 904 72 ∧ Xi T8 904 72 ≤ 2600 := hHT8.c _ _
  have w431 : Xi T11 904 73 = Xi T8 904 73 := (show Xi T11 904 73 = Xi T10 904 73 from w410.x _ _ rfl).trans ( (show Xi T10 904 73 = Xi T9 904 73 from w371.x _ _ rfl).trans ((show Xi T9 904 73 = Xi T8 904 73 from w328.x _ _ rfl)))
  have w432 : 0 ≤ Xi T8 904 73 ∧ Xi T8 904 73 ≤ 5 := hHT8.c _ _
  have w433 : Xi T11 904 74 = Xi T8 904 74 := (show Xi T11 904 74 = Xi T10 904 74 from w410.x _ _ rfl).trans ( (show Xi T10 904 74 = Xi T9 904 74 from w371.x _ _ rfl).trans ((show Xi T9 904 74 = Xi T8 904 74 from w328.x _ _ rfl)))
  have w434 : 0 ≤ Xi T8 904 74 ∧ Xi T8 904 74 ≤ 2600 := hHT8.c _ _
  have w435 : Xi T11 904 78 = Xi T8 904 78 := (show Xi T11 904 78 = Xi T10 904 78 from w410.x _ _ rfl).trans ( (show Xi T10 904 78 = Xi T9 904 78 from w371.x _ _ rfl).trans ((show Xi T9 904 78 = Xi T8 904 78 from w328.x _ _ rfl)))
  have w436 : -2 ≤ Xi T8 904 78 ∧ Xi T8 904 78 ≤ 5010 := hHT8.c _ _
  have w438 : Xi T11 904 81 = Xi T8 904 81 := (show Xi T11 904 81 = Xi T10 904 81 from w410.x _ _ rfl).trans ( (show Xi T10 904 81 = Xi T9 904 81 from w371.x _ _ rfl).trans ((show Xi T9 904 81 = Xi T8 904 81 from w328.x _ _ rfl)))
  have w439 : 0 ≤ Xi T8 904 81 ∧ Xi T8 904 81 ≤ 5010 := hHT8.c _ _
  have w442 : Xi T11 904 94 = Xi T8 904 94 := (show Xi T11 904 94 = Xi T10 904 94 from w410.x _ _ rfl).trans ( (show Xi T10 904 94 = Xi T9 904 94 from w371.x _ _ rfl).trans ((show Xi T9 904 94 = Xi T8 904 94 from w328.x _ _ rfl)))
  have w444 : Xi T11 904 98 = Xi T8 904 98 := (show Xi T11 904 98 = Xi T10 904 98 from w410.x _ _ rfl).trans ( (show Xi T10 904 98 = Xi T9 904 98 from w371.x _ _ rfl).trans ((show Xi T9 904 98 = Xi T8 904 98 from w328.x _ _ rfl)))
  have w445 : 0 ≤ Xi T8 904 98 ∧ Xi T8 904 98 ≤ 1700 := hHT8.c _ _
  exact Rl_weak (C350 T11 hHT11 hFT11  (by assumption) (by first | assumption | exact (RNV_FR w410 rfl (by assumption : RNV T10 _))) (by omega) (by first | exact q347 | exact (fun _ => fun q => by unfold SNQ; refine ⟨fun q1 => ⟨by omega, Q115 q⟩, by omega, by omega, by omega, fun q9 => absurd q9 (by omega), by omega, by omega, by omega, by omega, by omega⟩) Q115 | (exact fun q => by unfold SNQ; refine ⟨fun q1 => absurd q1 (by omega), by omega, by omega, by omega, fun q9 => absurd q9 (by omega), by omega, by omega, by omega, by omega, by omega⟩)) (by first | exact fun q _ _ => tv134 q | exact fun q _ _ => tv204 q | exact fun q a b => absurd b (by omega) | exact fun q a b => absurd a (by omega)) (by first | exact fun q _ _ => pv204 q | exact fun q a b => absurd b (by omega) | exact fun q a b => absurd a (by omega)) (by omega) (by omega) (by omega) (by omega) (by first | assumption | exact (PF_FR w410 rfl (PF_FR w371 rfl (PF_FR w328 rfl (by assumption : PF T8))))) (by first | assumption | exact (by assumption : BDA T11))) (And.intro rfl (True.intro))
set_option maxRecDepth 100000 in
set_option maxHeartbeats 8000000 in
theorem c346_mo_sentence__3 {S : sS} (hH : HI S) (n : Nat) (hT : TK S n) (hx : Xi S 904 8 ≤ n) (hk : Xi S 907 (Xi S 904 8).toNat ≠ 1) (hPF : PF S) (hBDA : BDA S) (d : Nat) : ∀  (T12 : sS) (_ : HI T12) (_ : FR md_mo_sentence__3 S T12), (AT T12 n 0) → (RNV T12 n) → (Xi T12 904 8 = Xi S 904 8) → (Xi T12 904 65 = 0) → (Xi T12 904 69 = 0) → (Xi T12 904 93 = 0) → (Xi T12 904 94 = 0) → (Xi T12 904 98 = 0) → (Xi T12 907 (Xi T12 904 8).toNat ≠ 1) → (PF T12) → (BDA T12) → Rl lay0 (d + 9) m_mo_sentence 346 [(0, .ref 904)] [] T12 (Q_mo_sentence__3 S n) := by
  have C350 := c350_mo_sentence__3 hH n hT hx hk hPF hBDA d 
  have hF : FR md_mo_sentence__3 S S := FR.rf
  have w1 : 0 ≤ Xi S 904 65 ∧ Xi S 904 65 ≤ 1 := hH.c _ _
  have w2 : 0 ≤ Xi S 904 69 ∧ Xi S 904 69 ≤ 2600 := hH.c _ _
  have w3 : 0 ≤ Xi S 904 70 ∧ Xi S 904 70 ≤ 20 := hH.c _ _
  have w4 : -2 ≤ Xi S 904 78 ∧ Xi S 904 78 ≤ 5010 := hH.c _ _
  have w5 : 0 ≤ Xi S 904 8 ∧ Xi S 904 8 ≤ 5010 := hH.c _ _
  have w6 : 0 ≤ Xi S 904 93 ∧ Xi S 904 93 ≤ 1700 := hH.c _ _
  have w7 : 0 ≤ Xi S 904 94 ∧ Xi S 904 94 ≤ 1700 := hH.c _ _
  have w8 : 0 ≤ Xi S 904 98 ∧ Xi S 904 98 ≤ 1700 := hH.c _ _
  have hn5 := hT.1
  have h8 : 0 ≤ Xi S 904 8 ∧ Xi S 904 8 ≤ 5010 := hH.c _ _
  intro T12 hHT12 hFT12 A346 V346 w446 w447 w448 w449 w450 w451 k346 PF_346 BDA_346
  have w452 : 0 ≤ Xi T12 904 65 ∧ Xi T12 904 65 ≤ 1 := hHT12.c _ _
  have w453 : 0 ≤ Xi T12 904 69 ∧ Xi T12 904 69 ≤ 2600 := hHT12.c _ _
  have w454 : 0 ≤ Xi T12 904 8 ∧ Xi T12 904 8 ≤ 5010 := hHT12.c _ _
  have w455 : 0 ≤ Xi T12 904 93 ∧ Xi T12 904 93 ≤ 1700 := hHT12.c _ _
  have w456 : 0 ≤ Xi T12 904 94 ∧ Xi T12 904 94 ≤ 1700 := hHT12.c _ _
  have w457 : 0 ≤ Xi T12 904 98 ∧ Xi T12 904 98 ≤ 1700 := hHT12.c _ _
  refine l_aload_n rfl rfl ?_
  have w462 : 0 ≤ Xi T12 904 70 ∧ Xi T12 904 70 ≤ 20 := hHT12.c _ _
  have w467 : -2 ≤ Xi T12 904 78 ∧ Xi T12 904 78 ≤ 5010 := hHT12.c _ _
  refine l_callV rfl rfl rfl (t_mo_common__2 hHT12 n 0 (by first | assumption | exact (TK_FR hFT12 rfl (by assumption : TK S _))) (by first | assumption | exact (by assumption : AT T12 _ _)) (by first | assumption | exact (by assumption : RNV T12 _)) (by first | assumption | omega) (by first | assumption | omega) (by first | assumption | exact (by assumption : BDA T12)) _) ?_
  rintro _ T13 ⟨hHT13, w482, rfl, w473, w474, w475, w476, w477, w478, q347, w479, w480⟩
  have hFT13 : FR md_mo_sentence__3 S T13 := FR.tr hFT12 w482 rfl
  show Rl _ _ _ _ _ [] _ _
  have w484 : 0 ≤ Xi T13 904 8 ∧ Xi T13 904 8 ≤ 5010 := hHT13.c _ _
  have w485 : 0 ≤ Xi T13 904 65 ∧ Xi T13 904 65 ≤ 1 := hHT13.c _ _
  have w486 : 0 ≤ Xi T13 904 69 ∧ Xi T13 904 69 ≤ 2600 := hHT13.c _ _
  have w487 : Xi T13 904 93 = Xi T12 904 93 := (show Xi T13 904 93 = Xi T12 904 93 from w482.x _ _ rfl)
  have w483 : Xi S 904 8 ≤ Xi T13 904 8 ∧ Xi T13 904 8 ≤ n + 2 := by omega
  clear w474 w476 w477
  have w489 : Xi T13 904 102 = Xi T12 904 102 := (show Xi T13 904 102 = Xi T12 904 102 from w482.x _ _ rfl)
  have w490 : 0 ≤ Xi T12 904 102 ∧ Xi T12 904 102 ≤ 2600 := hHT12.c _ _
  have w491 : Xi T13 904 103 = Xi T12 904 103 := (show Xi T13 904 103 = Xi T12 904 103 from w482.x _ _ rfl)
  have w492 : -1 ≤ Xi T12 904 103 ∧ Xi T12 904 103 ≤ 2600 := hHT12.c _ _
  have w495 : 0 ≤ Xi T13 904 70 ∧ Xi T13 904 70 ≤ 20 := hHT13.c _ _
  have w496 : 0 ≤ Xi T13 904 71 ∧ Xi T13 904 71 ≤ 2600 := hHT13.c _ _
  have w497 : 0 ≤ Xi T13 904 72 ∧ Xi T13 904 72 ≤ 2600 := hHT13.c _ _
  have w498 : 0 ≤ Xi T13 904 73 ∧ Xi T13 904 73 ≤ 5 := hHT13.c _ _
  have w499 : 0 ≤ Xi T13 904 74 ∧ Xi T13 904 74 ≤ 2600 := hHT13.c _ _
  have w500 : -2 ≤ Xi T13 904 78 ∧ Xi T13 904 78 ≤ 5010 := hHT13.c _ _
  have w502 : Xi T13 904 81 = Xi T12 904 81 := (show Xi T13 904 81 = Xi T12 904 81 from w482.x _ _ rfl)
  have w503 : 0 ≤ Xi T12 904 81 ∧ Xi T12 904 81 ≤ 5010 := hHT12.c _ _
  have w506 : Xi T13 904 94 = Xi T12 904 94 := (show Xi T13 904 94 = Xi T12 904 94 from w482.x _ _ rfl)
  have w508 : Xi T13 904 98 = Xi T12 904 98 := (show Xi T13 904 98 = Xi T12 904 98 from w482.x _ _ rfl)
  exact Rl_weak (C350 T13 hHT13 hFT13  (by assumption) (by first | assumption | exact (by assumption : RNV T13 _)) (by omega) (by first | exact q347 | exact (fun _ => fun q => by unfold SNQ; refine ⟨fun q1 => ⟨by omega, Q115 q⟩, by omega, by omega, by omega, fun q9 => absurd q9 (by omega), by omega, by omega, by omega, by omega, by omega⟩) Q115 | (exact fun q => by unfold SNQ; refine ⟨fun q1 => absurd q1 (by omega), by omega, by omega, by omega, fun q9 => absurd q9 (by omega), by omega, by omega, by omega, by omega, by omega⟩)) (by first | exact fun q _ _ => tv134 q | exact fun q _ _ => tv204 q | exact fun q a b => absurd b (by omega) | exact fun q a b => absurd a (by omega)) (by first | exact fun q _ _ => pv204 q | exact fun q a b => absurd b (by omega) | exact fun q a b => absurd a (by omega)) (by omega) (by omega) (by omega) (by omega) (by first | assumption | exact (PF_FR w482 rfl (by assumption : PF T12))) (by first | assumption | exact (by assumption : BDA T13))) (And.intro rfl (True.intro))
set_option maxRecDepth 100000 in
set_option maxHeartbeats 8000000 in
theorem c285_mo_sentence__3 {S : sS} (hH : HI S) (n : Nat) (hT : TK S n) (hx : Xi S 904 8 ≤ n) (hk : Xi S 907 (Xi S 904 8).toNat ≠ 1) (hPF : PF S) (hBDA : BDA S) (d : Nat) : ∀  (T14 : sS) (_ : HI T14) (_ : FR md_mo_sentence__3 S T14) (v1 : Int), (0 ≤ v1 ∧ v1 ≤ 154) → (AT T14 n 0) → (RNV T14 n) → (Xi T14 904 8 = Xi S 904 8) → (Xi T14 904 65 = 0) → (Xi T14 904 69 = 0) → (Xi T14 904 93 = 0) → (Xi T14 904 94 = 0) → (Xi T14 904 98 = 0) → (Xi T14 907 (Xi T14 904 8).toNat ≠ 1) → (v1 = Xi T14 907 (Xi T14 904 8).toNat) → (PF T14) → (BDA T14) → Rl lay0 (d + 9) m_mo_sentence 285 [(0, .ref 904), (1, iv v1)] [] T14 (Q_mo_sentence__3 S n) := by
  have C350 := c350_mo_sentence__3 hH n hT hx hk hPF hBDA d 
  have C346 := c346_mo_sentence__3 hH n hT hx hk hPF hBDA d 
  have hF : FR md_mo_sentence__3 S S := FR.rf
  have w1 : 0 ≤ Xi S 904 65 ∧ Xi S 904 65 ≤ 1 := hH.c _ _
  have w2 : 0 ≤ Xi S 904 69 ∧ Xi S 904 69 ≤ 2600 := hH.c _ _
  have w3 : 0 ≤ Xi S 904 70 ∧ Xi S 904 70 ≤ 20 := hH.c _ _
  have w4 : -2 ≤ Xi S 904 78 ∧ Xi S 904 78 ≤ 5010 := hH.c _ _
  have w5 : 0 ≤ Xi S 904 8 ∧ Xi S 904 8 ≤ 5010 := hH.c _ _
  have w6 : 0 ≤ Xi S 904 93 ∧ Xi S 904 93 ≤ 1700 := hH.c _ _
  have w7 : 0 ≤ Xi S 904 94 ∧ Xi S 904 94 ≤ 1700 := hH.c _ _
  have w8 : 0 ≤ Xi S 904 98 ∧ Xi S 904 98 ≤ 1700 := hH.c _ _
  have hn5 := hT.1
  have h8 : 0 ≤ Xi S 904 8 ∧ Xi S 904 8 ≤ 5010 := hH.c _ _
  intro T14 hHT14 hFT14 v1 w510 A285 V285 w511 w512 w513 w514 w515 w516 k285 w517 PF_285 BDA_285
  have w518 : 0 ≤ Xi T14 904 65 ∧ Xi T14 904 65 ≤ 1 := hHT14.c _ _
  have w519 : 0 ≤ Xi T14 904 69 ∧ Xi T14 904 69 ≤ 2600 := hHT14.c _ _
  have w520 : 0 ≤ Xi T14 904 8 ∧ Xi T14 904 8 ≤ 5010 := hHT14.c _ _
  have w521 : 0 ≤ Xi T14 904 93 ∧ Xi T14 904 93 ≤ 1700 := hHT14.c _ _
  have w522 : 0 ≤ Xi T14 904 94 ∧ Xi T14 904 94 ≤ 1700 := hHT14.c _ _
  have w523 : 0 ≤ Xi T14 904 98 ∧ Xi T14 904 98 ≤ 1700 := hHT14.c _ _
  refine l_iload_n rfl rfl ?_
  refine l_bipush rfl rfl ?_
  refine l_icmp_ne rfl rfl (by unfold rg; omega) (by unfold rg; omega) (fun w524 => ?_) (fun w525 => ?_)
  · have w526 : 0 ≤ Xi T14 904 102 ∧ Xi T14 904 102 ≤ 2600 := hHT14.c _ _
    have w527 : -1 ≤ Xi T14 904 103 ∧ Xi T14 904 103 ≤ 2600 := hHT14.c _ _
    have w530 : 0 ≤ Xi T14 904 70 ∧ Xi T14 904 70 ≤ 20 := hHT14.c _ _
    have w531 : 0 ≤ Xi T14 904 71 ∧ Xi T14 904 71 ≤ 2600 := hHT14.c _ _
    have w532 : 0 ≤ Xi T14 904 72 ∧ Xi T14 904 72 ≤ 2600 := hHT14.c _ _
    have w533 : 0 ≤ Xi T14 904 73 ∧ Xi T14 904 73 ≤ 5 := hHT14.c _ _
    have w534 : 0 ≤ Xi T14 904 74 ∧ Xi T14 904 74 ≤ 2600 := hHT14.c _ _
    have w535 : -2 ≤ Xi T14 904 78 ∧ Xi T14 904 78 ≤ 5010 := hHT14.c _ _
    have w537 : 0 ≤ Xi T14 904 81 ∧ Xi T14 904 81 ≤ 5010 := hHT14.c _ _
    exact Rl_weak (C346 T14 hHT14 hFT14  (by first | assumption | exact (by assumption : AT T14 _ _)) (by first | assumption | exact (by assumption : RNV T14 _)) (by omega) (by omega) (by omega) (by omega) (by omega) (by omega) (by first | assumption | omega) (by first | assumption | exact (by assumption : PF T14)) (by first | assumption | exact (by assumption : BDA T14))) (And.intro rfl (True.intro))
  · refine l_aload_n rfl rfl ?_
    refine l_gfr rfl rfl rfl rfl rfl (hHT14.r 904 4 907 rfl) ?_
    refine l_aload_n rfl rfl ?_
    refine l_gfi rfl rfl rfl rfl rfl ?_
    refine l_iconst rfl ?_
    refine l_iadd rfl ?_
    refine l_iaload (n := 5002) rfl rfl (by omega) (by omega) (by unfold rg; omega) ?_
    have w541 : 0 ≤ (Xi T14 907 ((((Xi T14 904 8) + 1)).toNat)) ∧ (Xi T14 907 ((((Xi T14 904 8) + 1)).toNat)) ≤ 154 := hHT14.c _ _
    refine l_bipush rfl rfl ?_
    refine l_icmp_ne rfl rfl (by unfold rg; omega) (by unfold rg; omega) (fun w542 => ?_) (fun w543 => ?_)
    · have w544 : 0 ≤ Xi T14 904 102 ∧ Xi T14 904 102 ≤ 2600 := hHT14.c _ _
      have w545 : -1 ≤ Xi T14 904 103 ∧ Xi T14 904 103 ≤ 2600 := hHT14.c _ _
      have w548 : 0 ≤ Xi T14 904 70 ∧ Xi T14 904 70 ≤ 20 := hHT14.c _ _
      have w549 : 0 ≤ Xi T14 904 71 ∧ Xi T14 904 71 ≤ 2600 := hHT14.c _ _
      have w550 : 0 ≤ Xi T14 904 72 ∧ Xi T14 904 72 ≤ 2600 := hHT14.c _ _
      have w551 : 0 ≤ Xi T14 904 73 ∧ Xi T14 904 73 ≤ 5 := hHT14.c _ _
      have w552 : 0 ≤ Xi T14 904 74 ∧ Xi T14 904 74 ≤ 2600 := hHT14.c _ _
      have w553 : -2 ≤ Xi T14 904 78 ∧ Xi T14 904 78 ≤ 5010 := hHT14.c _ _
      have w555 : 0 ≤ Xi T14 904 81 ∧ Xi T14 904 81 ≤ 5010 := hHT14.c _ _
      exact Rl_weak (C346 T14 hHT14 hFT14  (by first | assumption | exact (by assumption : AT T14 _ _)) (by first | assumption | exact (by assumption : RNV T14 _)) (by omega) (by omega) (by omega) (by omega) (by omega) (by omega) (by first | assumption | omega) (by first | assumption | exact (by assumption : PF T14)) (by first | assumption | exact (by assumption : BDA T14))) (And.intro rfl (True.intro))
    · refine l_aload_n rfl rfl ?_
      refine l_bipush rfl rfl ?_
      refine l_pfi rfl rfl rfl rfl ?_
      obtain ⟨U15, eU15⟩ : ∃ T : sS, T = uI T14 904 70 (Int32.ofInt 8) := ⟨_, rfl⟩
      rw [← eU15]
      have hHU15 : HI U15 := by rw [eU15]; exact HI_w hHT14 (show 0 ≤ 8 by omega) (show 8 ≤ 20 by omega)
      have hFU15 : FR md_mo_sentence__3 S U15 := by rw [eU15]; exact FR.wI hFT14 (mdf_i (r := (904, 905, 70, 71)) (List.mem_of_getElem? (i := 4) rfl) (inR_i (by omega) (by omega) (by omega) (by omega)))
      have w559 : Xi U15 904 70 = 8 := by rw [eU15]; exact Xi_same (by unfold rg; omega)
      refine l_aload_n rfl rfl ?_
      refine l_dup rfl rfl ?_
      refine l_gfi rfl rfl rfl rfl rfl ?_
      have w560 : (Xi U15 904 8) = (Xi T14 904 8) := (show Xi U15 904 8 = Xi T14 904 8 from by rw [eU15]; exact Xi_ne (by omega))
      rw [w560]
      refine l_iconst rfl ?_
      refine l_iadd rfl ?_
      refine l_pfi rfl rfl rfl rfl ?_
      obtain ⟨U16, eU16⟩ : ∃ T : sS, T = uI U15 904 8 (Int32.ofInt ((Xi T14 904 8) + 2)) := ⟨_, rfl⟩
      rw [← eU16]
      have hHU16 : HI U16 := by rw [eU16]; exact HI_w hHU15 (show 0 ≤ ((Xi T14 904 8) + 2) by omega) (show ((Xi T14 904 8) + 2) ≤ 5010 by omega)
      have hFU16 : FR md_mo_sentence__3 S U16 := by rw [eU16]; exact FR.wI hFU15 (mdf_i (r := (904, 905, 8, 9)) (List.mem_of_getElem? (i := 0) rfl) (inR_i (by omega) (by omega) (by omega) (by omega)))
      have w561 : Xi U16 904 8 = ((Xi T14 904 8) + 2) := by rw [eU16]; exact Xi_same (by unfold rg; omega)
      have t320 : AT U16 n 0 ∧ _ := (at_mv2 (S := T14) (P := U15) (TK_FR hFT14 rfl (by assumption : TK S _)) (by first | assumption | exact (by assumption : AT T14 _ _)) (fun j => ((FR_e eU15).cx 907 rfl j).1) (fun j => ((FR_e eU15).cx 908 rfl j).1) ((show Xi U15 904 8 = Xi T14 904 8 from by rw [eU15]; exact Xi_ne (by omega))) ((show Xi U15 904 65 = Xi T14 904 65 from by rw [eU15]; exact Xi_ne (by omega))) ((show Xi U15 904 69 = Xi T14 904 69 from by rw [eU15]; exact Xi_ne (by omega))) ((show Xi U15 904 93 = Xi T14 904 93 from by rw [eU15]; exact Xi_ne (by omega))) eU16 (by omega) (by omega) (by omega) (by omega) (by omega))
      have a320 : AT U16 n 0 := t320.1
      have l320 := t320.2
      refine l_aload_n rfl rfl ?_
      refine l_bipush rfl rfl ?_
      have w566 : Xi U16 904 65 = Xi T14 904 65 := (show Xi U16 904 65 = Xi U15 904 65 from by rw [eU16]; exact Xi_ne (by omega)).trans ((show Xi U15 904 65 = Xi T14 904 65 from by rw [eU15]; exact Xi_ne (by omega)))
      have w568 : Xi U16 904 69 = Xi T14 904 69 := (show Xi U16 904 69 = Xi U15 904 69 from by rw [eU16]; exact Xi_ne (by omega)).trans ((show Xi U15 904 69 = Xi T14 904 69 from by rw [eU15]; exact Xi_ne (by omega)))
      have w582 : 0 ≤ Xi U16 904 8 ∧ Xi U16 904 8 ≤ 5010 := hHU16.c _ _
      refine l_callV rfl rfl rfl (t_mo_take__3 hHU16 n 0 107 ⟨by omega, by omega⟩ (by first | assumption | exact (TK_FR hFU16 rfl (by assumption : TK S _))) (by first | assumption | exact (by assumption : AT U16 _ _)) (by omega) (by first | assumption | exact (BDA_FR (FR_e eU16) rfl (BDA_FR (FR_e eU15) rfl (by assumption : BDA T14)))) _) ?_
      rintro _ T17 ⟨hHT17, w596, rfl, w591, w592, w593, tk326, w594⟩
      have hFT17 : FR md_mo_sentence__3 S T17 := FR.tr hFU16 w596 rfl
      show Rl _ _ _ _ _ [] _ _
      have w598 : 0 ≤ Xi T17 904 8 ∧ Xi T17 904 8 ≤ 5010 := hHT17.c _ _
      have w599 : 0 ≤ Xi T17 904 65 ∧ Xi T17 904 65 ≤ 1 := hHT17.c _ _
      have w600 : Xi T17 904 69 = Xi T14 904 69 := (show Xi T17 904 69 = Xi U16 904 69 from w596.x _ _ rfl).trans ( (show Xi U16 904 69 = Xi U15 904 69 from by rw [eU16]; exact Xi_ne (by omega)).trans ((show Xi U15 904 69 = Xi T14 904 69 from by rw [eU15]; exact Xi_ne (by omega))))
      have w602 : Xi T17 904 93 = Xi T14 904 93 := (show Xi T17 904 93 = Xi U16 904 93 from w596.x _ _ rfl).trans ( (show Xi U16 904 93 = Xi U15 904 93 from by rw [eU16]; exact Xi_ne (by omega)).trans ((show Xi U15 904 93 = Xi T14 904 93 from by rw [eU15]; exact Xi_ne (by omega))))
      have c326 : Xi T17 904 65 = 0 → 0 ≤ Xi T17 904 69 := by omega
      clear tk326
      have w597 : Xi S 904 8 ≤ Xi T17 904 8 ∧ Xi T17 904 8 ≤ n + 2 := by omega
      clear w592 w593
      refine l_aload_n rfl rfl ?_
      refine l_callV rfl rfl rfl (t_mo_name__2 hHT17 n 0 (by first | assumption | exact (TK_FR hFT17 rfl (by assumption : TK S _))) (by first | assumption | exact (by assumption : AT T17 _ _)) (by first | assumption | exact (RNV_FR w596 rfl (RNV_FR (FR_e eU16) rfl (RNV_FR (FR_e eU15) rfl (by assumption : RNV T14 _))))) (by first | assumption | exact (by assumption : BDA T17)) _) ?_
      rintro _ T18 ⟨hHT18, w639, z638, rfl, w638, w632, w633, w634, w635, w636, w637⟩
      have hFT18 : FR md_mo_sentence__3 S T18 := FR.tr hFT17 w639 rfl
      show Rl _ _ _ _ _ [iv z638] _ _
      have w641 : 0 ≤ Xi T18 904 8 ∧ Xi T18 904 8 ≤ 5010 := hHT18.c _ _
      have w642 : 0 ≤ Xi T18 904 65 ∧ Xi T18 904 65 ≤ 1 := hHT18.c _ _
      have w643 : 0 ≤ Xi T18 904 69 ∧ Xi T18 904 69 ≤ 2600 := hHT18.c _ _
      have w644 : Xi T18 904 93 = Xi T14 904 93 := (show Xi T18 904 93 = Xi T17 904 93 from w639.x _ _ rfl).trans ( (show Xi T17 904 93 = Xi U16 904 93 from w596.x _ _ rfl).trans ( (show Xi U16 904 93 = Xi U15 904 93 from by rw [eU16]; exact Xi_ne (by omega)).trans ((show Xi U15 904 93 = Xi T14 904 93 from by rw [eU15]; exact Xi_ne (by omega)))))
      have c330 : Xi T18 904 65 = 0 → 1 ≤ Xi T18 904 69 := by omega
      clear c326
      have w640 : Xi S 904 8 ≤ Xi T18 904 8 ∧ Xi T18 904 8 ≤ n + 2 := by omega
      clear w633 w635 w636 w597
      refine l_pop rfl rfl ?_
      refine l_aload_n rfl rfl ?_
      refine l_callV rfl rfl rfl (t_mo_be__3 hHT18 n 0 (by first | assumption | exact (TK_FR hFT18 rfl (by assumption : TK S _))) (by first | assumption | exact (by assumption : AT T18 _ _)) (by first | assumption | exact (by assumption : BDA T18)) _) ?_
      rintro _ T19 ⟨hHT19, w678, rfl, w673, w674, w675, w676⟩
      have hFT19 : FR md_mo_sentence__3 S T19 := FR.tr hFT18 w678 rfl
      show Rl _ _ _ _ _ [] _ _
      have w680 : 0 ≤ Xi T19 904 8 ∧ Xi T19 904 8 ≤ 5010 := hHT19.c _ _
      have w681 : 0 ≤ Xi T19 904 65 ∧ Xi T19 904 65 ≤ 1 := hHT19.c _ _
      have w682 : Xi T19 904 69 = Xi T18 904 69 := (show Xi T19 904 69 = Xi T18 904 69 from w678.x _ _ rfl)
      have w684 : Xi T19 904 93 = Xi T14 904 93 := (show Xi T19 904 93 = Xi T18 904 93 from w678.x _ _ rfl).trans ( (show Xi T18 904 93 = Xi T17 904 93 from w639.x _ _ rfl).trans ( (show Xi T17 904 93 = Xi U16 904 93 from w596.x _ _ rfl).trans ( (show Xi U16 904 93 = Xi U15 904 93 from by rw [eU16]; exact Xi_ne (by omega)).trans ((show Xi U15 904 93 = Xi T14 904 93 from by rw [eU15]; exact Xi_ne (by omega))))))
      have c335 : Xi T19 904 65 = 0 → 1 ≤ Xi T19 904 69 := by omega
      clear c330
      have w679 : Xi S 904 8 ≤ Xi T19 904 8 ∧ Xi T19 904 8 ≤ n + 2 := by omega
      clear w674 w675 w640
      refine l_aload_n rfl rfl ?_
      refine l_callV rfl rfl rfl (t_mo_run__2 hHT19 n 0 (by first | assumption | exact (TK_FR hFT19 rfl (by assumption : TK S _))) (by first | assumption | exact (by assumption : AT T19 _ _)) (by first | assumption | exact (RNV_FR w678 rfl (by assumption : RNV T18 _))) (by first | assumption | exact (by assumption : BDA T19)) _) ?_
      rintro _ T20 ⟨hHT20, w721, z720, rfl, w720, w714, w715, w716, w717, w718, w719⟩
      have hFT20 : FR md_mo_sentence__3 S T20 := FR.tr hFT19 w721 rfl
      show Rl _ _ _ _ _ [iv z720] _ _
      have w723 : 0 ≤ Xi T20 904 8 ∧ Xi T20 904 8 ≤ 5010 := hHT20.c _ _
      have w724 : 0 ≤ Xi T20 904 65 ∧ Xi T20 904 65 ≤ 1 := hHT20.c _ _
      have w725 : 0 ≤ Xi T20 904 69 ∧ Xi T20 904 69 ≤ 2600 := hHT20.c _ _
      have w726 : Xi T20 904 93 = Xi T14 904 93 := (show Xi T20 904 93 = Xi T19 904 93 from w721.x _ _ rfl).trans ( (show Xi T19 904 93 = Xi T18 904 93 from w678.x _ _ rfl).trans ( (show Xi T18 904 93 = Xi T17 904 93 from w639.x _ _ rfl).trans ( (show Xi T17 904 93 = Xi U16 904 93 from w596.x _ _ rfl).trans ( (show Xi U16 904 93 = Xi U15 904 93 from by rw [eU16]; exact Xi_ne (by omega)).trans ((show Xi U15 904 93 = Xi T14 904 93 from by rw [eU15]; exact Xi_ne (by omega)))))))
      have c339 : Xi T20 904 65 = 0 → 2 ≤ Xi T20 904 69 := by omega
      clear c335
      have w722 : Xi S 904 8 ≤ Xi T20 904 8 ∧ Xi T20 904 8 ≤ n + 2 := by omega
      clear w715 w717 w718 w679
      refine l_pop rfl rfl ?_
      refine l_goto rfl rfl ?_
      have w728 : Xi T20 904 102 = Xi T14 904 102 := (show Xi T20 904 102 = Xi T19 904 102 from w721.x _ _ rfl).trans ( (show Xi T19 904 102 = Xi T18 904 102 from w678.x _ _ rfl).trans ( (show Xi T18 904 102 = Xi T17 904 102 from w639.x _ _ rfl).trans ( (show Xi T17 904 102 = Xi U16 904 102 from w596.x _ _ rfl).trans ( (show Xi U16 904 102 = Xi U15 904 102 from by rw [eU16]; exact Xi_ne (by omega)).trans ((show Xi U15 904 102 = Xi T14 904 102 from by rw [eU15]; exact Xi_ne (by omega)))))))
      have w729 : 0 ≤ Xi T14 904 102 ∧ Xi T14 904 102 ≤ 2600 := hHT14.c _ _
      have w730 : Xi T20 904 103 = Xi T14 904 103 := (show Xi T20 904 103 = Xi T19 904 103 from w721.x _ _ rfl).trans ( (show Xi T19 904 103 = Xi T18 904 103 from w678.x _ _ rfl).trans ( (show Xi T18 904 103 = Xi T17 904 103 from w639.x _ _ rfl).trans ( (show Xi T17 904 103 = Xi U16 904 103 from w596.x _ _ rfl).trans ( (show Xi U16 904 103 = Xi U15 904 103 from by rw [eU16]; exact Xi_ne (by omega)).trans ((show Xi U15 904 103 = Xi T14 904 103 from by rw [eU15]; exact Xi_ne (by omega)))))))
      have w731 : -1 ≤ Xi T14 904 103 ∧ Xi T14 904 103 ≤ 2600 := hHT14.c _ _
      have w734 : Xi T20 904 70 = Xi U15 904 70 := (show Xi T20 904 70 = Xi T19 904 70 from w721.x _ _ rfl).trans ( (show Xi T19 904 70 = Xi T18 904 70 from w678.x _ _ rfl).trans ( (show Xi T18 904 70 = Xi T17 904 70 from w639.x _ _ rfl).trans ( (show Xi T17 904 70 = Xi U16 904 70 from w596.x _ _ rfl).trans ((show Xi U16 904 70 = Xi U15 904 70 from by rw [eU16]; exact Xi_ne (by omega))))))
      have w735 : 0 ≤ Xi U15 904 70 ∧ Xi U15 904 70 ≤ 20 := hHU15.c _ _
      have w736 : Xi T20 904 71 = Xi T14 904 71 := (show Xi T20 904 71 = Xi T19 904 71 from w721.x _ _ rfl).trans ( (show Xi T19 904 71 = Xi T18 904 71 from w678.x _ _ rfl).trans ( (show Xi T18 904 71 = Xi T17 904 71 from w639.x _ _ rfl).trans ( (show Xi T17 904 71 = Xi U16 904 71 from w596.x _ _ rfl).trans ( (show Xi U16 904 71 = Xi U15 904 71 from by rw [eU16]; exact Xi_ne (by omega)).trans ((show Xi U15 904 71 = Xi T14 904 71 from by rw [eU15]; exact Xi_ne (by omega)))))))
      have w737 : 0 ≤ Xi T14 904 71 ∧ Xi T14 904 71 ≤ 2600 := hHT14.c _ _
      have w738 : Xi T20 904 72 = Xi T14 904 72 := (show Xi T20 904 72 = Xi T19 904 72 from w721.x _ _ rfl).trans ( (show Xi T19 904 72 = Xi T18 904 72 from w678.x _ _ rfl).trans ( (show Xi T18 904 72 = Xi T17 904 72 from w639.x _ _ rfl).trans ( (show Xi T17 904 72 = Xi U16 904 72 from w596.x _ _ rfl).trans ( (show Xi U16 904 72 = Xi U15 904 72 from by rw [eU16]; exact Xi_ne (by omega)).trans ((show Xi U15 904 72 = Xi T14 904 72 from by rw [eU15]; exact Xi_ne (by omega)))))))
      have w739 : 0 ≤ Xi T14 904 72 ∧ Xi T14 904 72 ≤ 2600 := hHT14.c _ _
      have w740 : Xi T20 904 73 = Xi T14 904 73 := (show Xi T20 904 73 = Xi T19 904 73 from w721.x _ _ rfl).trans ( (show Xi T19 904 73 = Xi T18 904 73 from w678.x _ _ rfl).trans ( (show Xi T18 904 73 = Xi T17 904 73 from w639.x _ _ rfl).trans ( (show Xi T17 904 73 = Xi U16 904 73 from w596.x _ _ rfl).trans ( (show Xi U16 904 73 = Xi U15 904 73 from by rw [eU16]; exact Xi_ne (by omega)).trans ((show Xi U15 904 73 = Xi T14 904 73 from by rw [eU15]; exact Xi_ne (by omega)))))))
      have w741 : 0 ≤ Xi T14 904 73 ∧ Xi T14 904 73 ≤ 5 := hHT14.c _ _
      have w742 : Xi T20 904 74 = Xi T14 904 74 := (show Xi T20 904 74 = Xi T19 904 74 from w721.x _ _ rfl).trans ( (show Xi T19 904 74 = Xi T18 904 74 from w678.x _ _ rfl).trans ( (show Xi T18 904 74 = Xi T17 904 74 from w639.x _ _ rfl).trans ( (show Xi T17 904 74 = Xi U16 904 74 from w596.x _ _ rfl).trans ( (show Xi U16 904 74 = Xi U15 904 74 from by rw [eU16]; exact Xi_ne (by omega)).trans ((show Xi U15 904 74 = Xi T14 904 74 from by rw [eU15]; exact Xi_ne (by omega)))))))
      have w743 : 0 ≤ Xi T14 904 74 ∧ Xi T14 904 74 ≤ 2600 := hHT14.c _ _
      have w744 : Xi T20 904 78 = Xi T14 904 78 := (show Xi T20 904 78 = Xi T19 904 78 from w721.x _ _ rfl).trans ( (show Xi T19 904 78 = Xi T18 904 78 from w678.x _ _ rfl).trans ( (show Xi T18 904 78 = Xi T17 904 78 from w639.x _ _ rfl).trans ( (show Xi T17 904 78 = Xi U16 904 78 from w596.x _ _ rfl).trans ( (show Xi U16 904 78 = Xi U15 904 78 from by rw [eU16]; exact Xi_ne (by omega)).trans ((show Xi U15 904 78 = Xi T14 904 78 from by rw [eU15]; exact Xi_ne (by omega)))))))
      have w745 : -2 ≤ Xi T14 904 78 ∧ Xi T14 904 78 ≤ 5010 := hHT14.c _ _
      have w747 : Xi T20 904 81 = Xi T14 904 81 := (show Xi T20 904 81 = Xi T19 904 81 from w721.x _ _ rfl).trans ( (show Xi T19 904 81 = Xi T18 904 81 from w678.x _ _ rfl).trans ( (show Xi T18 904 81 = Xi T17 904 81 from w639.x _ _ rfl).trans ( (show Xi T17 904 81 = Xi U16 904 81 from w596.x _ _ rfl).trans ( (show Xi U16 904 81 = Xi U15 904 81 from by rw [eU16]; exact Xi_ne (by omega)).trans ((show Xi U15 904 81 = Xi T14 904 81 from by rw [eU15]; exact Xi_ne (by omega)))))))
      have w748 : 0 ≤ Xi T14 904 81 ∧ Xi T14 904 81 ≤ 5010 := hHT14.c _ _
      have w751 : Xi T20 904 94 = Xi T14 904 94 := (show Xi T20 904 94 = Xi T19 904 94 from w721.x _ _ rfl).trans ( (show Xi T19 904 94 = Xi T18 904 94 from w678.x _ _ rfl).trans ( (show Xi T18 904 94 = Xi T17 904 94 from w639.x _ _ rfl).trans ( (show Xi T17 904 94 = Xi U16 904 94 from w596.x _ _ rfl).trans ( (show Xi U16 904 94 = Xi U15 904 94 from by rw [eU16]; exact Xi_ne (by omega)).trans ((show Xi U15 904 94 = Xi T14 904 94 from by rw [eU15]; exact Xi_ne (by omega)))))))
      have w753 : Xi T20 904 98 = Xi T14 904 98 := (show Xi T20 904 98 = Xi T19 904 98 from w721.x _ _ rfl).trans ( (show Xi T19 904 98 = Xi T18 904 98 from w678.x _ _ rfl).trans ( (show Xi T18 904 98 = Xi T17 904 98 from w639.x _ _ rfl).trans ( (show Xi T17 904 98 = Xi U16 904 98 from w596.x _ _ rfl).trans ( (show Xi U16 904 98 = Xi U15 904 98 from by rw [eU16]; exact Xi_ne (by omega)).trans ((show Xi U15 904 98 = Xi T14 904 98 from by rw [eU15]; exact Xi_ne (by omega)))))))
      exact Rl_weak (C350 T20 hHT20 hFT20  (by assumption) (by first | assumption | exact (by assumption : RNV T20 _)) (by omega) (by first | exact q347 | exact (fun _ => fun q => by unfold SNQ; refine ⟨fun q1 => ⟨by omega, Q115 q⟩, by omega, by omega, by omega, fun q9 => absurd q9 (by omega), by omega, by omega, by omega, by omega, by omega⟩) Q115 | (exact fun q => by unfold SNQ; refine ⟨fun q1 => absurd q1 (by omega), by omega, by omega, by omega, fun q9 => absurd q9 (by omega), by omega, by omega, by omega, by omega, by omega⟩)) (by first | exact fun q _ _ => tv134 q | exact fun q _ _ => tv204 q | exact fun q a b => absurd b (by omega) | exact fun q a b => absurd a (by omega)) (by first | exact fun q _ _ => pv204 q | exact fun q a b => absurd b (by omega) | exact fun q a b => absurd a (by omega)) (by omega) (by omega) (by omega) (by omega) (by first | assumption | exact (PF_FR w721 rfl (PF_FR w678 rfl (PF_FR w639 rfl (PF_FR w596 rfl (PF_FR (FR_e eU16) rfl (PF_FR (FR_e eU15) rfl (by assumption : PF T14)))))))) (by first | assumption | exact (by assumption : BDA T20))) (And.intro rfl (True.intro))
set_option maxRecDepth 100000 in
set_option maxHeartbeats 8000000 in
theorem c35_mo_sentence__3 {S : sS} (hH : HI S) (n : Nat) (hT : TK S n) (hx : Xi S 904 8 ≤ n) (hk : Xi S 907 (Xi S 904 8).toNat ≠ 1) (hPF : PF S) (hBDA : BDA S) (d : Nat) : ∀  (T21 : sS) (_ : HI T21) (_ : FR md_mo_sentence__3 S T21), (AT T21 n 0) → (RNV T21 n) → (Xi T21 904 8 = Xi S 904 8) → (Xi T21 904 65 = 0) → (Xi T21 904 69 = 0) → (Xi T21 904 93 = 0) → (Xi T21 904 94 = 0) → (Xi T21 904 98 = 0) → (Xi T21 907 (Xi T21 904 8).toNat ≠ 1) → (PF T21) → (BDA T21) → Rl lay0 (d + 9) m_mo_sentence 35 [(0, .ref 904)] [] T21 (Q_mo_sentence__3 S n) := by
  have C350 := c350_mo_sentence__3 hH n hT hx hk hPF hBDA d 
  have C168 := c168_mo_sentence__3 hH n hT hx hk hPF hBDA d 
  have C265 := c265_mo_sentence__3 hH n hT hx hk hPF hBDA d 
  have C285 := c285_mo_sentence__3 hH n hT hx hk hPF hBDA d 
  have hF : FR md_mo_sentence__3 S S := FR.rf
  have w1 : 0 ≤ Xi S 904 65 ∧ Xi S 904 65 ≤ 1 := hH.c _ _
  have w2 : 0 ≤ Xi S 904 69 ∧ Xi S 904 69 ≤ 2600 := hH.c _ _
  have w3 : 0 ≤ Xi S 904 70 ∧ Xi S 904 70 ≤ 20 := hH.c _ _
  have w4 : -2 ≤ Xi S 904 78 ∧ Xi S 904 78 ≤ 5010 := hH.c _ _
  have w5 : 0 ≤ Xi S 904 8 ∧ Xi S 904 8 ≤ 5010 := hH.c _ _
  have w6 : 0 ≤ Xi S 904 93 ∧ Xi S 904 93 ≤ 1700 := hH.c _ _
  have w7 : 0 ≤ Xi S 904 94 ∧ Xi S 904 94 ≤ 1700 := hH.c _ _
  have w8 : 0 ≤ Xi S 904 98 ∧ Xi S 904 98 ≤ 1700 := hH.c _ _
  have hn5 := hT.1
  have h8 : 0 ≤ Xi S 904 8 ∧ Xi S 904 8 ≤ 5010 := hH.c _ _
  intro T21 hHT21 hFT21 A35 V35 w755 w756 w757 w758 w759 w760 k35 PF_35 BDA_35
  have w761 : 0 ≤ Xi T21 904 65 ∧ Xi T21 904 65 ≤ 1 := hHT21.c _ _
  have w762 : 0 ≤ Xi T21 904 69 ∧ Xi T21 904 69 ≤ 2600 := hHT21.c _ _
  have w763 : 0 ≤ Xi T21 904 8 ∧ Xi T21 904 8 ≤ 5010 := hHT21.c _ _
  have w764 : 0 ≤ Xi T21 904 93 ∧ Xi T21 904 93 ≤ 1700 := hHT21.c _ _
  have w765 : 0 ≤ Xi T21 904 94 ∧ Xi T21 904 94 ≤ 1700 := hHT21.c _ _
  have w766 : 0 ≤ Xi T21 904 98 ∧ Xi T21 904 98 ≤ 1700 := hHT21.c _ _
  refine l_aload_n rfl rfl ?_
  refine l_gfr rfl rfl rfl rfl rfl (hHT21.r 904 4 907 rfl) ?_
  refine l_aload_n rfl rfl ?_
  refine l_gfi rfl rfl rfl rfl rfl ?_
  refine l_iaload (n := 5002) rfl rfl (by omega) (by omega) (by unfold rg; omega) ?_
  have w767 : 0 ≤ (Xi T21 907 (((Xi T21 904 8)).toNat)) ∧ (Xi T21 907 (((Xi T21 904 8)).toNat)) ≤ 154 := hHT21.c _ _
  refine l_istore_n rfl rfl rfl ?_
  refine l_iload_n rfl rfl ?_
  refine l_iconst rfl ?_
  refine l_icmp_ne rfl rfl (by unfold rg; omega) (by unfold rg; omega) (fun w768 => ?_) (fun w769 => ?_)
  · refine l_iload_n rfl rfl ?_
    refine l_sipush rfl rfl ?_
    refine l_icmp_ne rfl rfl (by unfold rg; omega) (by unfold rg; omega) (fun w770 => ?_) (fun w771 => ?_)
    · refine l_iload_n rfl rfl ?_
      refine l_sipush rfl rfl ?_
      refine l_icmp_ne rfl rfl (by unfold rg; omega) (by unfold rg; omega) (fun w772 => ?_) (fun w773 => ?_)
      · refine l_iload_n rfl rfl ?_
        refine l_sipush rfl rfl ?_
        refine l_icmp_eq rfl rfl (by unfold rg; omega) (by unfold rg; omega) (fun w774 => ?_) (fun w775 => ?_)
        · have w776 : 0 ≤ Xi T21 904 102 ∧ Xi T21 904 102 ≤ 2600 := hHT21.c _ _
          have w777 : -1 ≤ Xi T21 904 103 ∧ Xi T21 904 103 ≤ 2600 := hHT21.c _ _
          have w780 : 0 ≤ Xi T21 904 70 ∧ Xi T21 904 70 ≤ 20 := hHT21.c _ _
          have w781 : 0 ≤ Xi T21 904 71 ∧ Xi T21 904 71 ≤ 2600 := hHT21.c _ _
          have w782 : 0 ≤ Xi T21 904 72 ∧ Xi T21 904 72 ≤ 2600 := hHT21.c _ _
          have w783 : 0 ≤ Xi T21 904 73 ∧ Xi T21 904 73 ≤ 5 := hHT21.c _ _
          have w784 : 0 ≤ Xi T21 904 74 ∧ Xi T21 904 74 ≤ 2600 := hHT21.c _ _
          have w785 : -2 ≤ Xi T21 904 78 ∧ Xi T21 904 78 ≤ 5010 := hHT21.c _ _
          have w787 : 0 ≤ Xi T21 904 81 ∧ Xi T21 904 81 ≤ 5010 := hHT21.c _ _
          exact Rl_weak (C168 T21 hHT21 hFT21 ((Xi T21 907 (((Xi T21 904 8)).toNat))) (by omega) (by first | assumption | exact (by assumption : AT T21 _ _)) (by first | assumption | exact (by assumption : RNV T21 _)) (by omega) (by omega) (by omega) (by omega) (by omega) (by omega) (by first | assumption | omega) (by omega) (by omega) (by first | assumption | exact (by assumption : PF T21)) (by first | assumption | exact (by assumption : BDA T21))) (And.intro rfl (And.intro rfl (True.intro)))
        · refine l_iload_n rfl rfl ?_
          refine l_sipush rfl rfl ?_
          refine l_icmp_eq rfl rfl (by unfold rg; omega) (by unfold rg; omega) (fun w791 => ?_) (fun w792 => ?_)
          · have w793 : 0 ≤ Xi T21 904 102 ∧ Xi T21 904 102 ≤ 2600 := hHT21.c _ _
            have w794 : -1 ≤ Xi T21 904 103 ∧ Xi T21 904 103 ≤ 2600 := hHT21.c _ _
            have w797 : 0 ≤ Xi T21 904 70 ∧ Xi T21 904 70 ≤ 20 := hHT21.c _ _
            have w798 : 0 ≤ Xi T21 904 71 ∧ Xi T21 904 71 ≤ 2600 := hHT21.c _ _
            have w799 : 0 ≤ Xi T21 904 72 ∧ Xi T21 904 72 ≤ 2600 := hHT21.c _ _
            have w800 : 0 ≤ Xi T21 904 73 ∧ Xi T21 904 73 ≤ 5 := hHT21.c _ _
            have w801 : 0 ≤ Xi T21 904 74 ∧ Xi T21 904 74 ≤ 2600 := hHT21.c _ _
            have w802 : -2 ≤ Xi T21 904 78 ∧ Xi T21 904 78 ≤ 5010 := hHT21.c _ _
            have w804 : 0 ≤ Xi T21 904 81 ∧ Xi T21 904 81 ≤ 5010 := hHT21.c _ _
            exact Rl_weak (C168 T21 hHT21 hFT21 ((Xi T21 907 (((Xi T21 904 8)).toNat))) (by omega) (by first | assumption | exact (by assumption : AT T21 _ _)) (by first | assumption | exact (by assumption : RNV T21 _)) (by omega) (by omega) (by omega) (by omega) (by omega) (by omega) (by first | assumption | omega) (by omega) (by omega) (by first | assumption | exact (by assumption : PF T21)) (by first | assumption | exact (by assumption : BDA T21))) (And.intro rfl (And.intro rfl (True.intro)))
          · refine l_iload_n rfl rfl ?_
            refine l_sipush rfl rfl ?_
            refine l_icmp_eq rfl rfl (by unfold rg; omega) (by unfold rg; omega) (fun w808 => ?_) (fun w809 => ?_)
            · have w810 : 0 ≤ Xi T21 904 102 ∧ Xi T21 904 102 ≤ 2600 := hHT21.c _ _
              have w811 : -1 ≤ Xi T21 904 103 ∧ Xi T21 904 103 ≤ 2600 := hHT21.c _ _
              have w814 : 0 ≤ Xi T21 904 70 ∧ Xi T21 904 70 ≤ 20 := hHT21.c _ _
              have w815 : 0 ≤ Xi T21 904 71 ∧ Xi T21 904 71 ≤ 2600 := hHT21.c _ _
              have w816 : 0 ≤ Xi T21 904 72 ∧ Xi T21 904 72 ≤ 2600 := hHT21.c _ _
              have w817 : 0 ≤ Xi T21 904 73 ∧ Xi T21 904 73 ≤ 5 := hHT21.c _ _
              have w818 : 0 ≤ Xi T21 904 74 ∧ Xi T21 904 74 ≤ 2600 := hHT21.c _ _
              have w819 : -2 ≤ Xi T21 904 78 ∧ Xi T21 904 78 ≤ 5010 := hHT21.c _ _
              have w821 : 0 ≤ Xi T21 904 81 ∧ Xi T21 904 81 ≤ 5010 := hHT21.c _ _
              exact Rl_weak (C168 T21 hHT21 hFT21 ((Xi T21 907 (((Xi T21 904 8)).toNat))) (by omega) (by first | assumption | exact (by assumption : AT T21 _ _)) (by first | assumption | exact (by assumption : RNV T21 _)) (by omega) (by omega) (by omega) (by omega) (by omega) (by omega) (by first | assumption | omega) (by omega) (by omega) (by first | assumption | exact (by assumption : PF T21)) (by first | assumption | exact (by assumption : BDA T21))) (And.intro rfl (And.intro rfl (True.intro)))
            · refine l_iload_n rfl rfl ?_
              refine l_sipush rfl rfl ?_
              refine l_icmp_ne rfl rfl (by unfold rg; omega) (by unfold rg; omega) (fun w825 => ?_) (fun w826 => ?_)
              · refine l_iload_n rfl rfl ?_
                refine l_bipush rfl rfl ?_
                refine l_icmp_ne rfl rfl (by unfold rg; omega) (by unfold rg; omega) (fun w827 => ?_) (fun w828 => ?_)
                · have w829 : 0 ≤ Xi T21 904 102 ∧ Xi T21 904 102 ≤ 2600 := hHT21.c _ _
                  have w830 : -1 ≤ Xi T21 904 103 ∧ Xi T21 904 103 ≤ 2600 := hHT21.c _ _
                  have w833 : 0 ≤ Xi T21 904 70 ∧ Xi T21 904 70 ≤ 20 := hHT21.c _ _
                  have w834 : 0 ≤ Xi T21 904 71 ∧ Xi T21 904 71 ≤ 2600 := hHT21.c _ _
                  have w835 : 0 ≤ Xi T21 904 72 ∧ Xi T21 904 72 ≤ 2600 := hHT21.c _ _
                  have w836 : 0 ≤ Xi T21 904 73 ∧ Xi T21 904 73 ≤ 5 := hHT21.c _ _
                  have w837 : 0 ≤ Xi T21 904 74 ∧ Xi T21 904 74 ≤ 2600 := hHT21.c _ _
                  have w838 : -2 ≤ Xi T21 904 78 ∧ Xi T21 904 78 ≤ 5010 := hHT21.c _ _
                  have w840 : 0 ≤ Xi T21 904 81 ∧ Xi T21 904 81 ≤ 5010 := hHT21.c _ _
                  exact Rl_weak (C285 T21 hHT21 hFT21 ((Xi T21 907 (((Xi T21 904 8)).toNat))) (by omega) (by first | assumption | exact (by assumption : AT T21 _ _)) (by first | assumption | exact (by assumption : RNV T21 _)) (by omega) (by omega) (by omega) (by omega) (by omega) (by omega) (by first | assumption | omega) (by omega) (by first | assumption | exact (by assumption : PF T21)) (by first | assumption | exact (by assumption : BDA T21))) (And.intro rfl (And.intro rfl (True.intro)))
                · refine l_aload_n rfl rfl ?_
                  refine l_gfr rfl rfl rfl rfl rfl (hHT21.r 904 4 907 rfl) ?_
                  refine l_aload_n rfl rfl ?_
                  refine l_gfi rfl rfl rfl rfl rfl ?_
                  refine l_iconst rfl ?_
                  refine l_iadd rfl ?_
                  refine l_iaload (n := 5002) rfl rfl (by omega) (by omega) (by unfold rg; omega) ?_
                  have w844 : 0 ≤ (Xi T21 907 ((((Xi T21 904 8) + 1)).toNat)) ∧ (Xi T21 907 ((((Xi T21 904 8) + 1)).toNat)) ≤ 154 := hHT21.c _ _
                  refine l_bipush rfl rfl ?_
                  refine l_icmp_ne rfl rfl (by unfold rg; omega) (by unfold rg; omega) (fun w845 => ?_) (fun w846 => ?_)
                  · have w847 : 0 ≤ Xi T21 904 102 ∧ Xi T21 904 102 ≤ 2600 := hHT21.c _ _
                    have w848 : -1 ≤ Xi T21 904 103 ∧ Xi T21 904 103 ≤ 2600 := hHT21.c _ _
                    have w851 : 0 ≤ Xi T21 904 70 ∧ Xi T21 904 70 ≤ 20 := hHT21.c _ _
                    have w852 : 0 ≤ Xi T21 904 71 ∧ Xi T21 904 71 ≤ 2600 := hHT21.c _ _
                    have w853 : 0 ≤ Xi T21 904 72 ∧ Xi T21 904 72 ≤ 2600 := hHT21.c _ _
                    have w854 : 0 ≤ Xi T21 904 73 ∧ Xi T21 904 73 ≤ 5 := hHT21.c _ _
                    have w855 : 0 ≤ Xi T21 904 74 ∧ Xi T21 904 74 ≤ 2600 := hHT21.c _ _
                    have w856 : -2 ≤ Xi T21 904 78 ∧ Xi T21 904 78 ≤ 5010 := hHT21.c _ _
                    have w858 : 0 ≤ Xi T21 904 81 ∧ Xi T21 904 81 ≤ 5010 := hHT21.c _ _
                    exact Rl_weak (C285 T21 hHT21 hFT21 ((Xi T21 907 (((Xi T21 904 8)).toNat))) (by omega) (by first | assumption | exact (by assumption : AT T21 _ _)) (by first | assumption | exact (by assumption : RNV T21 _)) (by omega) (by omega) (by omega) (by omega) (by omega) (by omega) (by first | assumption | omega) (by omega) (by first | assumption | exact (by assumption : PF T21)) (by first | assumption | exact (by assumption : BDA T21))) (And.intro rfl (And.intro rfl (True.intro)))
                  · refine l_aload_n rfl rfl ?_
                    refine l_bipush rfl rfl ?_
                    refine l_pfi rfl rfl rfl rfl ?_
                    obtain ⟨U22, eU22⟩ : ∃ T : sS, T = uI T21 904 70 (Int32.ofInt 7) := ⟨_, rfl⟩
                    rw [← eU22]
                    have hHU22 : HI U22 := by rw [eU22]; exact HI_w hHT21 (show 0 ≤ 7 by omega) (show 7 ≤ 20 by omega)
                    have hFU22 : FR md_mo_sentence__3 S U22 := by rw [eU22]; exact FR.wI hFT21 (mdf_i (r := (904, 905, 70, 71)) (List.mem_of_getElem? (i := 4) rfl) (inR_i (by omega) (by omega) (by omega) (by omega)))
                    have w862 : Xi U22 904 70 = 7 := by rw [eU22]; exact Xi_same (by unfold rg; omega)
                    refine l_aload_n rfl rfl ?_
                    refine l_dup rfl rfl ?_
                    refine l_gfi rfl rfl rfl rfl rfl ?_
                    have w863 : (Xi U22 904 8) = (Xi T21 904 8) := (show Xi U22 904 8 = Xi T21 904 8 from by rw [eU22]; exact Xi_ne (by omega))
                    rw [w863]
                    refine l_iconst rfl ?_
                    refine l_iadd rfl ?_
                    refine l_pfi rfl rfl rfl rfl ?_
                    obtain ⟨U23, eU23⟩ : ∃ T : sS, T = uI U22 904 8 (Int32.ofInt ((Xi T21 904 8) + 2)) := ⟨_, rfl⟩
                    rw [← eU23]
                    have hHU23 : HI U23 := by rw [eU23]; exact HI_w hHU22 (show 0 ≤ ((Xi T21 904 8) + 2) by omega) (show ((Xi T21 904 8) + 2) ≤ 5010 by omega)
                    have hFU23 : FR md_mo_sentence__3 S U23 := by rw [eU23]; exact FR.wI hFU22 (mdf_i (r := (904, 905, 8, 9)) (List.mem_of_getElem? (i := 0) rfl) (inR_i (by omega) (by omega) (by omega) (by omega)))
                    have w864 : Xi U23 904 8 = ((Xi T21 904 8) + 2) := by rw [eU23]; exact Xi_same (by unfold rg; omega)
                    have t245 : AT U23 n 0 ∧ _ := (at_mv2 (S := T21) (P := U22) (TK_FR hFT21 rfl (by assumption : TK S _)) (by first | assumption | exact (by assumption : AT T21 _ _)) (fun j => ((FR_e eU22).cx 907 rfl j).1) (fun j => ((FR_e eU22).cx 908 rfl j).1) ((show Xi U22 904 8 = Xi T21 904 8 from by rw [eU22]; exact Xi_ne (by omega))) ((show Xi U22 904 65 = Xi T21 904 65 from by rw [eU22]; exact Xi_ne (by omega))) ((show Xi U22 904 69 = Xi T21 904 69 from by rw [eU22]; exact Xi_ne (by omega))) ((show Xi U22 904 93 = Xi T21 904 93 from by rw [eU22]; exact Xi_ne (by omega))) eU23 (by omega) (by omega) (by omega) (by omega) (by omega))
                    have a245 : AT U23 n 0 := t245.1
                    have l245 := t245.2
                    refine l_aload_n rfl rfl ?_
                    refine l_bipush rfl rfl ?_
                    have w869 : Xi U23 904 65 = Xi T21 904 65 := (show Xi U23 904 65 = Xi U22 904 65 from by rw [eU23]; exact Xi_ne (by omega)).trans ((show Xi U22 904 65 = Xi T21 904 65 from by rw [eU22]; exact Xi_ne (by omega)))
                    have w871 : Xi U23 904 69 = Xi T21 904 69 := (show Xi U23 904 69 = Xi U22 904 69 from by rw [eU23]; exact Xi_ne (by omega)).trans ((show Xi U22 904 69 = Xi T21 904 69 from by rw [eU22]; exact Xi_ne (by omega)))
                    have w885 : 0 ≤ Xi U23 904 8 ∧ Xi U23 904 8 ≤ 5010 := hHU23.c _ _
                    refine l_callV rfl rfl rfl (t_mo_take__3 hHU23 n 0 111 ⟨by omega, by omega⟩ (by first | assumption | exact (TK_FR hFU23 rfl (by assumption : TK S _))) (by first | assumption | exact (by assumption : AT U23 _ _)) (by omega) (by first | assumption | exact (BDA_FR (FR_e eU23) rfl (BDA_FR (FR_e eU22) rfl (by assumption : BDA T21)))) _) ?_
                    rintro _ T24 ⟨hHT24, w899, rfl, w894, w895, w896, tk251, w897⟩
                    have hFT24 : FR md_mo_sentence__3 S T24 := FR.tr hFU23 w899 rfl
                    show Rl _ _ _ _ _ [] _ _
                    have w901 : 0 ≤ Xi T24 904 8 ∧ Xi T24 904 8 ≤ 5010 := hHT24.c _ _
                    have w902 : 0 ≤ Xi T24 904 65 ∧ Xi T24 904 65 ≤ 1 := hHT24.c _ _
                    have w903 : Xi T24 904 69 = Xi T21 904 69 := (show Xi T24 904 69 = Xi U23 904 69 from w899.x _ _ rfl).trans ( (show Xi U23 904 69 = Xi U22 904 69 from by rw [eU23]; exact Xi_ne (by omega)).trans ((show Xi U22 904 69 = Xi T21 904 69 from by rw [eU22]; exact Xi_ne (by omega))))
                    have w905 : Xi T24 904 93 = Xi T21 904 93 := (show Xi T24 904 93 = Xi U23 904 93 from w899.x _ _ rfl).trans ( (show Xi U23 904 93 = Xi U22 904 93 from by rw [eU23]; exact Xi_ne (by omega)).trans ((show Xi U22 904 93 = Xi T21 904 93 from by rw [eU22]; exact Xi_ne (by omega))))
                    have c251 : Xi T24 904 65 = 0 → 0 ≤ Xi T24 904 69 := by omega
                    clear tk251
                    have w900 : Xi S 904 8 ≤ Xi T24 904 8 ∧ Xi T24 904 8 ≤ n + 2 := by omega
                    clear w895 w896
                    refine l_aload_n rfl rfl ?_
                    refine l_callV rfl rfl rfl (t_mo_run__2 hHT24 n 0 (by first | assumption | exact (TK_FR hFT24 rfl (by assumption : TK S _))) (by first | assumption | exact (by assumption : AT T24 _ _)) (by first | assumption | exact (RNV_FR w899 rfl (RNV_FR (FR_e eU23) rfl (RNV_FR (FR_e eU22) rfl (by assumption : RNV T21 _))))) (by first | assumption | exact (by assumption : BDA T24)) _) ?_
                    rintro _ T25 ⟨hHT25, w942, z941, rfl, w941, w935, w936, w937, w938, w939, w940⟩
                    have hFT25 : FR md_mo_sentence__3 S T25 := FR.tr hFT24 w942 rfl
                    show Rl _ _ _ _ _ [iv z941] _ _
                    have w944 : 0 ≤ Xi T25 904 8 ∧ Xi T25 904 8 ≤ 5010 := hHT25.c _ _
                    have w945 : 0 ≤ Xi T25 904 65 ∧ Xi T25 904 65 ≤ 1 := hHT25.c _ _
                    have w946 : 0 ≤ Xi T25 904 69 ∧ Xi T25 904 69 ≤ 2600 := hHT25.c _ _
                    have w947 : Xi T25 904 93 = Xi T21 904 93 := (show Xi T25 904 93 = Xi T24 904 93 from w942.x _ _ rfl).trans ( (show Xi T24 904 93 = Xi U23 904 93 from w899.x _ _ rfl).trans ( (show Xi U23 904 93 = Xi U22 904 93 from by rw [eU23]; exact Xi_ne (by omega)).trans ((show Xi U22 904 93 = Xi T21 904 93 from by rw [eU22]; exact Xi_ne (by omega)))))
                    have c255 : Xi T25 904 65 = 0 → 1 ≤ Xi T25 904 69 := by omega
                    clear c251
                    have w943 : Xi S 904 8 ≤ Xi T25 904 8 ∧ Xi T25 904 8 ≤ n + 2 := by omega
                    clear w936 w938 w939 w900
                    refine l_pop rfl rfl ?_
                    refine l_aload_n rfl rfl ?_
                    refine l_bipush rfl rfl ?_
                    refine l_callV rfl rfl rfl (t_mo_take__3 hHT25 n 0 124 ⟨by omega, by omega⟩ (by first | assumption | exact (TK_FR hFT25 rfl (by assumption : TK S _))) (by first | assumption | exact (by assumption : AT T25 _ _)) (by omega) (by first | assumption | exact (by assumption : BDA T25)) _) ?_
                    rintro _ T26 ⟨hHT26, w981, rfl, w976, w977, w978, tk262, w979⟩
                    have hFT26 : FR md_mo_sentence__3 S T26 := FR.tr hFT25 w981 rfl
                    show Rl _ _ _ _ _ [] _ _
                    have w983 : 0 ≤ Xi T26 904 8 ∧ Xi T26 904 8 ≤ 5010 := hHT26.c _ _
                    have w984 : 0 ≤ Xi T26 904 65 ∧ Xi T26 904 65 ≤ 1 := hHT26.c _ _
                    have w985 : Xi T26 904 69 = Xi T25 904 69 := (show Xi T26 904 69 = Xi T25 904 69 from w981.x _ _ rfl)
                    have w987 : Xi T26 904 93 = Xi T21 904 93 := (show Xi T26 904 93 = Xi T25 904 93 from w981.x _ _ rfl).trans ( (show Xi T25 904 93 = Xi T24 904 93 from w942.x _ _ rfl).trans ( (show Xi T24 904 93 = Xi U23 904 93 from w899.x _ _ rfl).trans ( (show Xi U23 904 93 = Xi U22 904 93 from by rw [eU23]; exact Xi_ne (by omega)).trans ((show Xi U22 904 93 = Xi T21 904 93 from by rw [eU22]; exact Xi_ne (by omega))))))
                    have c262 : Xi T26 904 65 = 0 → 1 ≤ Xi T26 904 69 := by omega
                    clear c255
                    clear tk262
                    have w982 : Xi S 904 8 ≤ Xi T26 904 8 ∧ Xi T26 904 8 ≤ n + 2 := by omega
                    clear w977 w978 w943
                    have w989 : Xi T26 904 102 = Xi T21 904 102 := (show Xi T26 904 102 = Xi T25 904 102 from w981.x _ _ rfl).trans ( (show Xi T25 904 102 = Xi T24 904 102 from w942.x _ _ rfl).trans ( (show Xi T24 904 102 = Xi U23 904 102 from w899.x _ _ rfl).trans ( (show Xi U23 904 102 = Xi U22 904 102 from by rw [eU23]; exact Xi_ne (by omega)).trans ((show Xi U22 904 102 = Xi T21 904 102 from by rw [eU22]; exact Xi_ne (by omega))))))
                    have w990 : 0 ≤ Xi T21 904 102 ∧ Xi T21 904 102 ≤ 2600 := hHT21.c _ _
                    have w991 : Xi T26 904 103 = Xi T21 904 103 := (show Xi T26 904 103 = Xi T25 904 103 from w981.x _ _ rfl).trans ( (show Xi T25 904 103 = Xi T24 904 103 from w942.x _ _ rfl).trans ( (show Xi T24 904 103 = Xi U23 904 103 from w899.x _ _ rfl).trans ( (show Xi U23 904 103 = Xi U22 904 103 from by rw [eU23]; exact Xi_ne (by omega)).trans ((show Xi U22 904 103 = Xi T21 904 103 from by rw [eU22]; exact Xi_ne (by omega))))))
                    have w992 : -1 ≤ Xi T21 904 103 ∧ Xi T21 904 103 ≤ 2600 := hHT21.c _ _
                    have w996 : Xi T26 904 70 = Xi U22 904 70 := (show Xi T26 904 70 = Xi T25 904 70 from w981.x _ _ rfl).trans ( (show Xi T25 904 70 = Xi T24 904 70 from w942.x _ _ rfl).trans ( (show Xi T24 904 70 = Xi U23 904 70 from w899.x _ _ rfl).trans ((show Xi U23 904 70 = Xi U22 904 70 from by rw [eU23]; exact Xi_ne (by omega)))))
                    have w997 : 0 ≤ Xi U22 904 70 ∧ Xi U22 904 70 ≤ 20 := hHU22.c _ _
                    have w998 : Xi T26 904 71 = Xi T21 904 71 := (show Xi T26 904 71 = Xi T25 904 71 from w981.x _ _ rfl).trans ( (show Xi T25 904 71 = Xi T24 904 71 from w942.x _ _ rfl).trans ( (show Xi T24 904 71 = Xi U23 904 71 from w899.x _ _ rfl).trans ( (show Xi U23 904 71 = Xi U22 904 71 from by rw [eU23]; exact Xi_ne (by omega)).trans ((show Xi U22 904 71 = Xi T21 904 71 from by rw [eU22]; exact Xi_ne (by omega))))))
                    have w999 : 0 ≤ Xi T21 904 71 ∧ Xi T21 904 71 ≤ 2600 := hHT21.c _ _
                    have w1000 : Xi T26 904 72 = Xi T21 904 72 := (show Xi T26 904 72 = Xi T25 904 72 from w981.x _ _ rfl).trans ( (show Xi T25 904 72 = Xi T24 904 72 from w942.x _ _ rfl).trans ( (show Xi T24 904 72 = Xi U23 904 72 from w899.x _ _ rfl).trans ( (show Xi U23 904 72 = Xi U22 904 72 from by rw [eU23]; exact Xi_ne (by omega)).trans ((show Xi U22 904 72 = Xi T21 904 72 from by rw [eU22]; exact Xi_ne (by omega))))))
                    have w1001 : 0 ≤ Xi T21 904 72 ∧ Xi T21 904 72 ≤ 2600 := hHT21.c _ _
                    have w1002 : Xi T26 904 73 = Xi T21 904 73 := (show Xi T26 904 73 = Xi T25 904 73 from w981.x _ _ rfl).trans ( (show Xi T25 904 73 = Xi T24 904 73 from w942.x _ _ rfl).trans ( (show Xi T24 904 73 = Xi U23 904 73 from w899.x _ _ rfl).trans ( (show Xi U23 904 73 = Xi U22 904 73 from by rw [eU23]; exact Xi_ne (by omega)).trans ((show Xi U22 904 73 = Xi T21 904 73 from by rw [eU22]; exact Xi_ne (by omega))))))
                    have w1003 : 0 ≤ Xi T21 904 73 ∧ Xi T21 904 73 ≤ 5 := hHT21.c _ _
                    have w1004 : Xi T26 904 74 = Xi T21 904 74 := (show Xi T26 904 74 = Xi T25 904 74 from w981.x _ _ rfl).trans ( (show Xi T25 904 74 = Xi T24 904 74 from w942.x _ _ rfl).trans ( (show Xi T24 904 74 = Xi U23 904 74 from w899.x _ _ rfl).trans ( (show Xi U23 904 74 = Xi U22 904 74 from by rw [eU23]; exact Xi_ne (by omega)).trans ((show Xi U22 904 74 = Xi T21 904 74 from by rw [eU22]; exact Xi_ne (by omega))))))
                    have w1005 : 0 ≤ Xi T21 904 74 ∧ Xi T21 904 74 ≤ 2600 := hHT21.c _ _
                    have w1006 : Xi T26 904 78 = Xi T21 904 78 := (show Xi T26 904 78 = Xi T25 904 78 from w981.x _ _ rfl).trans ( (show Xi T25 904 78 = Xi T24 904 78 from w942.x _ _ rfl).trans ( (show Xi T24 904 78 = Xi U23 904 78 from w899.x _ _ rfl).trans ( (show Xi U23 904 78 = Xi U22 904 78 from by rw [eU23]; exact Xi_ne (by omega)).trans ((show Xi U22 904 78 = Xi T21 904 78 from by rw [eU22]; exact Xi_ne (by omega))))))
                    have w1007 : -2 ≤ Xi T21 904 78 ∧ Xi T21 904 78 ≤ 5010 := hHT21.c _ _
                    have w1009 : Xi T26 904 81 = Xi T21 904 81 := (show Xi T26 904 81 = Xi T25 904 81 from w981.x _ _ rfl).trans ( (show Xi T25 904 81 = Xi T24 904 81 from w942.x _ _ rfl).trans ( (show Xi T24 904 81 = Xi U23 904 81 from w899.x _ _ rfl).trans ( (show Xi U23 904 81 = Xi U22 904 81 from by rw [eU23]; exact Xi_ne (by omega)).trans ((show Xi U22 904 81 = Xi T21 904 81 from by rw [eU22]; exact Xi_ne (by omega))))))
                    have w1010 : 0 ≤ Xi T21 904 81 ∧ Xi T21 904 81 ≤ 5010 := hHT21.c _ _
                    have w1013 : Xi T26 904 94 = Xi T21 904 94 := (show Xi T26 904 94 = Xi T25 904 94 from w981.x _ _ rfl).trans ( (show Xi T25 904 94 = Xi T24 904 94 from w942.x _ _ rfl).trans ( (show Xi T24 904 94 = Xi U23 904 94 from w899.x _ _ rfl).trans ( (show Xi U23 904 94 = Xi U22 904 94 from by rw [eU23]; exact Xi_ne (by omega)).trans ((show Xi U22 904 94 = Xi T21 904 94 from by rw [eU22]; exact Xi_ne (by omega))))))
                    have w1015 : Xi T26 904 98 = Xi T21 904 98 := (show Xi T26 904 98 = Xi T25 904 98 from w981.x _ _ rfl).trans ( (show Xi T25 904 98 = Xi T24 904 98 from w942.x _ _ rfl).trans ( (show Xi T24 904 98 = Xi U23 904 98 from w899.x _ _ rfl).trans ( (show Xi U23 904 98 = Xi U22 904 98 from by rw [eU23]; exact Xi_ne (by omega)).trans ((show Xi U22 904 98 = Xi T21 904 98 from by rw [eU22]; exact Xi_ne (by omega))))))
                    exact Rl_weak (C265 T26 hHT26 hFT26  (by first | assumption | exact (by assumption : AT T26 _ _)) (by first | assumption | exact (RNV_FR w981 rfl (by assumption : RNV T25 _))) (by omega) (by omega) (by omega) (c262) (by first | assumption | exact (PF_FR w981 rfl (PF_FR w942 rfl (PF_FR w899 rfl (PF_FR (FR_e eU23) rfl (PF_FR (FR_e eU22) rfl (by assumption : PF T21))))))) (by first | assumption | exact (by assumption : BDA T26))) (And.intro rfl (True.intro))
              · have w1017 : 0 ≤ Xi T21 904 102 ∧ Xi T21 904 102 ≤ 2600 := hHT21.c _ _
                have w1018 : -1 ≤ Xi T21 904 103 ∧ Xi T21 904 103 ≤ 2600 := hHT21.c _ _
                have w1021 : 0 ≤ Xi T21 904 70 ∧ Xi T21 904 70 ≤ 20 := hHT21.c _ _
                have w1022 : 0 ≤ Xi T21 904 71 ∧ Xi T21 904 71 ≤ 2600 := hHT21.c _ _
                have w1023 : 0 ≤ Xi T21 904 72 ∧ Xi T21 904 72 ≤ 2600 := hHT21.c _ _
                have w1024 : 0 ≤ Xi T21 904 73 ∧ Xi T21 904 73 ≤ 5 := hHT21.c _ _
                have w1025 : 0 ≤ Xi T21 904 74 ∧ Xi T21 904 74 ≤ 2600 := hHT21.c _ _
                have w1026 : -2 ≤ Xi T21 904 78 ∧ Xi T21 904 78 ≤ 5010 := hHT21.c _ _
                have w1028 : 0 ≤ Xi T21 904 81 ∧ Xi T21 904 81 ≤ 5010 := hHT21.c _ _
                exact Rl_weak (C168 T21 hHT21 hFT21 ((Xi T21 907 (((Xi T21 904 8)).toNat))) (by omega) (by first | assumption | exact (by assumption : AT T21 _ _)) (by first | assumption | exact (by assumption : RNV T21 _)) (by omega) (by omega) (by omega) (by omega) (by omega) (by omega) (by first | assumption | omega) (by omega) (by omega) (by first | assumption | exact (by assumption : PF T21)) (by first | assumption | exact (by assumption : BDA T21))) (And.intro rfl (And.intro rfl (True.intro)))
      · refine l_aload_n rfl rfl ?_
        refine l_iconst rfl ?_
        refine l_pfi rfl rfl rfl rfl ?_
        obtain ⟨U27, eU27⟩ : ∃ T : sS, T = uI T21 904 70 (Int32.ofInt 2) := ⟨_, rfl⟩
        rw [← eU27]
        have hHU27 : HI U27 := by rw [eU27]; exact HI_w hHT21 (show 0 ≤ 2 by omega) (show 2 ≤ 20 by omega)
        have hFU27 : FR md_mo_sentence__3 S U27 := by rw [eU27]; exact FR.wI hFT21 (mdf_i (r := (904, 905, 70, 71)) (List.mem_of_getElem? (i := 4) rfl) (inR_i (by omega) (by omega) (by omega) (by omega)))
        have w1032 : Xi U27 904 70 = 2 := by rw [eU27]; exact Xi_same (by unfold rg; omega)
        refine l_aload_n rfl rfl ?_
        have w1037 : Xi U27 904 65 = Xi T21 904 65 := (show Xi U27 904 65 = Xi T21 904 65 from by rw [eU27]; exact Xi_ne (by omega))
        have w1039 : Xi U27 904 69 = Xi T21 904 69 := (show Xi U27 904 69 = Xi T21 904 69 from by rw [eU27]; exact Xi_ne (by omega))
        have w1052 : Xi U27 904 8 = Xi T21 904 8 := (show Xi U27 904 8 = Xi T21 904 8 from by rw [eU27]; exact Xi_ne (by omega))
        have w1056 : Xi U27 904 93 = Xi T21 904 93 := (show Xi U27 904 93 = Xi T21 904 93 from by rw [eU27]; exact Xi_ne (by omega))
        have w1058 : Xi U27 904 94 = Xi T21 904 94 := (show Xi U27 904 94 = Xi T21 904 94 from by rw [eU27]; exact Xi_ne (by omega))
        refine l_callV rfl rfl rfl (t_mo_partTwo__3 hHU27 n 0 (by first | assumption | exact (TK_FR hFU27 rfl (by assumption : TK S _))) (by first | assumption | exact (AT_FR (FR_e eU27) rfl (by assumption : AT T21 _ _))) (by first | assumption | exact (RNV_FR (FR_e eU27) rfl (by assumption : RNV T21 _))) (by first | assumption | omega) (by first | assumption | omega | (rw [show ∀ j, Xi U27 907 j = Xi T21 907 j from fun j => by rw [eU27, Xi_ne (by omega)], show Xi U27 904 8 = Xi T21 904 8 by omega]; first | assumption | omega)) (by first | assumption | omega) (by first | assumption | exact (BDA_FR (FR_e eU27) rfl (by assumption : BDA T21))) _) ?_
        rintro _ T28 ⟨hHT28, w1071, rfl, w1062, w1063, w1064, w1065, w1066, w1067, tv134, w1068, w1069⟩
        have hFT28 : FR md_mo_sentence__3 S T28 := FR.tr hFU27 w1071 rfl
        show Rl _ _ _ _ _ [] _ _
        have w1073 : 0 ≤ Xi T28 904 8 ∧ Xi T28 904 8 ≤ 5010 := hHT28.c _ _
        have w1074 : 0 ≤ Xi T28 904 65 ∧ Xi T28 904 65 ≤ 1 := hHT28.c _ _
        have w1075 : 0 ≤ Xi T28 904 69 ∧ Xi T28 904 69 ≤ 2600 := hHT28.c _ _
        have w1076 : 0 ≤ Xi T28 904 93 ∧ Xi T28 904 93 ≤ 1700 := hHT28.c _ _
        have w1072 : Xi S 904 8 ≤ Xi T28 904 8 ∧ Xi T28 904 8 ≤ n + 2 := by omega
        clear w1063 w1065
        refine l_goto rfl rfl ?_
        have w1077 : Xi T28 904 102 = Xi T21 904 102 := (show Xi T28 904 102 = Xi U27 904 102 from w1071.x _ _ rfl).trans ((show Xi U27 904 102 = Xi T21 904 102 from by rw [eU27]; exact Xi_ne (by omega)))
        have w1078 : 0 ≤ Xi T21 904 102 ∧ Xi T21 904 102 ≤ 2600 := hHT21.c _ _
        have w1079 : Xi T28 904 103 = Xi T21 904 103 := (show Xi T28 904 103 = Xi U27 904 103 from w1071.x _ _ rfl).trans ((show Xi U27 904 103 = Xi T21 904 103 from by rw [eU27]; exact Xi_ne (by omega)))
        have w1080 : -1 ≤ Xi T21 904 103 ∧ Xi T21 904 103 ≤ 2600 := hHT21.c _ _
        have w1083 : Xi T28 904 70 = Xi U27 904 70 := (show Xi T28 904 70 = Xi U27 904 70 from w1071.x _ _ rfl)
        have w1084 : 0 ≤ Xi U27 904 70 ∧ Xi U27 904 70 ≤ 20 := hHU27.c _ _
        have w1085 : Xi T28 904 71 = Xi T21 904 71 := (show Xi T28 904 71 = Xi U27 904 71 from w1071.x _ _ rfl).trans ((show Xi U27 904 71 = Xi T21 904 71 from by rw [eU27]; exact Xi_ne (by omega)))
        have w1086 : 0 ≤ Xi T21 904 71 ∧ Xi T21 904 71 ≤ 2600 := hHT21.c _ _
        have w1087 : Xi T28 904 72 = Xi T21 904 72 := (show Xi T28 904 72 = Xi U27 904 72 from w1071.x _ _ rfl).trans ((show Xi U27 904 72 = Xi T21 904 72 from by rw [eU27]; exact Xi_ne (by omega)))
        have w1088 : 0 ≤ Xi T21 904 72 ∧ Xi T21 904 72 ≤ 2600 := hHT21.c _ _
        have w1089 : Xi T28 904 73 = Xi T21 904 73 := (show Xi T28 904 73 = Xi U27 904 73 from w1071.x _ _ rfl).trans ((show Xi U27 904 73 = Xi T21 904 73 from by rw [eU27]; exact Xi_ne (by omega)))
        have w1090 : 0 ≤ Xi T21 904 73 ∧ Xi T21 904 73 ≤ 5 := hHT21.c _ _
        have w1091 : Xi T28 904 74 = Xi T21 904 74 := (show Xi T28 904 74 = Xi U27 904 74 from w1071.x _ _ rfl).trans ((show Xi U27 904 74 = Xi T21 904 74 from by rw [eU27]; exact Xi_ne (by omega)))
        have w1092 : 0 ≤ Xi T21 904 74 ∧ Xi T21 904 74 ≤ 2600 := hHT21.c _ _
        have w1093 : -2 ≤ Xi T28 904 78 ∧ Xi T28 904 78 ≤ 5010 := hHT28.c _ _
        have w1095 : Xi T28 904 81 = Xi T21 904 81 := (show Xi T28 904 81 = Xi U27 904 81 from w1071.x _ _ rfl).trans ((show Xi U27 904 81 = Xi T21 904 81 from by rw [eU27]; exact Xi_ne (by omega)))
        have w1096 : 0 ≤ Xi T21 904 81 ∧ Xi T21 904 81 ≤ 5010 := hHT21.c _ _
        have w1098 : 0 ≤ Xi T28 904 94 ∧ Xi T28 904 94 ≤ 1700 := hHT28.c _ _
        have w1099 : Xi T28 904 98 = Xi T21 904 98 := (show Xi T28 904 98 = Xi U27 904 98 from w1071.x _ _ rfl).trans ((show Xi U27 904 98 = Xi T21 904 98 from by rw [eU27]; exact Xi_ne (by omega)))
        exact Rl_weak (C350 T28 hHT28 hFT28  (by assumption) (by first | assumption | exact (by assumption : RNV T28 _)) (by omega) (by first | exact q347 | exact (fun _ => fun q => by unfold SNQ; refine ⟨fun q1 => ⟨by omega, Q115 q⟩, by omega, by omega, by omega, fun q9 => absurd q9 (by omega), by omega, by omega, by omega, by omega, by omega⟩) Q115 | (exact fun q => by unfold SNQ; refine ⟨fun q1 => absurd q1 (by omega), by omega, by omega, by omega, fun q9 => absurd q9 (by omega), by omega, by omega, by omega, by omega, by omega⟩)) (by first | exact fun q _ _ => tv134 q | exact fun q _ _ => tv204 q | exact fun q a b => absurd b (by omega) | exact fun q a b => absurd a (by omega)) (by first | exact fun q _ _ => pv204 q | exact fun q a b => absurd b (by omega) | exact fun q a b => absurd a (by omega)) (by omega) (by omega) (by omega) (by omega) (by first | assumption | exact (PF_FR w1071 rfl (PF_FR (FR_e eU27) rfl (by assumption : PF T21)))) (by first | assumption | exact (by assumption : BDA T28))) (And.intro rfl (True.intro))
    · refine l_aload_n rfl rfl ?_
      refine l_iconst rfl ?_
      refine l_pfi rfl rfl rfl rfl ?_
      obtain ⟨U29, eU29⟩ : ∃ T : sS, T = uI T21 904 70 (Int32.ofInt 1) := ⟨_, rfl⟩
      rw [← eU29]
      have hHU29 : HI U29 := by rw [eU29]; exact HI_w hHT21 (show 0 ≤ 1 by omega) (show 1 ≤ 20 by omega)
      have hFU29 : FR md_mo_sentence__3 S U29 := by rw [eU29]; exact FR.wI hFT21 (mdf_i (r := (904, 905, 70, 71)) (List.mem_of_getElem? (i := 4) rfl) (inR_i (by omega) (by omega) (by omega) (by omega)))
      have w1101 : Xi U29 904 70 = 1 := by rw [eU29]; exact Xi_same (by unfold rg; omega)
      refine l_aload_n rfl rfl ?_
      have w1106 : Xi U29 904 65 = Xi T21 904 65 := (show Xi U29 904 65 = Xi T21 904 65 from by rw [eU29]; exact Xi_ne (by omega))
      have w1108 : Xi U29 904 69 = Xi T21 904 69 := (show Xi U29 904 69 = Xi T21 904 69 from by rw [eU29]; exact Xi_ne (by omega))
      have w1121 : Xi U29 904 8 = Xi T21 904 8 := (show Xi U29 904 8 = Xi T21 904 8 from by rw [eU29]; exact Xi_ne (by omega))
      have w1123 : Xi U29 904 81 = Xi T21 904 81 := (show Xi U29 904 81 = Xi T21 904 81 from by rw [eU29]; exact Xi_ne (by omega))
      have w1124 : 0 ≤ Xi T21 904 81 ∧ Xi T21 904 81 ≤ 5010 := hHT21.c _ _
      refine l_callV rfl rfl rfl (t_mo_partOne__2 hHU29 n 0 (by first | assumption | exact (TK_FR hFU29 rfl (by assumption : TK S _))) (by first | assumption | exact (AT_FR (FR_e eU29) rfl (by assumption : AT T21 _ _))) (by first | assumption | exact (RNV_FR (FR_e eU29) rfl (by assumption : RNV T21 _))) (by first | assumption | omega) (by first | assumption | omega | (rw [show ∀ j, Xi U29 907 j = Xi T21 907 j from fun j => by rw [eU29, Xi_ne (by omega)], show Xi U29 904 8 = Xi T21 904 8 by omega]; first | assumption | omega)) (by first | assumption | exact (BDA_FR (FR_e eU29) rfl (by assumption : BDA T21))) _) ?_
      rintro _ T30 ⟨hHT30, w1137, rfl, w1131, w1132, w1133, w1134, q115, w1135⟩
      have hFT30 : FR md_mo_sentence__3 S T30 := FR.tr hFU29 w1137 rfl
      show Rl _ _ _ _ _ [] _ _
      have w1139 : 0 ≤ Xi T30 904 8 ∧ Xi T30 904 8 ≤ 5010 := hHT30.c _ _
      have w1140 : 0 ≤ Xi T30 904 65 ∧ Xi T30 904 65 ≤ 1 := hHT30.c _ _
      have w1141 : 0 ≤ Xi T30 904 69 ∧ Xi T30 904 69 ≤ 2600 := hHT30.c _ _
      have w1142 : Xi T30 904 93 = Xi T21 904 93 := (show Xi T30 904 93 = Xi U29 904 93 from w1137.x _ _ rfl).trans ((show Xi U29 904 93 = Xi T21 904 93 from by rw [eU29]; exact Xi_ne (by omega)))
      have Q115 : Xi T30 904 65 = 0 → Xi T30 907 (Xi T30 904 81).toNat = 5 := fun q => by rw [(hFT30.cx 907 rfl _).1, ← (hFU29.cx 907 rfl _).1]; exact (q115 q).2.1
      have R115 : Xi T30 904 65 = 0 → Xi T30 904 81 ≤ n ∧ 1 ≤ Xi T30 904 69 := fun q => ⟨(q115 q).1, (q115 q).2.2⟩
      clear q115
      have w1138 : Xi S 904 8 ≤ Xi T30 904 8 ∧ Xi T30 904 8 ≤ n + 2 := by omega
      clear w1132 w1134
      refine l_goto rfl rfl ?_
      have w1144 : Xi T30 904 102 = Xi T21 904 102 := (show Xi T30 904 102 = Xi U29 904 102 from w1137.x _ _ rfl).trans ((show Xi U29 904 102 = Xi T21 904 102 from by rw [eU29]; exact Xi_ne (by omega)))
      have w1145 : 0 ≤ Xi T21 904 102 ∧ Xi T21 904 102 ≤ 2600 := hHT21.c _ _
      have w1146 : Xi T30 904 103 = Xi T21 904 103 := (show Xi T30 904 103 = Xi U29 904 103 from w1137.x _ _ rfl).trans ((show Xi U29 904 103 = Xi T21 904 103 from by rw [eU29]; exact Xi_ne (by omega)))
      have w1147 : -1 ≤ Xi T21 904 103 ∧ Xi T21 904 103 ≤ 2600 := hHT21.c _ _
      have w1150 : Xi T30 904 70 = Xi U29 904 70 := (show Xi T30 904 70 = Xi U29 904 70 from w1137.x _ _ rfl)
      have w1151 : 0 ≤ Xi U29 904 70 ∧ Xi U29 904 70 ≤ 20 := hHU29.c _ _
      have w1152 : Xi T30 904 71 = Xi T21 904 71 := (show Xi T30 904 71 = Xi U29 904 71 from w1137.x _ _ rfl).trans ((show Xi U29 904 71 = Xi T21 904 71 from by rw [eU29]; exact Xi_ne (by omega)))
      have w1153 : 0 ≤ Xi T21 904 71 ∧ Xi T21 904 71 ≤ 2600 := hHT21.c _ _
      have w1154 : Xi T30 904 72 = Xi T21 904 72 := (show Xi T30 904 72 = Xi U29 904 72 from w1137.x _ _ rfl).trans ((show Xi U29 904 72 = Xi T21 904 72 from by rw [eU29]; exact Xi_ne (by omega)))
      have w1155 : 0 ≤ Xi T21 904 72 ∧ Xi T21 904 72 ≤ 2600 := hHT21.c _ _
      have w1156 : Xi T30 904 73 = Xi T21 904 73 := (show Xi T30 904 73 = Xi U29 904 73 from w1137.x _ _ rfl).trans ((show Xi U29 904 73 = Xi T21 904 73 from by rw [eU29]; exact Xi_ne (by omega)))
      have w1157 : 0 ≤ Xi T21 904 73 ∧ Xi T21 904 73 ≤ 5 := hHT21.c _ _
      have w1158 : Xi T30 904 74 = Xi T21 904 74 := (show Xi T30 904 74 = Xi U29 904 74 from w1137.x _ _ rfl).trans ((show Xi U29 904 74 = Xi T21 904 74 from by rw [eU29]; exact Xi_ne (by omega)))
      have w1159 : 0 ≤ Xi T21 904 74 ∧ Xi T21 904 74 ≤ 2600 := hHT21.c _ _
      have w1160 : Xi T30 904 78 = Xi T21 904 78 := (show Xi T30 904 78 = Xi U29 904 78 from w1137.x _ _ rfl).trans ((show Xi U29 904 78 = Xi T21 904 78 from by rw [eU29]; exact Xi_ne (by omega)))
      have w1161 : -2 ≤ Xi T21 904 78 ∧ Xi T21 904 78 ≤ 5010 := hHT21.c _ _
      have w1163 : 0 ≤ Xi T30 904 81 ∧ Xi T30 904 81 ≤ 5010 := hHT30.c _ _
      have w1166 : Xi T30 904 94 = Xi T21 904 94 := (show Xi T30 904 94 = Xi U29 904 94 from w1137.x _ _ rfl).trans ((show Xi U29 904 94 = Xi T21 904 94 from by rw [eU29]; exact Xi_ne (by omega)))
      have w1168 : Xi T30 904 98 = Xi T21 904 98 := (show Xi T30 904 98 = Xi U29 904 98 from w1137.x _ _ rfl).trans ((show Xi U29 904 98 = Xi T21 904 98 from by rw [eU29]; exact Xi_ne (by omega)))
      exact Rl_weak (C350 T30 hHT30 hFT30  (by assumption) (by first | assumption | exact (by assumption : RNV T30 _)) (by omega) (by first | exact q347 | exact (fun _ => fun q => by unfold SNQ; refine ⟨fun q1 => ⟨by omega, Q115 q⟩, by omega, by omega, by omega, fun q9 => absurd q9 (by omega), by omega, by omega, by omega, by omega, by omega⟩) Q115 | (exact fun q => by unfold SNQ; refine ⟨fun q1 => absurd q1 (by omega), by omega, by omega, by omega, fun q9 => absurd q9 (by omega), by omega, by omega, by omega, by omega, by omega⟩)) (by first | exact fun q _ _ => tv134 q | exact fun q _ _ => tv204 q | exact fun q a b => absurd b (by omega) | exact fun q a b => absurd a (by omega)) (by first | exact fun q _ _ => pv204 q | exact fun q a b => absurd b (by omega) | exact fun q a b => absurd a (by omega)) (by omega) (by omega) (by omega) (by omega) (by first | assumption | exact (PF_FR w1137 rfl (PF_FR (FR_e eU29) rfl (by assumption : PF T21)))) (by first | assumption | exact (by assumption : BDA T30))) (And.intro rfl (True.intro))
  · refine l_aload_n rfl rfl ?_
    have s5 : Xi S 907 (Xi S 904 8).toNat = 5 := by have t : Xi T21 907 (Xi T21 904 8).toNat = 5 := (by omega); rw [(hFT21.cx 907 rfl _).1, show Xi T21 904 8 = Xi S 904 8 by omega] at t; exact t
    refine l_iconst rfl ?_
    refine l_pfi rfl rfl rfl rfl ?_
    obtain ⟨U31, eU31⟩ : ∃ T : sS, T = uI T21 904 70 (Int32.ofInt 0) := ⟨_, rfl⟩
    rw [← eU31]
    have hHU31 : HI U31 := by rw [eU31]; exact HI_w hHT21 (show 0 ≤ 0 by omega) (show 0 ≤ 20 by omega)
    have hFU31 : FR md_mo_sentence__3 S U31 := by rw [eU31]; exact FR.wI hFT21 (mdf_i (r := (904, 905, 70, 71)) (List.mem_of_getElem? (i := 4) rfl) (inR_i (by omega) (by omega) (by omega) (by omega)))
    have w1170 : Xi U31 904 70 = 0 := by rw [eU31]; exact Xi_same (by unfold rg; omega)
    refine l_aload_n rfl rfl ?_
    refine l_aload_n rfl rfl ?_
    refine l_gfi rfl rfl rfl rfl rfl ?_
    have w1171 : (Xi U31 904 8) = (Xi T21 904 8) := (show Xi U31 904 8 = Xi T21 904 8 from by rw [eU31]; exact Xi_ne (by omega))
    rw [w1171]
    refine l_pfi rfl rfl rfl rfl ?_
    obtain ⟨U32, eU32⟩ : ∃ T : sS, T = uI U31 904 81 (Int32.ofInt (Xi T21 904 8)) := ⟨_, rfl⟩
    rw [← eU32]
    have hHU32 : HI U32 := by rw [eU32]; exact HI_w hHU31 (show 0 ≤ (Xi T21 904 8) by omega) (show (Xi T21 904 8) ≤ 5010 by omega)
    have hFU32 : FR md_mo_sentence__3 S U32 := by rw [eU32]; exact FR.wI hFU31 (mdf_i (r := (904, 905, 81, 82)) (List.mem_of_getElem? (i := 15) rfl) (inR_i (by omega) (by omega) (by omega) (by omega)))
    have w1172 : Xi U32 904 81 = (Xi T21 904 8) := by rw [eU32]; exact Xi_same (by unfold rg; omega)
    refine l_aload_n rfl rfl ?_
    refine l_dup rfl rfl ?_
    refine l_gfi rfl rfl rfl rfl rfl ?_
    have w1173 : (Xi U32 904 8) = (Xi T21 904 8) := (show Xi U32 904 8 = Xi U31 904 8 from by rw [eU32]; exact Xi_ne (by omega)).trans ((show Xi U31 904 8 = Xi T21 904 8 from by rw [eU31]; exact Xi_ne (by omega)))
    rw [w1173]
    refine l_iconst rfl ?_
    refine l_iadd rfl ?_
    refine l_pfi rfl rfl rfl rfl ?_
    obtain ⟨U33, eU33⟩ : ∃ T : sS, T = uI U32 904 8 (Int32.ofInt ((Xi T21 904 8) + 1)) := ⟨_, rfl⟩
    rw [← eU33]
    have hHU33 : HI U33 := by rw [eU33]; exact HI_w hHU32 (show 0 ≤ ((Xi T21 904 8) + 1) by omega) (show ((Xi T21 904 8) + 1) ≤ 5010 by omega)
    have hFU33 : FR md_mo_sentence__3 S U33 := by rw [eU33]; exact FR.wI hFU32 (mdf_i (r := (904, 905, 8, 9)) (List.mem_of_getElem? (i := 0) rfl) (inR_i (by omega) (by omega) (by omega) (by omega)))
    have w1174 : Xi U33 904 8 = ((Xi T21 904 8) + 1) := by rw [eU33]; exact Xi_same (by unfold rg; omega)
    have t70 : AT U33 n 0 ∧ _ := (at_mv (S := T21) (P := U32) (TK_FR hFT21 rfl (by assumption : TK S _)) (by first | assumption | exact (by assumption : AT T21 _ _)) (fun j => ((FR_e eU32).cx 907 rfl j).1.trans (((FR_e eU31).cx 907 rfl j).1)) (fun j => ((FR_e eU32).cx 908 rfl j).1.trans (((FR_e eU31).cx 908 rfl j).1)) ((show Xi U32 904 8 = Xi U31 904 8 from by rw [eU32]; exact Xi_ne (by omega)).trans ((show Xi U31 904 8 = Xi T21 904 8 from by rw [eU31]; exact Xi_ne (by omega)))) ((show Xi U32 904 65 = Xi U31 904 65 from by rw [eU32]; exact Xi_ne (by omega)).trans ((show Xi U31 904 65 = Xi T21 904 65 from by rw [eU31]; exact Xi_ne (by omega)))) ((show Xi U32 904 69 = Xi U31 904 69 from by rw [eU32]; exact Xi_ne (by omega)).trans ((show Xi U31 904 69 = Xi T21 904 69 from by rw [eU31]; exact Xi_ne (by omega)))) ((show Xi U32 904 93 = Xi U31 904 93 from by rw [eU32]; exact Xi_ne (by omega)).trans ((show Xi U31 904 93 = Xi T21 904 93 from by rw [eU31]; exact Xi_ne (by omega)))) eU33 (by omega) (by omega) (by omega) (by omega) (Or.inl rfl))
    have a70 : AT U33 n 0 := t70.1
    have l70 := t70.2
    have b70 : Xi U33 904 65 = 0 := by rw [eU33, Xi_ne (by omega), eU32, Xi_ne (by omega), eU31, Xi_ne (by omega)]; omega
    refine l_aload_n rfl rfl ?_
    refine l_dup rfl rfl ?_
    refine l_gfi rfl rfl rfl rfl rfl ?_
    refine l_aload_n rfl rfl ?_
    refine l_gfr rfl rfl rfl rfl rfl (hHU33.r 904 4 907 rfl) ?_
    refine l_aload_n rfl rfl ?_
    refine l_gfi rfl rfl rfl rfl rfl ?_
    refine l_iaload (n := 5002) rfl rfl (by omega) (by omega) (by unfold rg; omega) ?_
    have w1175 : 0 ≤ (Xi U33 907 (((Xi U33 904 8)).toNat)) ∧ (Xi U33 907 (((Xi U33 904 8)).toNat)) ≤ 154 := hHU33.c _ _
    have e86 : (Xi U33 907 (((Xi U33 904 8)).toNat)) = Xi U33 907 (Xi U33 904 8).toNat := by first | rfl | exact congrArg (fun t : Int => Xi U33 907 t.toNat) (by omega)
    refine l_bipush rfl rfl ?_
    refine l_icmp_ne rfl rfl (by unfold rg; omega) (by unfold rg; omega) (fun w1176 => ?_) (fun w1177 => ?_)
    · refine l_iconst rfl ?_
      refine l_iadd rfl ?_
      refine l_pfi rfl rfl rfl rfl ?_
      obtain ⟨U34, eU34⟩ : ∃ T : sS, T = uI U33 904 8 (Int32.ofInt ((Xi U33 904 8) + 0)) := ⟨_, rfl⟩
      rw [← eU34]
      have hHU34 : HI U34 := by rw [eU34]; exact HI_w hHU33 (show 0 ≤ ((Xi U33 904 8) + 0) by omega) (show ((Xi U33 904 8) + 0) ≤ 5010 by omega)
      have hFU34 : FR md_mo_sentence__3 S U34 := by rw [eU34]; exact FR.wI hFU33 (mdf_i (r := (904, 905, 8, 9)) (List.mem_of_getElem? (i := 0) rfl) (inR_i (by omega) (by omega) (by omega) (by omega)))
      have w1178 : Xi U34 904 8 = ((Xi U33 904 8) + 0) := by rw [eU34]; exact Xi_same (by unfold rg; omega)
      have t98 : AT U34 n 0 ∧ Xi U33 904 8 ≤ Xi U34 904 8 ∧ (Xi U34 904 8 ≤ n ∨ Xi U34 904 8 = Xi U33 904 8) := at_opt (TK_FR hFU33 rfl hT) a70 eU34 (by omega) (by omega)
      refine l_return rfl rfl ?_
      have w1179 : Xi U34 904 102 = Xi T21 904 102 := (show Xi U34 904 102 = Xi U33 904 102 from by rw [eU34]; exact Xi_ne (by omega)).trans ( (show Xi U33 904 102 = Xi U32 904 102 from by rw [eU33]; exact Xi_ne (by omega)).trans ( (show Xi U32 904 102 = Xi U31 904 102 from by rw [eU32]; exact Xi_ne (by omega)).trans ((show Xi U31 904 102 = Xi T21 904 102 from by rw [eU31]; exact Xi_ne (by omega)))))
      have w1180 : 0 ≤ Xi T21 904 102 ∧ Xi T21 904 102 ≤ 2600 := hHT21.c _ _
      have w1181 : Xi U34 904 103 = Xi T21 904 103 := (show Xi U34 904 103 = Xi U33 904 103 from by rw [eU34]; exact Xi_ne (by omega)).trans ( (show Xi U33 904 103 = Xi U32 904 103 from by rw [eU33]; exact Xi_ne (by omega)).trans ( (show Xi U32 904 103 = Xi U31 904 103 from by rw [eU32]; exact Xi_ne (by omega)).trans ((show Xi U31 904 103 = Xi T21 904 103 from by rw [eU31]; exact Xi_ne (by omega)))))
      have w1182 : -1 ≤ Xi T21 904 103 ∧ Xi T21 904 103 ≤ 2600 := hHT21.c _ _
      have w1183 : Xi U34 904 65 = Xi T21 904 65 := (show Xi U34 904 65 = Xi U33 904 65 from by rw [eU34]; exact Xi_ne (by omega)).trans ( (show Xi U33 904 65 = Xi U32 904 65 from by rw [eU33]; exact Xi_ne (by omega)).trans ( (show Xi U32 904 65 = Xi U31 904 65 from by rw [eU32]; exact Xi_ne (by omega)).trans ((show Xi U31 904 65 = Xi T21 904 65 from by rw [eU31]; exact Xi_ne (by omega)))))
      have w1185 : Xi U34 904 69 = Xi T21 904 69 := (show Xi U34 904 69 = Xi U33 904 69 from by rw [eU34]; exact Xi_ne (by omega)).trans ( (show Xi U33 904 69 = Xi U32 904 69 from by rw [eU33]; exact Xi_ne (by omega)).trans ( (show Xi U32 904 69 = Xi U31 904 69 from by rw [eU32]; exact Xi_ne (by omega)).trans ((show Xi U31 904 69 = Xi T21 904 69 from by rw [eU31]; exact Xi_ne (by omega)))))
      have w1187 : Xi U34 904 70 = Xi U31 904 70 := (show Xi U34 904 70 = Xi U33 904 70 from by rw [eU34]; exact Xi_ne (by omega)).trans ( (show Xi U33 904 70 = Xi U32 904 70 from by rw [eU33]; exact Xi_ne (by omega)).trans ((show Xi U32 904 70 = Xi U31 904 70 from by rw [eU32]; exact Xi_ne (by omega))))
      have w1188 : 0 ≤ Xi U31 904 70 ∧ Xi U31 904 70 ≤ 20 := hHU31.c _ _
      have w1189 : Xi U34 904 71 = Xi T21 904 71 := (show Xi U34 904 71 = Xi U33 904 71 from by rw [eU34]; exact Xi_ne (by omega)).trans ( (show Xi U33 904 71 = Xi U32 904 71 from by rw [eU33]; exact Xi_ne (by omega)).trans ( (show Xi U32 904 71 = Xi U31 904 71 from by rw [eU32]; exact Xi_ne (by omega)).trans ((show Xi U31 904 71 = Xi T21 904 71 from by rw [eU31]; exact Xi_ne (by omega)))))
      have w1190 : 0 ≤ Xi T21 904 71 ∧ Xi T21 904 71 ≤ 2600 := hHT21.c _ _
      have w1191 : Xi U34 904 72 = Xi T21 904 72 := (show Xi U34 904 72 = Xi U33 904 72 from by rw [eU34]; exact Xi_ne (by omega)).trans ( (show Xi U33 904 72 = Xi U32 904 72 from by rw [eU33]; exact Xi_ne (by omega)).trans ( (show Xi U32 904 72 = Xi U31 904 72 from by rw [eU32]; exact Xi_ne (by omega)).trans ((show Xi U31 904 72 = Xi T21 904 72 from by rw [eU31]; exact Xi_ne (by omega)))))
      have w1192 : 0 ≤ Xi T21 904 72 ∧ Xi T21 904 72 ≤ 2600 := hHT21.c _ _
      have w1193 : Xi U34 904 73 = Xi T21 904 73 := (show Xi U34 904 73 = Xi U33 904 73 from by rw [eU34]; exact Xi_ne (by omega)).trans ( (show Xi U33 904 73 = Xi U32 904 73 from by rw [eU33]; exact Xi_ne (by omega)).trans ( (show Xi U32 904 73 = Xi U31 904 73 from by rw [eU32]; exact Xi_ne (by omega)).trans ((show Xi U31 904 73 = Xi T21 904 73 from by rw [eU31]; exact Xi_ne (by omega)))))
      have w1194 : 0 ≤ Xi T21 904 73 ∧ Xi T21 904 73 ≤ 5 := hHT21.c _ _
      have w1195 : Xi U34 904 74 = Xi T21 904 74 := (show Xi U34 904 74 = Xi U33 904 74 from by rw [eU34]; exact Xi_ne (by omega)).trans ( (show Xi U33 904 74 = Xi U32 904 74 from by rw [eU33]; exact Xi_ne (by omega)).trans ( (show Xi U32 904 74 = Xi U31 904 74 from by rw [eU32]; exact Xi_ne (by omega)).trans ((show Xi U31 904 74 = Xi T21 904 74 from by rw [eU31]; exact Xi_ne (by omega)))))
      have w1196 : 0 ≤ Xi T21 904 74 ∧ Xi T21 904 74 ≤ 2600 := hHT21.c _ _
      have w1197 : Xi U34 904 78 = Xi T21 904 78 := (show Xi U34 904 78 = Xi U33 904 78 from by rw [eU34]; exact Xi_ne (by omega)).trans ( (show Xi U33 904 78 = Xi U32 904 78 from by rw [eU33]; exact Xi_ne (by omega)).trans ( (show Xi U32 904 78 = Xi U31 904 78 from by rw [eU32]; exact Xi_ne (by omega)).trans ((show Xi U31 904 78 = Xi T21 904 78 from by rw [eU31]; exact Xi_ne (by omega)))))
      have w1198 : -2 ≤ Xi T21 904 78 ∧ Xi T21 904 78 ≤ 5010 := hHT21.c _ _
      have w1199 : 0 ≤ Xi U34 904 8 ∧ Xi U34 904 8 ≤ 5010 := hHU34.c _ _
      have w1200 : Xi U34 904 81 = Xi U32 904 81 := (show Xi U34 904 81 = Xi U33 904 81 from by rw [eU34]; exact Xi_ne (by omega)).trans ((show Xi U33 904 81 = Xi U32 904 81 from by rw [eU33]; exact Xi_ne (by omega)))
      have w1201 : 0 ≤ Xi U32 904 81 ∧ Xi U32 904 81 ≤ 5010 := hHU32.c _ _
      have w1202 : Xi U34 904 93 = Xi T21 904 93 := (show Xi U34 904 93 = Xi U33 904 93 from by rw [eU34]; exact Xi_ne (by omega)).trans ( (show Xi U33 904 93 = Xi U32 904 93 from by rw [eU33]; exact Xi_ne (by omega)).trans ( (show Xi U32 904 93 = Xi U31 904 93 from by rw [eU32]; exact Xi_ne (by omega)).trans ((show Xi U31 904 93 = Xi T21 904 93 from by rw [eU31]; exact Xi_ne (by omega)))))
      have w1204 : Xi U34 904 94 = Xi T21 904 94 := (show Xi U34 904 94 = Xi U33 904 94 from by rw [eU34]; exact Xi_ne (by omega)).trans ( (show Xi U33 904 94 = Xi U32 904 94 from by rw [eU33]; exact Xi_ne (by omega)).trans ( (show Xi U32 904 94 = Xi U31 904 94 from by rw [eU32]; exact Xi_ne (by omega)).trans ((show Xi U31 904 94 = Xi T21 904 94 from by rw [eU31]; exact Xi_ne (by omega)))))
      have w1206 : Xi U34 904 98 = Xi T21 904 98 := (show Xi U34 904 98 = Xi U33 904 98 from by rw [eU34]; exact Xi_ne (by omega)).trans ( (show Xi U33 904 98 = Xi U32 904 98 from by rw [eU33]; exact Xi_ne (by omega)).trans ( (show Xi U32 904 98 = Xi U31 904 98 from by rw [eU32]; exact Xi_ne (by omega)).trans ((show Xi U31 904 98 = Xi T21 904 98 from by rw [eU31]; exact Xi_ne (by omega)))))
      exact ⟨hHU34, hFU34, rfl, (by omega), (by omega), (by first | assumption | exact (RNV_FR (FR_e eU34) rfl (RNV_FR (FR_e eU33) rfl (RNV_FR (FR_e eU32) rfl (RNV_FR (FR_e eU31) rfl (by assumption : RNV T21 _)))))), (by first | exact Q353 | (exact fun q => by unfold SNQ; refine ⟨fun q1 => ⟨by omega, by rw [(hFU34.cx 907 rfl _).1, show Xi U34 904 81 = Xi S 904 8 by omega]; exact s5⟩, by omega, by omega, by omega, fun q9 => absurd q9 (by omega), by omega, by omega, by omega, by omega, by omega⟩)), (by first | exact T353 | exact fun q a b => absurd b (by omega)), (by first | exact P353 | exact fun q a b => absurd b (by omega)), (by omega), (by omega), (by first | exact fun q _ => d353 q | exact fun q a => absurd (by omega) a), (by omega), (by omega), (by first | assumption | exact (PF_FR (FR_e eU34) rfl (PF_FR (FR_e eU33) rfl (PF_FR (FR_e eU32) rfl (PF_FR (FR_e eU31) rfl (by assumption : PF T21)))))), (by first | assumption | exact (BDA_FR (FR_e eU34) rfl (BDA_FR (FR_e eU33) rfl (BDA_FR (FR_e eU32) rfl (BDA_FR (FR_e eU31) rfl (by assumption : BDA T21))))))⟩
    · refine l_iconst rfl ?_
      refine l_goto rfl rfl ?_
      refine l_iadd rfl ?_
      refine l_pfi rfl rfl rfl rfl ?_
      obtain ⟨U35, eU35⟩ : ∃ T : sS, T = uI U33 904 8 (Int32.ofInt ((Xi U33 904 8) + 1)) := ⟨_, rfl⟩
      rw [← eU35]
      have hHU35 : HI U35 := by rw [eU35]; exact HI_w hHU33 (show 0 ≤ ((Xi U33 904 8) + 1) by omega) (show ((Xi U33 904 8) + 1) ≤ 5010 by omega)
      have hFU35 : FR md_mo_sentence__3 S U35 := by rw [eU35]; exact FR.wI hFU33 (mdf_i (r := (904, 905, 8, 9)) (List.mem_of_getElem? (i := 0) rfl) (inR_i (by omega) (by omega) (by omega) (by omega)))
      have w1208 : Xi U35 904 8 = ((Xi U33 904 8) + 1) := by rw [eU35]; exact Xi_same (by unfold rg; omega)
      have t98 : AT U35 n 0 ∧ Xi U33 904 8 ≤ Xi U35 904 8 ∧ (Xi U35 904 8 ≤ n ∨ Xi U35 904 8 = Xi U33 904 8) := at_opt (TK_FR hFU33 rfl hT) a70 eU35 (by omega) (by omega)
      refine l_return rfl rfl ?_
      have w1209 : Xi U35 904 102 = Xi T21 904 102 := (show Xi U35 904 102 = Xi U33 904 102 from by rw [eU35]; exact Xi_ne (by omega)).trans ( (show Xi U33 904 102 = Xi U32 904 102 from by rw [eU33]; exact Xi_ne (by omega)).trans ( (show Xi U32 904 102 = Xi U31 904 102 from by rw [eU32]; exact Xi_ne (by omega)).trans ((show Xi U31 904 102 = Xi T21 904 102 from by rw [eU31]; exact Xi_ne (by omega)))))
      have w1210 : 0 ≤ Xi T21 904 102 ∧ Xi T21 904 102 ≤ 2600 := hHT21.c _ _
      have w1211 : Xi U35 904 103 = Xi T21 904 103 := (show Xi U35 904 103 = Xi U33 904 103 from by rw [eU35]; exact Xi_ne (by omega)).trans ( (show Xi U33 904 103 = Xi U32 904 103 from by rw [eU33]; exact Xi_ne (by omega)).trans ( (show Xi U32 904 103 = Xi U31 904 103 from by rw [eU32]; exact Xi_ne (by omega)).trans ((show Xi U31 904 103 = Xi T21 904 103 from by rw [eU31]; exact Xi_ne (by omega)))))
      have w1212 : -1 ≤ Xi T21 904 103 ∧ Xi T21 904 103 ≤ 2600 := hHT21.c _ _
      have w1213 : Xi U35 904 65 = Xi T21 904 65 := (show Xi U35 904 65 = Xi U33 904 65 from by rw [eU35]; exact Xi_ne (by omega)).trans ( (show Xi U33 904 65 = Xi U32 904 65 from by rw [eU33]; exact Xi_ne (by omega)).trans ( (show Xi U32 904 65 = Xi U31 904 65 from by rw [eU32]; exact Xi_ne (by omega)).trans ((show Xi U31 904 65 = Xi T21 904 65 from by rw [eU31]; exact Xi_ne (by omega)))))
      have w1215 : Xi U35 904 69 = Xi T21 904 69 := (show Xi U35 904 69 = Xi U33 904 69 from by rw [eU35]; exact Xi_ne (by omega)).trans ( (show Xi U33 904 69 = Xi U32 904 69 from by rw [eU33]; exact Xi_ne (by omega)).trans ( (show Xi U32 904 69 = Xi U31 904 69 from by rw [eU32]; exact Xi_ne (by omega)).trans ((show Xi U31 904 69 = Xi T21 904 69 from by rw [eU31]; exact Xi_ne (by omega)))))
      have w1217 : Xi U35 904 70 = Xi U31 904 70 := (show Xi U35 904 70 = Xi U33 904 70 from by rw [eU35]; exact Xi_ne (by omega)).trans ( (show Xi U33 904 70 = Xi U32 904 70 from by rw [eU33]; exact Xi_ne (by omega)).trans ((show Xi U32 904 70 = Xi U31 904 70 from by rw [eU32]; exact Xi_ne (by omega))))
      have w1218 : 0 ≤ Xi U31 904 70 ∧ Xi U31 904 70 ≤ 20 := hHU31.c _ _
      have w1219 : Xi U35 904 71 = Xi T21 904 71 := (show Xi U35 904 71 = Xi U33 904 71 from by rw [eU35]; exact Xi_ne (by omega)).trans ( (show Xi U33 904 71 = Xi U32 904 71 from by rw [eU33]; exact Xi_ne (by omega)).trans ( (show Xi U32 904 71 = Xi U31 904 71 from by rw [eU32]; exact Xi_ne (by omega)).trans ((show Xi U31 904 71 = Xi T21 904 71 from by rw [eU31]; exact Xi_ne (by omega)))))
      have w1220 : 0 ≤ Xi T21 904 71 ∧ Xi T21 904 71 ≤ 2600 := hHT21.c _ _
      have w1221 : Xi U35 904 72 = Xi T21 904 72 := (show Xi U35 904 72 = Xi U33 904 72 from by rw [eU35]; exact Xi_ne (by omega)).trans ( (show Xi U33 904 72 = Xi U32 904 72 from by rw [eU33]; exact Xi_ne (by omega)).trans ( (show Xi U32 904 72 = Xi U31 904 72 from by rw [eU32]; exact Xi_ne (by omega)).trans ((show Xi U31 904 72 = Xi T21 904 72 from by rw [eU31]; exact Xi_ne (by omega)))))
      have w1222 : 0 ≤ Xi T21 904 72 ∧ Xi T21 904 72 ≤ 2600 := hHT21.c _ _
      have w1223 : Xi U35 904 73 = Xi T21 904 73 := (show Xi U35 904 73 = Xi U33 904 73 from by rw [eU35]; exact Xi_ne (by omega)).trans ( (show Xi U33 904 73 = Xi U32 904 73 from by rw [eU33]; exact Xi_ne (by omega)).trans ( (show Xi U32 904 73 = Xi U31 904 73 from by rw [eU32]; exact Xi_ne (by omega)).trans ((show Xi U31 904 73 = Xi T21 904 73 from by rw [eU31]; exact Xi_ne (by omega)))))
      have w1224 : 0 ≤ Xi T21 904 73 ∧ Xi T21 904 73 ≤ 5 := hHT21.c _ _
      have w1225 : Xi U35 904 74 = Xi T21 904 74 := (show Xi U35 904 74 = Xi U33 904 74 from by rw [eU35]; exact Xi_ne (by omega)).trans ( (show Xi U33 904 74 = Xi U32 904 74 from by rw [eU33]; exact Xi_ne (by omega)).trans ( (show Xi U32 904 74 = Xi U31 904 74 from by rw [eU32]; exact Xi_ne (by omega)).trans ((show Xi U31 904 74 = Xi T21 904 74 from by rw [eU31]; exact Xi_ne (by omega)))))
      have w1226 : 0 ≤ Xi T21 904 74 ∧ Xi T21 904 74 ≤ 2600 := hHT21.c _ _
      have w1227 : Xi U35 904 78 = Xi T21 904 78 := (show Xi U35 904 78 = Xi U33 904 78 from by rw [eU35]; exact Xi_ne (by omega)).trans ( (show Xi U33 904 78 = Xi U32 904 78 from by rw [eU33]; exact Xi_ne (by omega)).trans ( (show Xi U32 904 78 = Xi U31 904 78 from by rw [eU32]; exact Xi_ne (by omega)).trans ((show Xi U31 904 78 = Xi T21 904 78 from by rw [eU31]; exact Xi_ne (by omega)))))
      have w1228 : -2 ≤ Xi T21 904 78 ∧ Xi T21 904 78 ≤ 5010 := hHT21.c _ _
      have w1229 : 0 ≤ Xi U35 904 8 ∧ Xi U35 904 8 ≤ 5010 := hHU35.c _ _
      have w1230 : Xi U35 904 81 = Xi U32 904 81 := (show Xi U35 904 81 = Xi U33 904 81 from by rw [eU35]; exact Xi_ne (by omega)).trans ((show Xi U33 904 81 = Xi U32 904 81 from by rw [eU33]; exact Xi_ne (by omega)))
      have w1231 : 0 ≤ Xi U32 904 81 ∧ Xi U32 904 81 ≤ 5010 := hHU32.c _ _
      have w1232 : Xi U35 904 93 = Xi T21 904 93 := (show Xi U35 904 93 = Xi U33 904 93 from by rw [eU35]; exact Xi_ne (by omega)).trans ( (show Xi U33 904 93 = Xi U32 904 93 from by rw [eU33]; exact Xi_ne (by omega)).trans ( (show Xi U32 904 93 = Xi U31 904 93 from by rw [eU32]; exact Xi_ne (by omega)).trans ((show Xi U31 904 93 = Xi T21 904 93 from by rw [eU31]; exact Xi_ne (by omega)))))
      have w1234 : Xi U35 904 94 = Xi T21 904 94 := (show Xi U35 904 94 = Xi U33 904 94 from by rw [eU35]; exact Xi_ne (by omega)).trans ( (show Xi U33 904 94 = Xi U32 904 94 from by rw [eU33]; exact Xi_ne (by omega)).trans ( (show Xi U32 904 94 = Xi U31 904 94 from by rw [eU32]; exact Xi_ne (by omega)).trans ((show Xi U31 904 94 = Xi T21 904 94 from by rw [eU31]; exact Xi_ne (by omega)))))
      have w1236 : Xi U35 904 98 = Xi T21 904 98 := (show Xi U35 904 98 = Xi U33 904 98 from by rw [eU35]; exact Xi_ne (by omega)).trans ( (show Xi U33 904 98 = Xi U32 904 98 from by rw [eU33]; exact Xi_ne (by omega)).trans ( (show Xi U32 904 98 = Xi U31 904 98 from by rw [eU32]; exact Xi_ne (by omega)).trans ((show Xi U31 904 98 = Xi T21 904 98 from by rw [eU31]; exact Xi_ne (by omega)))))
      exact ⟨hHU35, hFU35, rfl, (by omega), (by omega), (by first | assumption | exact (RNV_FR (FR_e eU35) rfl (RNV_FR (FR_e eU33) rfl (RNV_FR (FR_e eU32) rfl (RNV_FR (FR_e eU31) rfl (by assumption : RNV T21 _)))))), (by first | exact Q353 | (exact fun q => by unfold SNQ; refine ⟨fun q1 => ⟨by omega, by rw [(hFU35.cx 907 rfl _).1, show Xi U35 904 81 = Xi S 904 8 by omega]; exact s5⟩, by omega, by omega, by omega, fun q9 => absurd q9 (by omega), by omega, by omega, by omega, by omega, by omega⟩)), (by first | exact T353 | exact fun q a b => absurd b (by omega)), (by first | exact P353 | exact fun q a b => absurd b (by omega)), (by omega), (by omega), (by first | exact fun q _ => d353 q | exact fun q a => absurd (by omega) a), (by omega), (by omega), (by first | assumption | exact (PF_FR (FR_e eU35) rfl (PF_FR (FR_e eU33) rfl (PF_FR (FR_e eU32) rfl (PF_FR (FR_e eU31) rfl (by assumption : PF T21)))))), (by first | assumption | exact (BDA_FR (FR_e eU35) rfl (BDA_FR (FR_e eU33) rfl (BDA_FR (FR_e eU32) rfl (BDA_FR (FR_e eU31) rfl (by assumption : BDA T21))))))⟩
set_option maxRecDepth 100000 in
set_option maxHeartbeats 8000000 in
theorem t_mo_sentence__3 {S : sS} (hH : HI S) (n : Nat) (hT : TK S n) (hx : Xi S 904 8 ≤ n) (hk : Xi S 907 (Xi S 904 8).toNat ≠ 1) (hPF : PF S) (hBDA : BDA S) (d : Nat) : Mt lay0 (d + 10) m_mo_sentence [.ref 904] S (Q_mo_sentence__3 S n) := by
  refine Mt_R rfl rfl ?_
  have C350 := c350_mo_sentence__3 hH n hT hx hk hPF hBDA d 
  have C168 := c168_mo_sentence__3 hH n hT hx hk hPF hBDA d 
  have C265 := c265_mo_sentence__3 hH n hT hx hk hPF hBDA d 
  have C346 := c346_mo_sentence__3 hH n hT hx hk hPF hBDA d 
  have C285 := c285_mo_sentence__3 hH n hT hx hk hPF hBDA d 
  have C35 := c35_mo_sentence__3 hH n hT hx hk hPF hBDA d 
  have hF : FR md_mo_sentence__3 S S := FR.rf
  have w1 : 0 ≤ Xi S 904 65 ∧ Xi S 904 65 ≤ 1 := hH.c _ _
  have w2 : 0 ≤ Xi S 904 69 ∧ Xi S 904 69 ≤ 2600 := hH.c _ _
  have w3 : 0 ≤ Xi S 904 70 ∧ Xi S 904 70 ≤ 20 := hH.c _ _
  have w4 : -2 ≤ Xi S 904 78 ∧ Xi S 904 78 ≤ 5010 := hH.c _ _
  have w5 : 0 ≤ Xi S 904 8 ∧ Xi S 904 8 ≤ 5010 := hH.c _ _
  have w6 : 0 ≤ Xi S 904 93 ∧ Xi S 904 93 ≤ 1700 := hH.c _ _
  have w7 : 0 ≤ Xi S 904 94 ∧ Xi S 904 94 ≤ 1700 := hH.c _ _
  have w8 : 0 ≤ Xi S 904 98 ∧ Xi S 904 98 ≤ 1700 := hH.c _ _
  have hn5 := hT.1
  have h8 : 0 ≤ Xi S 904 8 ∧ Xi S 904 8 ≤ 5010 := hH.c _ _
  refine l_aload_n rfl rfl ?_
  refine l_iconst rfl ?_
  refine l_pfz rfl rfl rfl rfl (by omega) ?_
  obtain ⟨U36, eU36⟩ : ∃ T : sS, T = uI S 904 65 (Int32.ofInt 0) := ⟨_, rfl⟩
  rw [← eU36]
  have hHU36 : HI U36 := by rw [eU36]; exact HI_w hH (show 0 ≤ 0 by omega) (show 0 ≤ 1 by omega)
  have hFU36 : FR md_mo_sentence__3 S U36 := by rw [eU36]; exact FR.wI hF (mdf_i (r := (904, 905, 65, 66)) (List.mem_of_getElem? (i := 1) rfl) (inR_i (by omega) (by omega) (by omega) (by omega)))
  have w1238 : Xi U36 904 65 = 0 := by rw [eU36]; exact Xi_same (by unfold rg; omega)
  refine l_aload_n rfl rfl ?_
  refine l_iconst rfl ?_
  refine l_pfi rfl rfl rfl rfl ?_
  obtain ⟨U37, eU37⟩ : ∃ T : sS, T = uI U36 904 69 (Int32.ofInt 0) := ⟨_, rfl⟩
  rw [← eU37]
  have hHU37 : HI U37 := by rw [eU37]; exact HI_w hHU36 (show 0 ≤ 0 by omega) (show 0 ≤ 2600 by omega)
  have hFU37 : FR md_mo_sentence__3 S U37 := by rw [eU37]; exact FR.wI hFU36 (mdf_i (r := (904, 905, 69, 70)) (List.mem_of_getElem? (i := 3) rfl) (inR_i (by omega) (by omega) (by omega) (by omega)))
  have w1239 : Xi U37 904 69 = 0 := by rw [eU37]; exact Xi_same (by unfold rg; omega)
  refine l_aload_n rfl rfl ?_
  refine l_iconst rfl ?_
  refine l_pfi rfl rfl rfl rfl ?_
  obtain ⟨U38, eU38⟩ : ∃ T : sS, T = uI U37 904 93 (Int32.ofInt 0) := ⟨_, rfl⟩
  rw [← eU38]
  have hHU38 : HI U38 := by rw [eU38]; exact HI_w hHU37 (show 0 ≤ 0 by omega) (show 0 ≤ 1700 by omega)
  have hFU38 : FR md_mo_sentence__3 S U38 := by rw [eU38]; exact FR.wI hFU37 (mdf_i (r := (904, 905, 93, 94)) (List.mem_of_getElem? (i := 16) rfl) (inR_i (by omega) (by omega) (by omega) (by omega)))
  have w1240 : Xi U38 904 93 = 0 := by rw [eU38]; exact Xi_same (by unfold rg; omega)
  refine l_aload_n rfl rfl ?_
  refine l_iconst rfl ?_
  refine l_pfi rfl rfl rfl rfl ?_
  obtain ⟨U39, eU39⟩ : ∃ T : sS, T = uI U38 904 94 (Int32.ofInt 0) := ⟨_, rfl⟩
  rw [← eU39]
  have hHU39 : HI U39 := by rw [eU39]; exact HI_w hHU38 (show 0 ≤ 0 by omega) (show 0 ≤ 1700 by omega)
  have hFU39 : FR md_mo_sentence__3 S U39 := by rw [eU39]; exact FR.wI hFU38 (mdf_i (r := (904, 905, 94, 95)) (List.mem_of_getElem? (i := 17) rfl) (inR_i (by omega) (by omega) (by omega) (by omega)))
  have w1241 : Xi U39 904 94 = 0 := by rw [eU39]; exact Xi_same (by unfold rg; omega)
  refine l_aload_n rfl rfl ?_
  refine l_iconst rfl ?_
  refine l_pfi rfl rfl rfl rfl ?_
  obtain ⟨U40, eU40⟩ : ∃ T : sS, T = uI U39 904 98 (Int32.ofInt 0) := ⟨_, rfl⟩
  rw [← eU40]
  have hHU40 : HI U40 := by rw [eU40]; exact HI_w hHU39 (show 0 ≤ 0 by omega) (show 0 ≤ 1700 by omega)
  have hFU40 : FR md_mo_sentence__3 S U40 := by rw [eU40]; exact FR.wI hFU39 (mdf_i (r := (904, 905, 98, 99)) (List.mem_of_getElem? (i := 18) rfl) (inR_i (by omega) (by omega) (by omega) (by omega)))
  have w1242 : Xi U40 904 98 = 0 := by rw [eU40]; exact Xi_same (by unfold rg; omega)
  refine l_aload_n rfl rfl ?_
  refine l_iconst rfl ?_
  refine l_pfz rfl rfl rfl rfl (by omega) ?_
  obtain ⟨U41, eU41⟩ : ∃ T : sS, T = uI U40 904 75 (Int32.ofInt 0) := ⟨_, rfl⟩
  rw [← eU41]
  have hHU41 : HI U41 := by rw [eU41]; exact HI_w hHU40 (show 0 ≤ 0 by omega) (show 0 ≤ 1 by omega)
  have hFU41 : FR md_mo_sentence__3 S U41 := by rw [eU41]; exact FR.wI hFU40 (mdf_i (r := (904, 905, 75, 76)) (List.mem_of_getElem? (i := 9) rfl) (inR_i (by omega) (by omega) (by omega) (by omega)))
  have w1243 : Xi U41 904 75 = 0 := by rw [eU41]; exact Xi_same (by unfold rg; omega)
  refine l_aload_n rfl rfl ?_
  refine l_iconst rfl ?_
  refine l_pfz rfl rfl rfl rfl (by omega) ?_
  obtain ⟨U42, eU42⟩ : ∃ T : sS, T = uI U41 904 76 (Int32.ofInt 0) := ⟨_, rfl⟩
  rw [← eU42]
  have hHU42 : HI U42 := by rw [eU42]; exact HI_w hHU41 (show 0 ≤ 0 by omega) (show 0 ≤ 1 by omega)
  have hFU42 : FR md_mo_sentence__3 S U42 := by rw [eU42]; exact FR.wI hFU41 (mdf_i (r := (904, 905, 76, 77)) (List.mem_of_getElem? (i := 10) rfl) (inR_i (by omega) (by omega) (by omega) (by omega)))
  have w1244 : Xi U42 904 76 = 0 := by rw [eU42]; exact Xi_same (by unfold rg; omega)
  have w1245 : Xi U42 904 102 = Xi S 904 102 := (show Xi U42 904 102 = Xi U41 904 102 from by rw [eU42]; exact Xi_ne (by omega)).trans ( (show Xi U41 904 102 = Xi U40 904 102 from by rw [eU41]; exact Xi_ne (by omega)).trans ( (show Xi U40 904 102 = Xi U39 904 102 from by rw [eU40]; exact Xi_ne (by omega)).trans ( (show Xi U39 904 102 = Xi U38 904 102 from by rw [eU39]; exact Xi_ne (by omega)).trans ( (show Xi U38 904 102 = Xi U37 904 102 from by rw [eU38]; exact Xi_ne (by omega)).trans ( (show Xi U37 904 102 = Xi U36 904 102 from by rw [eU37]; exact Xi_ne (by omega)).trans ((show Xi U36 904 102 = Xi S 904 102 from by rw [eU36]; exact Xi_ne (by omega))))))))
  have w1246 : 0 ≤ Xi S 904 102 ∧ Xi S 904 102 ≤ 2600 := hH.c _ _
  have w1247 : Xi U42 904 103 = Xi S 904 103 := (show Xi U42 904 103 = Xi U41 904 103 from by rw [eU42]; exact Xi_ne (by omega)).trans ( (show Xi U41 904 103 = Xi U40 904 103 from by rw [eU41]; exact Xi_ne (by omega)).trans ( (show Xi U40 904 103 = Xi U39 904 103 from by rw [eU40]; exact Xi_ne (by omega)).trans ( (show Xi U39 904 103 = Xi U38 904 103 from by rw [eU39]; exact Xi_ne (by omega)).trans ( (show Xi U38 904 103 = Xi U37 904 103 from by rw [eU38]; exact Xi_ne (by omega)).trans ( (show Xi U37 904 103 = Xi U36 904 103 from by rw [eU37]; exact Xi_ne (by omega)).trans ((show Xi U36 904 103 = Xi S 904 103 from by rw [eU36]; exact Xi_ne (by omega))))))))
  have w1248 : -1 ≤ Xi S 904 103 ∧ Xi S 904 103 ≤ 2600 := hH.c _ _
  have w1249 : Xi U42 904 65 = Xi U36 904 65 := (show Xi U42 904 65 = Xi U41 904 65 from by rw [eU42]; exact Xi_ne (by omega)).trans ( (show Xi U41 904 65 = Xi U40 904 65 from by rw [eU41]; exact Xi_ne (by omega)).trans ( (show Xi U40 904 65 = Xi U39 904 65 from by rw [eU40]; exact Xi_ne (by omega)).trans ( (show Xi U39 904 65 = Xi U38 904 65 from by rw [eU39]; exact Xi_ne (by omega)).trans ( (show Xi U38 904 65 = Xi U37 904 65 from by rw [eU38]; exact Xi_ne (by omega)).trans ((show Xi U37 904 65 = Xi U36 904 65 from by rw [eU37]; exact Xi_ne (by omega)))))))
  have w1250 : 0 ≤ Xi U36 904 65 ∧ Xi U36 904 65 ≤ 1 := hHU36.c _ _
  have w1251 : Xi U42 904 69 = Xi U37 904 69 := (show Xi U42 904 69 = Xi U41 904 69 from by rw [eU42]; exact Xi_ne (by omega)).trans ( (show Xi U41 904 69 = Xi U40 904 69 from by rw [eU41]; exact Xi_ne (by omega)).trans ( (show Xi U40 904 69 = Xi U39 904 69 from by rw [eU40]; exact Xi_ne (by omega)).trans ( (show Xi U39 904 69 = Xi U38 904 69 from by rw [eU39]; exact Xi_ne (by omega)).trans ((show Xi U38 904 69 = Xi U37 904 69 from by rw [eU38]; exact Xi_ne (by omega))))))
  have w1252 : 0 ≤ Xi U37 904 69 ∧ Xi U37 904 69 ≤ 2600 := hHU37.c _ _
  have w1253 : Xi U42 904 70 = Xi S 904 70 := (show Xi U42 904 70 = Xi U41 904 70 from by rw [eU42]; exact Xi_ne (by omega)).trans ( (show Xi U41 904 70 = Xi U40 904 70 from by rw [eU41]; exact Xi_ne (by omega)).trans ( (show Xi U40 904 70 = Xi U39 904 70 from by rw [eU40]; exact Xi_ne (by omega)).trans ( (show Xi U39 904 70 = Xi U38 904 70 from by rw [eU39]; exact Xi_ne (by omega)).trans ( (show Xi U38 904 70 = Xi U37 904 70 from by rw [eU38]; exact Xi_ne (by omega)).trans ( (show Xi U37 904 70 = Xi U36 904 70 from by rw [eU37]; exact Xi_ne (by omega)).trans ((show Xi U36 904 70 = Xi S 904 70 from by rw [eU36]; exact Xi_ne (by omega))))))))
  have w1255 : Xi U42 904 71 = Xi S 904 71 := (show Xi U42 904 71 = Xi U41 904 71 from by rw [eU42]; exact Xi_ne (by omega)).trans ( (show Xi U41 904 71 = Xi U40 904 71 from by rw [eU41]; exact Xi_ne (by omega)).trans ( (show Xi U40 904 71 = Xi U39 904 71 from by rw [eU40]; exact Xi_ne (by omega)).trans ( (show Xi U39 904 71 = Xi U38 904 71 from by rw [eU39]; exact Xi_ne (by omega)).trans ( (show Xi U38 904 71 = Xi U37 904 71 from by rw [eU38]; exact Xi_ne (by omega)).trans ( (show Xi U37 904 71 = Xi U36 904 71 from by rw [eU37]; exact Xi_ne (by omega)).trans ((show Xi U36 904 71 = Xi S 904 71 from by rw [eU36]; exact Xi_ne (by omega))))))))
  have w1256 : 0 ≤ Xi S 904 71 ∧ Xi S 904 71 ≤ 2600 := hH.c _ _
  have w1257 : Xi U42 904 72 = Xi S 904 72 := (show Xi U42 904 72 = Xi U41 904 72 from by rw [eU42]; exact Xi_ne (by omega)).trans ( (show Xi U41 904 72 = Xi U40 904 72 from by rw [eU41]; exact Xi_ne (by omega)).trans ( (show Xi U40 904 72 = Xi U39 904 72 from by rw [eU40]; exact Xi_ne (by omega)).trans ( (show Xi U39 904 72 = Xi U38 904 72 from by rw [eU39]; exact Xi_ne (by omega)).trans ( (show Xi U38 904 72 = Xi U37 904 72 from by rw [eU38]; exact Xi_ne (by omega)).trans ( (show Xi U37 904 72 = Xi U36 904 72 from by rw [eU37]; exact Xi_ne (by omega)).trans ((show Xi U36 904 72 = Xi S 904 72 from by rw [eU36]; exact Xi_ne (by omega))))))))
  have w1258 : 0 ≤ Xi S 904 72 ∧ Xi S 904 72 ≤ 2600 := hH.c _ _
  have w1259 : Xi U42 904 73 = Xi S 904 73 := (show Xi U42 904 73 = Xi U41 904 73 from by rw [eU42]; exact Xi_ne (by omega)).trans ( (show Xi U41 904 73 = Xi U40 904 73 from by rw [eU41]; exact Xi_ne (by omega)).trans ( (show Xi U40 904 73 = Xi U39 904 73 from by rw [eU40]; exact Xi_ne (by omega)).trans ( (show Xi U39 904 73 = Xi U38 904 73 from by rw [eU39]; exact Xi_ne (by omega)).trans ( (show Xi U38 904 73 = Xi U37 904 73 from by rw [eU38]; exact Xi_ne (by omega)).trans ( (show Xi U37 904 73 = Xi U36 904 73 from by rw [eU37]; exact Xi_ne (by omega)).trans ((show Xi U36 904 73 = Xi S 904 73 from by rw [eU36]; exact Xi_ne (by omega))))))))
  have w1260 : 0 ≤ Xi S 904 73 ∧ Xi S 904 73 ≤ 5 := hH.c _ _
  have w1261 : Xi U42 904 74 = Xi S 904 74 := (show Xi U42 904 74 = Xi U41 904 74 from by rw [eU42]; exact Xi_ne (by omega)).trans ( (show Xi U41 904 74 = Xi U40 904 74 from by rw [eU41]; exact Xi_ne (by omega)).trans ( (show Xi U40 904 74 = Xi U39 904 74 from by rw [eU40]; exact Xi_ne (by omega)).trans ( (show Xi U39 904 74 = Xi U38 904 74 from by rw [eU39]; exact Xi_ne (by omega)).trans ( (show Xi U38 904 74 = Xi U37 904 74 from by rw [eU38]; exact Xi_ne (by omega)).trans ( (show Xi U37 904 74 = Xi U36 904 74 from by rw [eU37]; exact Xi_ne (by omega)).trans ((show Xi U36 904 74 = Xi S 904 74 from by rw [eU36]; exact Xi_ne (by omega))))))))
  have w1262 : 0 ≤ Xi S 904 74 ∧ Xi S 904 74 ≤ 2600 := hH.c _ _
  have w1263 : Xi U42 904 78 = Xi S 904 78 := (show Xi U42 904 78 = Xi U41 904 78 from by rw [eU42]; exact Xi_ne (by omega)).trans ( (show Xi U41 904 78 = Xi U40 904 78 from by rw [eU41]; exact Xi_ne (by omega)).trans ( (show Xi U40 904 78 = Xi U39 904 78 from by rw [eU40]; exact Xi_ne (by omega)).trans ( (show Xi U39 904 78 = Xi U38 904 78 from by rw [eU39]; exact Xi_ne (by omega)).trans ( (show Xi U38 904 78 = Xi U37 904 78 from by rw [eU38]; exact Xi_ne (by omega)).trans ( (show Xi U37 904 78 = Xi U36 904 78 from by rw [eU37]; exact Xi_ne (by omega)).trans ((show Xi U36 904 78 = Xi S 904 78 from by rw [eU36]; exact Xi_ne (by omega))))))))
  have w1265 : Xi U42 904 8 = Xi S 904 8 := (show Xi U42 904 8 = Xi U41 904 8 from by rw [eU42]; exact Xi_ne (by omega)).trans ( (show Xi U41 904 8 = Xi U40 904 8 from by rw [eU41]; exact Xi_ne (by omega)).trans ( (show Xi U40 904 8 = Xi U39 904 8 from by rw [eU40]; exact Xi_ne (by omega)).trans ( (show Xi U39 904 8 = Xi U38 904 8 from by rw [eU39]; exact Xi_ne (by omega)).trans ( (show Xi U38 904 8 = Xi U37 904 8 from by rw [eU38]; exact Xi_ne (by omega)).trans ( (show Xi U37 904 8 = Xi U36 904 8 from by rw [eU37]; exact Xi_ne (by omega)).trans ((show Xi U36 904 8 = Xi S 904 8 from by rw [eU36]; exact Xi_ne (by omega))))))))
  have w1267 : Xi U42 904 81 = Xi S 904 81 := (show Xi U42 904 81 = Xi U41 904 81 from by rw [eU42]; exact Xi_ne (by omega)).trans ( (show Xi U41 904 81 = Xi U40 904 81 from by rw [eU41]; exact Xi_ne (by omega)).trans ( (show Xi U40 904 81 = Xi U39 904 81 from by rw [eU40]; exact Xi_ne (by omega)).trans ( (show Xi U39 904 81 = Xi U38 904 81 from by rw [eU39]; exact Xi_ne (by omega)).trans ( (show Xi U38 904 81 = Xi U37 904 81 from by rw [eU38]; exact Xi_ne (by omega)).trans ( (show Xi U37 904 81 = Xi U36 904 81 from by rw [eU37]; exact Xi_ne (by omega)).trans ((show Xi U36 904 81 = Xi S 904 81 from by rw [eU36]; exact Xi_ne (by omega))))))))
  have w1268 : 0 ≤ Xi S 904 81 ∧ Xi S 904 81 ≤ 5010 := hH.c _ _
  have w1269 : Xi U42 904 93 = Xi U38 904 93 := (show Xi U42 904 93 = Xi U41 904 93 from by rw [eU42]; exact Xi_ne (by omega)).trans ( (show Xi U41 904 93 = Xi U40 904 93 from by rw [eU41]; exact Xi_ne (by omega)).trans ( (show Xi U40 904 93 = Xi U39 904 93 from by rw [eU40]; exact Xi_ne (by omega)).trans ((show Xi U39 904 93 = Xi U38 904 93 from by rw [eU39]; exact Xi_ne (by omega)))))
  have w1270 : 0 ≤ Xi U38 904 93 ∧ Xi U38 904 93 ≤ 1700 := hHU38.c _ _
  have w1271 : Xi U42 904 94 = Xi U39 904 94 := (show Xi U42 904 94 = Xi U41 904 94 from by rw [eU42]; exact Xi_ne (by omega)).trans ( (show Xi U41 904 94 = Xi U40 904 94 from by rw [eU41]; exact Xi_ne (by omega)).trans ((show Xi U40 904 94 = Xi U39 904 94 from by rw [eU40]; exact Xi_ne (by omega))))
  have w1272 : 0 ≤ Xi U39 904 94 ∧ Xi U39 904 94 ≤ 1700 := hHU39.c _ _
  have w1273 : Xi U42 904 98 = Xi U40 904 98 := (show Xi U42 904 98 = Xi U41 904 98 from by rw [eU42]; exact Xi_ne (by omega)).trans ((show Xi U41 904 98 = Xi U40 904 98 from by rw [eU41]; exact Xi_ne (by omega)))
  have w1274 : 0 ≤ Xi U40 904 98 ∧ Xi U40 904 98 ≤ 1700 := hHU40.c _ _
  exact Rl_weak (C35 U42 hHU42 hFU42  (at_0 hHU42 (by omega) (by omega) (by omega)) (fun r hr => absurd hr (by omega)) (by omega) (by omega) (by omega) (by omega) (by omega) (by omega) (by rw [(hFU42.cx 907 rfl _).1, show Xi U42 904 8 = Xi S 904 8 by omega]; exact hk) (by first | assumption | exact (PF_FR (FR_e eU42) rfl (PF_FR (FR_e eU41) rfl (PF_FR (FR_e eU40) rfl (PF_FR (FR_e eU39) rfl (PF_FR (FR_e eU38) rfl (PF_FR (FR_e eU37) rfl (PF_FR (FR_e eU36) rfl (by assumption : PF S))))))))) (by first | assumption | exact (BDA_FR (FR_e eU42) rfl (BDA_FR (FR_e eU41) rfl (BDA_FR (FR_e eU40) rfl (BDA_FR (FR_e eU39) rfl (BDA_FR (FR_e eU38) rfl (BDA_FR (FR_e eU37) rfl (BDA_FR (FR_e eU36) rfl (by assumption : BDA S)))))))))) (And.intro rfl (True.intro))
