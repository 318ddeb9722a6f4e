/-! SAFETY of methods: printed by wip/safe (vc.py, decl.py) -/
set_option maxRecDepth 100000 in
set_option maxHeartbeats 1000000 in
theorem c382_mo_does {S : sS} (hH : HI S) (n : Nat) (first : Int) (hfirst : 0 ≤ first ∧ first ≤ 5001) (hT : TK S n) (hv : RNV S n) (hK : TXK S n) (hI : TIX S) (hq : SNQ S n) (hk : DOK S) (h11 : Xi S 904 70 = 11 → -1 ≤ Xi S 904 78) (d : Nat) : (Xi S 904 70 = 18) → Rl lay0 (d + 7) m_mo_does 382 [(0, .ref 904)] [] S (Q_mo_does S n first) := by
  have C406 := c406_mo_does hH n first hfirst hT hv hK hI hq hk h11 d 
  have hF : FR md_mo_does S S := FR.rf
  have w1 : 0 ≤ Xi S 904 117 ∧ Xi S 904 117 ≤ 480 := hH.c _ _
  have w2 : 0 ≤ Xi S 904 15 ∧ Xi S 904 15 ≤ 300 := hH.c _ _
  have w3 : 0 ≤ Xi S 904 16 ∧ Xi S 904 16 ≤ 16 := hH.c _ _
  have w4 : 0 ≤ Xi S 904 18 ∧ Xi S 904 18 ≤ 8 := hH.c _ _
  have w5 : 0 ≤ Xi S 904 19 ∧ Xi S 904 19 ≤ 24 := hH.c _ _
  have w6 : 0 ≤ Xi S 904 23 ∧ Xi S 904 23 ≤ 24 := hH.c _ _
  have w7 : 0 ≤ Xi S 904 30 ∧ Xi S 904 30 ≤ 64 := hH.c _ _
  have w8 : 0 ≤ Xi S 904 32 ∧ Xi S 904 32 ≤ 12 := hH.c _ _
  have w9 : 0 ≤ Xi S 904 41 ∧ Xi S 904 41 ≤ 6 := hH.c _ _
  have w10 : 0 ≤ Xi S 904 47 ∧ Xi S 904 47 ≤ 8 := hH.c _ _
  have w11 : 0 ≤ Xi S 904 49 ∧ Xi S 904 49 ≤ 12 := hH.c _ _
  have w12 : -1 ≤ Xi S 904 60 ∧ Xi S 904 60 ≤ 23 := hH.c _ _
  have w13 : 0 ≤ Xi S 904 69 ∧ Xi S 904 69 ≤ 2600 := hH.c _ _
  have w14 : 0 ≤ Xi S 904 70 ∧ Xi S 904 70 ≤ 20 := hH.c _ _
  have w15 : 0 ≤ Xi S 904 71 ∧ Xi S 904 71 ≤ 2600 := hH.c _ _
  have w16 : 0 ≤ Xi S 904 72 ∧ Xi S 904 72 ≤ 2600 := hH.c _ _
  have w17 : -2 ≤ Xi S 904 78 ∧ Xi S 904 78 ≤ 5010 := hH.c _ _
  have hX : TXM S := hI.1
  have hW : WYM S := hI.2.1
  have hM : LXM S := hI.2.2.1
  have hLC : LCN S := hI.2.2.2.1
  have hB : ABV S := hI.2.2.2.2.1
  have hC : DCM S := hI.2.2.2.2.2.1
  have hV : VTM S := hI.2.2.2.2.2.2.1
  have hVC : VCN S := hI.2.2.2.2.2.2.2.1
  have hWD : WYD S := hI.2.2.2.2.2.2.2.2.1
  have hRD : RDT S := hI.2.2.2.2.2.2.2.2.2.1
  have hAK : AKR S := hI.2.2.2.2.2.2.2.2.2.2.1
  have hd6 : Xi S 904 60 < Xi S 904 19 := hI.2.2.2.2.2.2.2.2.2.2.2.1
  have h16 : 2 ≤ Xi S 904 16 := hI.2.2.2.2.2.2.2.2.2.2.2.2
  have h32 : 1 ≤ Xi S 904 32 := hAK.2.2.2.2.2.2.2
  have hn5 := hT.1
  have hc69 : 0 ≤ Xi S 904 69 ∧ Xi S 904 69 ≤ 2600 := hH.c _ _
  have hc70 : 0 ≤ Xi S 904 70 ∧ Xi S 904 70 ≤ 20 := hH.c _ _
  have hc16 : 0 ≤ Xi S 904 16 ∧ Xi S 904 16 ≤ 16 := hH.c _ _
  have hc18 : 0 ≤ Xi S 904 18 ∧ Xi S 904 18 ≤ 8 := hH.c _ _
  have hc19 : 0 ≤ Xi S 904 19 ∧ Xi S 904 19 ≤ 24 := hH.c _ _
  have hc23 : 0 ≤ Xi S 904 23 ∧ Xi S 904 23 ≤ 24 := hH.c _ _
  have hc30 : 0 ≤ Xi S 904 30 ∧ Xi S 904 30 ≤ 64 := hH.c _ _
  have hc32 : 0 ≤ Xi S 904 32 ∧ Xi S 904 32 ≤ 12 := hH.c _ _
  have hc41 : 0 ≤ Xi S 904 41 ∧ Xi S 904 41 ≤ 6 := hH.c _ _
  have hc47 : 0 ≤ Xi S 904 47 ∧ Xi S 904 47 ≤ 8 := hH.c _ _
  have hc49 : 0 ≤ Xi S 904 49 ∧ Xi S 904 49 ≤ 12 := hH.c _ _
  have hc15 : 0 ≤ Xi S 904 15 ∧ Xi S 904 15 ≤ 300 := hH.c _ _
  have hc117 : 0 ≤ Xi S 904 117 ∧ Xi S 904 117 ≤ 480 := hH.c _ _
  have hc125 : 0 ≤ Xi S 904 125 ∧ Xi S 904 125 ≤ 192 := hH.c _ _
  have hc130 : 0 ≤ Xi S 904 130 ∧ Xi S 904 130 ≤ 24 := hH.c _ _
  have hl9 := lcn_le hH hLC
  intro w668
  refine l_aload_n rfl rfl ?_
  have d382 := hk.2.2.2.2.2.2.2.2.2.2.2.2.2.1 (by omega)
  have s382 := hq.2.2.2.2.2.2.2.2.2 (by omega)
  have a382 := d382.2.1
  have n382 := d382.1
  refine l_aload_n rfl rfl ?_
  refine l_iconst rfl ?_
  refine l_iconst rfl ?_
  have w669 : 0 ≤ Xi S 904 117 ∧ Xi S 904 117 ≤ 480 := hH.c _ _
  have w670 : 0 ≤ Xi S 904 15 ∧ Xi S 904 15 ≤ 300 := hH.c _ _
  have w671 : 0 ≤ Xi S 904 16 ∧ Xi S 904 16 ≤ 16 := hH.c _ _
  have w672 : 0 ≤ Xi S 904 19 ∧ Xi S 904 19 ≤ 24 := hH.c _ _
  have w673 : 0 ≤ Xi S 904 23 ∧ Xi S 904 23 ≤ 24 := hH.c _ _
  have w674 : -1 ≤ Xi S 904 60 ∧ Xi S 904 60 ≤ 23 := hH.c _ _
  have w675 : 0 ≤ Xi S 904 69 ∧ Xi S 904 69 ≤ 2600 := hH.c _ _
  refine l_callV rfl rfl rfl (t_mo_meansRun__2 hH n 0 0 ⟨by omega, by omega⟩ ⟨by omega, by omega⟩ (by first | assumption | exact (TK_FR hF rfl (by assumption : TK S _))) (by first | assumption | exact (RNV_FR hF rfl (by assumption : RNV S _))) (by first | assumption | omega) (by first | assumption | exact (by assumption : LXM S)) _) ?_
  rintro _ _ ⟨rfl, z678, rfl, w678, w676, w677⟩
  show Rl _ _ _ _ _ [iv z678, .ref 904] _ _
  have x386 : z678 ≠ -1 → z678 < 16 := fun q => by have t := (by assumption : z678 ≠ -1 → z678 < cM S 0) q; rw [cM0] at t; omega
  have r386 : z678 = rnR S 0 0 := by assumption
  refine l_aload_n rfl rfl ?_
  refine l_gfi rfl rfl rfl rfl rfl ?_
  refine l_iconst rfl ?_
  refine l_iadd rfl ?_
  have w679 : 0 ≤ Xi S 904 117 ∧ Xi S 904 117 ≤ 480 := hH.c _ _
  have w680 : 0 ≤ Xi S 904 15 ∧ Xi S 904 15 ≤ 300 := hH.c _ _
  have w681 : 0 ≤ Xi S 904 16 ∧ Xi S 904 16 ≤ 16 := hH.c _ _
  have w682 : 0 ≤ Xi S 904 19 ∧ Xi S 904 19 ≤ 24 := hH.c _ _
  have w683 : 0 ≤ Xi S 904 23 ∧ Xi S 904 23 ≤ 24 := hH.c _ _
  have w684 : -1 ≤ Xi S 904 60 ∧ Xi S 904 60 ≤ 23 := hH.c _ _
  refine l_callV rfl rfl rfl (t_mo_addAdjective hH z678 ((Xi S 904 23) + 1) ⟨by omega, by omega⟩ ⟨by omega, by omega⟩ (by first | assumption | omega) _) ?_
  rintro _ T27 ⟨hHT27, w688, z687, rfl, w687, w685, w686, e395, k395⟩
  have hFT27 : FR md_mo_does S T27 := FR.tr hF w688 rfl
  show Rl _ _ _ _ _ [iv z687] _ _
  have g395 : GR T27 S := gr_m GR.rf (Int.le_of_eq ((by assumption : FR md_mo_addAdjective S T27).x 904 16 rfl).symm) (Int.le_of_eq ((by assumption : FR md_mo_addAdjective S T27).x 904 18 rfl).symm) (Int.le_of_eq ((by assumption : FR md_mo_addAdjective S T27).x 904 19 rfl).symm) (by omega) (Int.le_of_eq ((by assumption : FR md_mo_addAdjective S T27).x 904 30 rfl).symm) (Int.le_of_eq ((by assumption : FR md_mo_addAdjective S T27).x 904 32 rfl).symm) (Int.le_of_eq ((by assumption : FR md_mo_addAdjective S T27).x 904 41 rfl).symm) (Int.le_of_eq ((by assumption : FR md_mo_addAdjective S T27).x 904 47 rfl).symm) (Int.le_of_eq ((by assumption : FR md_mo_addAdjective S T27).x 904 49 rfl).symm) (fun i hi => ⟨(k395 i hi).2.1, ((by assumption : FR md_mo_addAdjective S T27).cx 923 rfl i).1, (k395 i hi).2.2⟩) (fun i _ => ((by assumption : FR md_mo_addAdjective S T27).cx 928 rfl i).1) (fun i _ => ((by assumption : FR md_mo_addAdjective S T27).cx 942 rfl i).1)
  have x395 : LXK T27 S (Xi S 904 15) := LXK_FR (by assumption : FR md_mo_addAdjective S T27) rfl
  have c395 : Xi T27 904 15 = Xi S 904 15 := (by assumption : FR md_mo_addAdjective S T27).x 904 15 rfl
  have o395 : Xi T27 922 (Xi S 904 23).toNat = Xi S 904 23 + 1 ∧ Xi T27 924 (Xi S 904 23).toNat = 0 := e395
  refine l_istore_n rfl rfl rfl ?_
  refine l_aload_n rfl rfl ?_
  refine l_iconst rfl ?_
  refine l_iload_n rfl rfl ?_
  refine l_iconst rfl ?_
  have w689 : Xi T27 904 117 = Xi S 904 117 := (show Xi T27 904 117 = Xi S 904 117 from w688.x _ _ rfl)
  have w690 : 0 ≤ Xi S 904 117 ∧ Xi S 904 117 ≤ 480 := hH.c _ _
  have w691 : Xi T27 904 15 = Xi S 904 15 := (show Xi T27 904 15 = Xi S 904 15 from w688.x _ _ rfl)
  have w692 : 0 ≤ Xi S 904 15 ∧ Xi S 904 15 ≤ 300 := hH.c _ _
  have w693 : Xi T27 904 16 = Xi S 904 16 := (show Xi T27 904 16 = Xi S 904 16 from w688.x _ _ rfl)
  have w694 : 0 ≤ Xi S 904 16 ∧ Xi S 904 16 ≤ 16 := hH.c _ _
  have w695 : Xi T27 904 19 = Xi S 904 19 := (show Xi T27 904 19 = Xi S 904 19 from w688.x _ _ rfl)
  have w696 : 0 ≤ Xi S 904 19 ∧ Xi S 904 19 ≤ 24 := hH.c _ _
  have w697 : 0 ≤ Xi T27 904 23 ∧ Xi T27 904 23 ≤ 24 := hHT27.c _ _
  have w698 : Xi T27 904 60 = Xi S 904 60 := (show Xi T27 904 60 = Xi S 904 60 from w688.x _ _ rfl)
  have w699 : -1 ≤ Xi S 904 60 ∧ Xi S 904 60 ≤ 23 := hH.c _ _
  have w700 : Xi T27 904 69 = Xi S 904 69 := (show Xi T27 904 69 = Xi S 904 69 from w688.x _ _ rfl)
  have w701 : 0 ≤ Xi S 904 69 ∧ Xi S 904 69 ≤ 2600 := hH.c _ _
  refine l_callV rfl rfl rfl (t_mo_tellRun hHT27 n 5 z687 1 ⟨by omega, by omega⟩ ⟨by omega, by omega⟩ ⟨by omega, by omega⟩ (by first | assumption | exact (TK_FR hFT27 rfl (by assumption : TK S _))) (by first | assumption | exact (RNV_FR hFT27 rfl (by assumption : RNV S _))) (by first | assumption | omega) (by first | (rw [(hFT27.cx 951 rfl _).1]; exact d382.2.2.1) | (rw [(hFT27.cx 951 rfl _).1]; exact d382.2.2.2) | (rw [(hFT27.cx 951 rfl _).1]; exact d426.2.1) | (rw [(hFT27.cx 951 rfl _).1]; have t := d300.2.2 v2 (by omega) (by omega); rw [show Xi S 904 71 = Xi S 904 71 by omega]; exact t)) (by first | omega | (have t := lcn_le hH L300; omega)) _) ?_
  rintro _ T28 ⟨hHT28, w704, rfl, w702, e403, k403⟩
  have hFT28 : FR md_mo_does S T28 := FR.tr hFT27 w704 rfl
  show Rl _ _ _ _ _ [] _ _
  have g403 : GR T28 S := GR_FR (by assumption : FR md_mo_tellRun T27 T28) rfl g395
  have x403 : LXK T28 S (Xi S 904 15) := x395.tr k403 (by omega)
  have f403 : Xi T28 904 23 = Xi S 904 23 + 1 := by have t : Xi T28 904 23 = Xi T27 904 23 := (by assumption : FR md_mo_tellRun T27 T28).x 904 23 rfl; omega
  have d403 : Xi T28 915 (Xi S 904 15).toNat < cM T28 (Xi T28 914 (Xi S 904 15).toNat) := by rw [← c395, e403.1, e403.2, cM5]; omega
  have M403 : LXM T28 := lxm_gr hM x403 g403 (by omega) (Or.inr ⟨by omega, d403⟩)
  have y403_16 : Xi T28 904 16 = Xi S 904 16 := ((show Xi T28 904 16 = Xi T27 904 16 from w704.x _ _ rfl).trans ((show Xi T27 904 16 = Xi S 904 16 from w688.x _ _ rfl)))
  have y403_18 : Xi T28 904 18 = Xi S 904 18 := ((show Xi T28 904 18 = Xi T27 904 18 from w704.x _ _ rfl).trans ((show Xi T27 904 18 = Xi S 904 18 from w688.x _ _ rfl)))
  have y403_19 : Xi T28 904 19 = Xi S 904 19 := ((show Xi T28 904 19 = Xi T27 904 19 from w704.x _ _ rfl).trans ((show Xi T27 904 19 = Xi S 904 19 from w688.x _ _ rfl)))
  have y403_30 : Xi T28 904 30 = Xi S 904 30 := ((show Xi T28 904 30 = Xi T27 904 30 from w704.x _ _ rfl).trans ((show Xi T27 904 30 = Xi S 904 30 from w688.x _ _ rfl)))
  have y403_32 : Xi T28 904 32 = Xi S 904 32 := ((show Xi T28 904 32 = Xi T27 904 32 from w704.x _ _ rfl).trans ((show Xi T27 904 32 = Xi S 904 32 from w688.x _ _ rfl)))
  have y403_41 : Xi T28 904 41 = Xi S 904 41 := ((show Xi T28 904 41 = Xi T27 904 41 from w704.x _ _ rfl).trans ((show Xi T27 904 41 = Xi S 904 41 from w688.x _ _ rfl)))
  have y403_47 : Xi T28 904 47 = Xi S 904 47 := ((show Xi T28 904 47 = Xi T27 904 47 from w704.x _ _ rfl).trans ((show Xi T27 904 47 = Xi S 904 47 from w688.x _ _ rfl)))
  have y403_49 : Xi T28 904 49 = Xi S 904 49 := ((show Xi T28 904 49 = Xi T27 904 49 from w704.x _ _ rfl).trans ((show Xi T27 904 49 = Xi S 904 49 from w688.x _ _ rfl)))
  have L403 : LCN T28 := lcn_i hLC (pls_le x403 (by omega) (by omega) (by omega)) (by omega)
  have l403 := lcn_le hHT28 L403
  have w403 : rnR T28 0 0 ≠ -1 := rn_up2 n382 x403 (by omega) (by omega) (fun j => (hFT28.cx 910 rfl j).2) (fun j => (hFT28.cx 950 rfl j).1) (fun j => (hFT28.cx 951 rfl j).1) rfl
  have o403 : Xi T28 922 (Xi S 904 23).toNat = Xi S 904 23 + 1 ∧ Xi T28 924 (Xi S 904 23).toNat = 0 := ⟨((by assumption : FR md_mo_tellRun T27 T28).cx 922 rfl _).1.trans o395.1, ((by assumption : FR md_mo_tellRun T27 T28).cx 924 rfl _).1.trans o395.2⟩
  have y403_60 : Xi T28 904 60 = Xi S 904 60 := ((show Xi T28 904 60 = Xi T27 904 60 from w704.x _ _ rfl).trans ((show Xi T27 904 60 = Xi S 904 60 from w688.x _ _ rfl)))
  have y403_117 : Xi T28 904 117 = Xi S 904 117 := ((show Xi T28 904 117 = Xi T27 904 117 from w704.x _ _ rfl).trans ((show Xi T27 904 117 = Xi S 904 117 from w688.x _ _ rfl)))
  have w705 : Xi T28 904 117 = Xi S 904 117 := (show Xi T28 904 117 = Xi T27 904 117 from w704.x _ _ rfl).trans ((show Xi T27 904 117 = Xi S 904 117 from w688.x _ _ rfl))
  have w706 : 0 ≤ Xi S 904 117 ∧ Xi S 904 117 ≤ 480 := hH.c _ _
  have w707 : 0 ≤ Xi T28 904 15 ∧ Xi T28 904 15 ≤ 300 := hHT28.c _ _
  have w708 : Xi T28 904 16 = Xi S 904 16 := (show Xi T28 904 16 = Xi T27 904 16 from w704.x _ _ rfl).trans ((show Xi T27 904 16 = Xi S 904 16 from w688.x _ _ rfl))
  have w709 : 0 ≤ Xi S 904 16 ∧ Xi S 904 16 ≤ 16 := hH.c _ _
  have w710 : Xi T28 904 18 = Xi S 904 18 := (show Xi T28 904 18 = Xi T27 904 18 from w704.x _ _ rfl).trans ((show Xi T27 904 18 = Xi S 904 18 from w688.x _ _ rfl))
  have w711 : 0 ≤ Xi S 904 18 ∧ Xi S 904 18 ≤ 8 := hH.c _ _
  have w712 : Xi T28 904 19 = Xi S 904 19 := (show Xi T28 904 19 = Xi T27 904 19 from w704.x _ _ rfl).trans ((show Xi T27 904 19 = Xi S 904 19 from w688.x _ _ rfl))
  have w713 : 0 ≤ Xi S 904 19 ∧ Xi S 904 19 ≤ 24 := hH.c _ _
  have w714 : Xi T28 904 23 = Xi T27 904 23 := (show Xi T28 904 23 = Xi T27 904 23 from w704.x _ _ rfl)
  have w715 : 0 ≤ Xi T27 904 23 ∧ Xi T27 904 23 ≤ 24 := hHT27.c _ _
  have w716 : Xi T28 904 30 = Xi S 904 30 := (show Xi T28 904 30 = Xi T27 904 30 from w704.x _ _ rfl).trans ((show Xi T27 904 30 = Xi S 904 30 from w688.x _ _ rfl))
  have w717 : 0 ≤ Xi S 904 30 ∧ Xi S 904 30 ≤ 64 := hH.c _ _
  have w718 : Xi T28 904 32 = Xi S 904 32 := (show Xi T28 904 32 = Xi T27 904 32 from w704.x _ _ rfl).trans ((show Xi T27 904 32 = Xi S 904 32 from w688.x _ _ rfl))
  have w719 : 0 ≤ Xi S 904 32 ∧ Xi S 904 32 ≤ 12 := hH.c _ _
  have w720 : Xi T28 904 41 = Xi S 904 41 := (show Xi T28 904 41 = Xi T27 904 41 from w704.x _ _ rfl).trans ((show Xi T27 904 41 = Xi S 904 41 from w688.x _ _ rfl))
  have w721 : 0 ≤ Xi S 904 41 ∧ Xi S 904 41 ≤ 6 := hH.c _ _
  have w722 : Xi T28 904 47 = Xi S 904 47 := (show Xi T28 904 47 = Xi T27 904 47 from w704.x _ _ rfl).trans ((show Xi T27 904 47 = Xi S 904 47 from w688.x _ _ rfl))
  have w723 : 0 ≤ Xi S 904 47 ∧ Xi S 904 47 ≤ 8 := hH.c _ _
  have w724 : Xi T28 904 49 = Xi S 904 49 := (show Xi T28 904 49 = Xi T27 904 49 from w704.x _ _ rfl).trans ((show Xi T27 904 49 = Xi S 904 49 from w688.x _ _ rfl))
  have w725 : 0 ≤ Xi S 904 49 ∧ Xi S 904 49 ≤ 12 := hH.c _ _
  have w726 : Xi T28 904 60 = Xi S 904 60 := (show Xi T28 904 60 = Xi T27 904 60 from w704.x _ _ rfl).trans ((show Xi T27 904 60 = Xi S 904 60 from w688.x _ _ rfl))
  have w727 : -1 ≤ Xi S 904 60 ∧ Xi S 904 60 ≤ 23 := hH.c _ _
  exact Rl_weak (C406 T28 hHT28 hFT28 (z687) (by omega) (by omega) (by omega) (by omega) (by omega) (by omega) (by omega) (by omega) (by omega) (by omega) (by omega) (by omega) (by omega) (by omega) (by omega) (M403) (L403) (g403) (w403) (o403) (x403) (by first | assumption | exact (TXM_FR w704 rfl (TXM_FR w688 rfl (by assumption : TXM S)))) (by first | assumption | exact (WYM_FR w704 rfl (WYM_FR w688 rfl (by assumption : WYM S)))) (by first | assumption | exact (ABV_FR w704 rfl (ABV_FR w688 rfl (by assumption : ABV S)))) (by first | assumption | exact (VTM_FR w704 rfl (VTM_FR w688 rfl (by assumption : VTM S)))) (by first | assumption | exact (VCN_FR w704 rfl (VCN_FR w688 rfl (by assumption : VCN S)))) (by first | assumption | exact (WYD_FR w704 rfl (WYD_FR w688 rfl (by assumption : WYD S))))) (And.intro rfl (And.intro rfl (True.intro)))
set_option maxRecDepth 100000 in
set_option maxHeartbeats 1000000 in
theorem c426_mo_does {S : sS} (hH : HI S) (n : Nat) (first : Int) (hfirst : 0 ≤ first ∧ first ≤ 5001) (hT : TK S n) (hv : RNV S n) (hK : TXK S n) (hI : TIX S) (hq : SNQ S n) (hk : DOK S) (h11 : Xi S 904 70 = 11 → -1 ≤ Xi S 904 78) (d : Nat) : (Xi S 904 70 = 19) → Rl lay0 (d + 7) m_mo_does 426 [(0, .ref 904)] [] S (Q_mo_does S n first) := by
  have hF : FR md_mo_does S S := FR.rf
  have w1 : 0 ≤ Xi S 904 117 ∧ Xi S 904 117 ≤ 480 := hH.c _ _
  have w2 : 0 ≤ Xi S 904 15 ∧ Xi S 904 15 ≤ 300 := hH.c _ _
  have w3 : 0 ≤ Xi S 904 16 ∧ Xi S 904 16 ≤ 16 := hH.c _ _
  have w4 : 0 ≤ Xi S 904 18 ∧ Xi S 904 18 ≤ 8 := hH.c _ _
  have w5 : 0 ≤ Xi S 904 19 ∧ Xi S 904 19 ≤ 24 := hH.c _ _
  have w6 : 0 ≤ Xi S 904 23 ∧ Xi S 904 23 ≤ 24 := hH.c _ _
  have w7 : 0 ≤ Xi S 904 30 ∧ Xi S 904 30 ≤ 64 := hH.c _ _
  have w8 : 0 ≤ Xi S 904 32 ∧ Xi S 904 32 ≤ 12 := hH.c _ _
  have w9 : 0 ≤ Xi S 904 41 ∧ Xi S 904 41 ≤ 6 := hH.c _ _
  have w10 : 0 ≤ Xi S 904 47 ∧ Xi S 904 47 ≤ 8 := hH.c _ _
  have w11 : 0 ≤ Xi S 904 49 ∧ Xi S 904 49 ≤ 12 := hH.c _ _
  have w12 : -1 ≤ Xi S 904 60 ∧ Xi S 904 60 ≤ 23 := hH.c _ _
  have w13 : 0 ≤ Xi S 904 69 ∧ Xi S 904 69 ≤ 2600 := hH.c _ _
  have w14 : 0 ≤ Xi S 904 70 ∧ Xi S 904 70 ≤ 20 := hH.c _ _
  have w15 : 0 ≤ Xi S 904 71 ∧ Xi S 904 71 ≤ 2600 := hH.c _ _
  have w16 : 0 ≤ Xi S 904 72 ∧ Xi S 904 72 ≤ 2600 := hH.c _ _
  have w17 : -2 ≤ Xi S 904 78 ∧ Xi S 904 78 ≤ 5010 := hH.c _ _
  have hX : TXM S := hI.1
  have hW : WYM S := hI.2.1
  have hM : LXM S := hI.2.2.1
  have hLC : LCN S := hI.2.2.2.1
  have hB : ABV S := hI.2.2.2.2.1
  have hC : DCM S := hI.2.2.2.2.2.1
  have hV : VTM S := hI.2.2.2.2.2.2.1
  have hVC : VCN S := hI.2.2.2.2.2.2.2.1
  have hWD : WYD S := hI.2.2.2.2.2.2.2.2.1
  have hRD : RDT S := hI.2.2.2.2.2.2.2.2.2.1
  have hAK : AKR S := hI.2.2.2.2.2.2.2.2.2.2.1
  have hd6 : Xi S 904 60 < Xi S 904 19 := hI.2.2.2.2.2.2.2.2.2.2.2.1
  have h16 : 2 ≤ Xi S 904 16 := hI.2.2.2.2.2.2.2.2.2.2.2.2
  have h32 : 1 ≤ Xi S 904 32 := hAK.2.2.2.2.2.2.2
  have hn5 := hT.1
  have hc69 : 0 ≤ Xi S 904 69 ∧ Xi S 904 69 ≤ 2600 := hH.c _ _
  have hc70 : 0 ≤ Xi S 904 70 ∧ Xi S 904 70 ≤ 20 := hH.c _ _
  have hc16 : 0 ≤ Xi S 904 16 ∧ Xi S 904 16 ≤ 16 := hH.c _ _
  have hc18 : 0 ≤ Xi S 904 18 ∧ Xi S 904 18 ≤ 8 := hH.c _ _
  have hc19 : 0 ≤ Xi S 904 19 ∧ Xi S 904 19 ≤ 24 := hH.c _ _
  have hc23 : 0 ≤ Xi S 904 23 ∧ Xi S 904 23 ≤ 24 := hH.c _ _
  have hc30 : 0 ≤ Xi S 904 30 ∧ Xi S 904 30 ≤ 64 := hH.c _ _
  have hc32 : 0 ≤ Xi S 904 32 ∧ Xi S 904 32 ≤ 12 := hH.c _ _
  have hc41 : 0 ≤ Xi S 904 41 ∧ Xi S 904 41 ≤ 6 := hH.c _ _
  have hc47 : 0 ≤ Xi S 904 47 ∧ Xi S 904 47 ≤ 8 := hH.c _ _
  have hc49 : 0 ≤ Xi S 904 49 ∧ Xi S 904 49 ≤ 12 := hH.c _ _
  have hc15 : 0 ≤ Xi S 904 15 ∧ Xi S 904 15 ≤ 300 := hH.c _ _
  have hc117 : 0 ≤ Xi S 904 117 ∧ Xi S 904 117 ≤ 480 := hH.c _ _
  have hc125 : 0 ≤ Xi S 904 125 ∧ Xi S 904 125 ≤ 192 := hH.c _ _
  have hc130 : 0 ≤ Xi S 904 130 ∧ Xi S 904 130 ≤ 24 := hH.c _ _
  have hl9 := lcn_le hH hLC
  intro w728
  refine l_aload_n rfl rfl ?_
  have d426 := hk.2.2.2.2.2.2.2.2.2.2.2.2.2.2 (by omega)
  have s426 := hq.2.2.2.2.2.2.2.2.2 (by omega)
  have a426 := d426.1
  have b426 := d426.2.2.1
  have c426 := d426.2.2.2
  refine l_gfr rfl rfl rfl rfl rfl (hH.r 904 42 936 rfl) ?_
  refine l_aload_n rfl rfl ?_
  refine l_gfi rfl rfl rfl rfl rfl ?_
  refine l_aload_n rfl rfl ?_
  refine l_iconst rfl ?_
  have w729 : 0 ≤ Xi S 904 117 ∧ Xi S 904 117 ≤ 480 := hH.c _ _
  have w730 : 0 ≤ Xi S 904 15 ∧ Xi S 904 15 ≤ 300 := hH.c _ _
  have w731 : 0 ≤ Xi S 904 16 ∧ Xi S 904 16 ≤ 16 := hH.c _ _
  have w732 : 0 ≤ Xi S 904 19 ∧ Xi S 904 19 ≤ 24 := hH.c _ _
  have w733 : 0 ≤ Xi S 904 23 ∧ Xi S 904 23 ≤ 24 := hH.c _ _
  have w734 : -1 ≤ Xi S 904 60 ∧ Xi S 904 60 ≤ 23 := hH.c _ _
  have w735 : 0 ≤ Xi S 904 69 ∧ Xi S 904 69 ≤ 2600 := hH.c _ _
  refine l_callV rfl rfl rfl (t_mo_kindOrPlural__2 hH n 1 ⟨by omega, by omega⟩ (by first | assumption | exact (TK_FR hF rfl (by assumption : TK S _))) (by first | assumption | exact (RNV_FR hF rfl (by assumption : RNV S _))) (by first | assumption | omega) (by first | assumption | exact (by assumption : LXM S)) _) ?_
  rintro _ _ ⟨rfl, z738, rfl, w738, w736, w737⟩
  show Rl _ _ _ _ _ [iv z738, iv (Xi S 904 41), .ref 936] _ _
  have r436 : z738 = r2R S 1 0 1 := by assumption
  refine l_iastore (n := 6) rfl rfl (by omega) (by omega) (by unfold rg; omega) ?_
  obtain ⟨U29, eU29⟩ : ∃ T : sS, T = uI S 936 (((Xi S 904 41)).toNat) (Int32.ofInt z738) := ⟨_, rfl⟩
  rw [← eU29]
  have hHU29 : HI U29 := by rw [eU29]; exact HI_w hH (show 0 ≤ z738 by omega) (show z738 ≤ 15 by omega)
  have hFU29 : FR md_mo_does S U29 := by rw [eU29]; exact FR.wI hF (mdf_i (r := (936, 937, 0, 100000)) (List.mem_of_getElem? (i := 43) rfl) (inR_i (by omega) (by omega) (by omega) (by omega)))
  have w739 : Xi U29 936 (((Xi S 904 41)).toNat) = z738 := by rw [eU29]; exact Xi_same (by unfold rg; omega)
  refine l_aload_n rfl rfl ?_
  refine l_gfr rfl rfl rfl rfl rfl (hHU29.r 904 43 937 rfl) ?_
  refine l_aload_n rfl rfl ?_
  refine l_gfi rfl rfl rfl rfl rfl ?_
  have w740 : (Xi U29 904 41) = (Xi S 904 41) := (show Xi U29 904 41 = Xi S 904 41 from by rw [eU29]; exact Xi_ne (by omega))
  rw [w740]
  refine l_aload_n rfl rfl ?_
  refine l_iconst rfl ?_
  have w741 : Xi U29 904 117 = Xi S 904 117 := (show Xi U29 904 117 = Xi S 904 117 from by rw [eU29]; exact Xi_ne (by omega))
  have w742 : 0 ≤ Xi S 904 117 ∧ Xi S 904 117 ≤ 480 := hH.c _ _
  have w743 : Xi U29 904 15 = Xi S 904 15 := (show Xi U29 904 15 = Xi S 904 15 from by rw [eU29]; exact Xi_ne (by omega))
  have w744 : 0 ≤ Xi S 904 15 ∧ Xi S 904 15 ≤ 300 := hH.c _ _
  have w745 : Xi U29 904 16 = Xi S 904 16 := (show Xi U29 904 16 = Xi S 904 16 from by rw [eU29]; exact Xi_ne (by omega))
  have w746 : 0 ≤ Xi S 904 16 ∧ Xi S 904 16 ≤ 16 := hH.c _ _
  have w747 : Xi U29 904 19 = Xi S 904 19 := (show Xi U29 904 19 = Xi S 904 19 from by rw [eU29]; exact Xi_ne (by omega))
  have w748 : 0 ≤ Xi S 904 19 ∧ Xi S 904 19 ≤ 24 := hH.c _ _
  have w749 : Xi U29 904 23 = Xi S 904 23 := (show Xi U29 904 23 = Xi S 904 23 from by rw [eU29]; exact Xi_ne (by omega))
  have w750 : 0 ≤ Xi S 904 23 ∧ Xi S 904 23 ≤ 24 := hH.c _ _
  have w751 : Xi U29 904 60 = Xi S 904 60 := (show Xi U29 904 60 = Xi S 904 60 from by rw [eU29]; exact Xi_ne (by omega))
  have w752 : -1 ≤ Xi S 904 60 ∧ Xi S 904 60 ≤ 23 := hH.c _ _
  have w753 : Xi U29 904 69 = Xi S 904 69 := (show Xi U29 904 69 = Xi S 904 69 from by rw [eU29]; exact Xi_ne (by omega))
  have w754 : 0 ≤ Xi S 904 69 ∧ Xi S 904 69 ≤ 2600 := hH.c _ _
  refine l_callV rfl rfl rfl (t_mo_kindOrPlural__2 hHU29 n 2 ⟨by omega, by omega⟩ (by first | assumption | exact (TK_FR hFU29 rfl (by assumption : TK S _))) (by first | assumption | exact (RNV_FR hFU29 rfl (by assumption : RNV S _))) (by first | assumption | omega) (by first | assumption | exact (LXM_FR (FR_e eU29) rfl (by assumption : LXM S))) _) ?_
  rintro _ _ ⟨rfl, z757, rfl, w757, w755, w756⟩
  show Rl _ _ _ _ _ [iv z757, iv (Xi S 904 41), .ref 937] _ _
  have r450 : z757 = r2R S 2 0 1 := (by assumption : z757 = r2R U29 _ _ _).trans (r2R_FR (FR_e eU29) rfl rfl)
  refine l_iastore (n := 6) rfl rfl (by omega) (by omega) (by unfold rg; omega) ?_
  obtain ⟨U30, eU30⟩ : ∃ T : sS, T = uI U29 937 (((Xi S 904 41)).toNat) (Int32.ofInt z757) := ⟨_, rfl⟩
  rw [← eU30]
  have hHU30 : HI U30 := by rw [eU30]; exact HI_w hHU29 (show 0 ≤ z757 by omega) (show z757 ≤ 15 by omega)
  have hFU30 : FR md_mo_does S U30 := by rw [eU30]; exact FR.wI hFU29 (mdf_i (r := (937, 938, 0, 100000)) (List.mem_of_getElem? (i := 44) rfl) (inR_i (by omega) (by omega) (by omega) (by omega)))
  have w758 : Xi U30 937 (((Xi S 904 41)).toNat) = z757 := by rw [eU30]; exact Xi_same (by unfold rg; omega)
  refine l_aload_n rfl rfl ?_
  refine l_gfr rfl rfl rfl rfl rfl (hHU30.r 904 44 938 rfl) ?_
  refine l_aload_n rfl rfl ?_
  refine l_gfi rfl rfl rfl rfl rfl ?_
  have w759 : (Xi U30 904 41) = (Xi S 904 41) := (show Xi U30 904 41 = Xi U29 904 41 from by rw [eU30]; exact Xi_ne (by omega)).trans ((show Xi U29 904 41 = Xi S 904 41 from by rw [eU29]; exact Xi_ne (by omega)))
  rw [w759]
  refine l_aload_n rfl rfl ?_
  refine l_gfi rfl rfl rfl rfl rfl ?_
  have w760 : 0 ≤ (Xi U30 904 79) ∧ (Xi U30 904 79) ≤ 1 := hHU30.c _ _
  refine l_bastoreZ1 (n := 6) rfl rfl (by omega) (by omega) (by unfold rg; omega) ⟨by omega, by omega⟩ ?_
  obtain ⟨U31, eU31⟩ : ∃ T : sS, T = uI U30 938 (((Xi S 904 41)).toNat) (Int32.ofInt (Xi U30 904 79)) := ⟨_, rfl⟩
  rw [← eU31]
  have hHU31 : HI U31 := by rw [eU31]; exact HI_w hHU30 (show 0 ≤ (Xi U30 904 79) by omega) (show (Xi U30 904 79) ≤ 1 by omega)
  have hFU31 : FR md_mo_does S U31 := by rw [eU31]; exact FR.wI hFU30 (mdf_i (r := (938, 939, 0, 100000)) (List.mem_of_getElem? (i := 45) rfl) (inR_i (by omega) (by omega) (by omega) (by omega)))
  have w761 : Xi U31 938 (((Xi S 904 41)).toNat) = (Xi U30 904 79) := by rw [eU31]; exact Xi_same (by unfold rg; omega)
  refine l_aload_n rfl rfl ?_
  refine l_gfr rfl rfl rfl rfl rfl (hHU31.r 904 45 939 rfl) ?_
  refine l_aload_n rfl rfl ?_
  refine l_gfi rfl rfl rfl rfl rfl ?_
  have w762 : (Xi U31 904 41) = (Xi S 904 41) := (show Xi U31 904 41 = Xi U30 904 41 from by rw [eU31]; exact Xi_ne (by omega)).trans ( (show Xi U30 904 41 = Xi U29 904 41 from by rw [eU30]; exact Xi_ne (by omega)).trans ((show Xi U29 904 41 = Xi S 904 41 from by rw [eU29]; exact Xi_ne (by omega))))
  rw [w762]
  refine l_aload_n rfl rfl ?_
  refine l_gfi rfl rfl rfl rfl rfl ?_
  have w763 : 0 ≤ (Xi U31 904 80) ∧ (Xi U31 904 80) ≤ 1 := hHU31.c _ _
  refine l_bastoreZ1 (n := 6) rfl rfl (by omega) (by omega) (by unfold rg; omega) ⟨by omega, by omega⟩ ?_
  obtain ⟨U32, eU32⟩ : ∃ T : sS, T = uI U31 939 (((Xi S 904 41)).toNat) (Int32.ofInt (Xi U31 904 80)) := ⟨_, rfl⟩
  rw [← eU32]
  have hHU32 : HI U32 := by rw [eU32]; exact HI_w hHU31 (show 0 ≤ (Xi U31 904 80) by omega) (show (Xi U31 904 80) ≤ 1 by omega)
  have hFU32 : FR md_mo_does S U32 := by rw [eU32]; exact FR.wI hFU31 (mdf_i (r := (939, 940, 0, 100000)) (List.mem_of_getElem? (i := 46) rfl) (inR_i (by omega) (by omega) (by omega) (by omega)))
  have w764 : Xi U32 939 (((Xi S 904 41)).toNat) = (Xi U31 904 80) := by rw [eU32]; exact Xi_same (by unfold rg; omega)
  have x479 : LXK U32 S (Xi S 904 15) := (LXK.fr (LXK.fr (LXK.fr (LXK.fr LXK.rf (FR_e eU29) rfl) (FR_e eU30) rfl) (FR_e eU31) rfl) (FR_e eU32) rfl)
  have y479_15 : Xi U32 904 15 = Xi S 904 15 := ((show Xi U32 904 15 = Xi U31 904 15 from by rw [eU32]; exact Xi_ne (by omega)).trans ((show Xi U31 904 15 = Xi U30 904 15 from by rw [eU31]; exact Xi_ne (by omega)).trans ((show Xi U30 904 15 = Xi U29 904 15 from by rw [eU30]; exact Xi_ne (by omega)).trans ((show Xi U29 904 15 = Xi S 904 15 from by rw [eU29]; exact Xi_ne (by omega))))))
  have y479_41 : Xi U32 904 41 = Xi S 904 41 := ((show Xi U32 904 41 = Xi U31 904 41 from by rw [eU32]; exact Xi_ne (by omega)).trans ((show Xi U31 904 41 = Xi U30 904 41 from by rw [eU31]; exact Xi_ne (by omega)).trans ((show Xi U30 904 41 = Xi U29 904 41 from by rw [eU30]; exact Xi_ne (by omega)).trans ((show Xi U29 904 41 = Xi S 904 41 from by rw [eU29]; exact Xi_ne (by omega))))))
  refine l_aload_n rfl rfl ?_
  refine l_bipush rfl rfl ?_
  refine l_aload_n rfl rfl ?_
  refine l_gfi rfl rfl rfl rfl rfl ?_
  have w765 : (Xi U32 904 41) = (Xi S 904 41) := (show Xi U32 904 41 = Xi U31 904 41 from by rw [eU32]; exact Xi_ne (by omega)).trans ( (show Xi U31 904 41 = Xi U30 904 41 from by rw [eU31]; exact Xi_ne (by omega)).trans ( (show Xi U30 904 41 = Xi U29 904 41 from by rw [eU30]; exact Xi_ne (by omega)).trans ((show Xi U29 904 41 = Xi S 904 41 from by rw [eU29]; exact Xi_ne (by omega)))))
  rw [w765]
  refine l_iconst rfl ?_
  have w766 : Xi U32 904 117 = Xi S 904 117 := (show Xi U32 904 117 = Xi U31 904 117 from by rw [eU32]; exact Xi_ne (by omega)).trans ( (show Xi U31 904 117 = Xi U30 904 117 from by rw [eU31]; exact Xi_ne (by omega)).trans ( (show Xi U30 904 117 = Xi U29 904 117 from by rw [eU30]; exact Xi_ne (by omega)).trans ((show Xi U29 904 117 = Xi S 904 117 from by rw [eU29]; exact Xi_ne (by omega)))))
  have w767 : 0 ≤ Xi S 904 117 ∧ Xi S 904 117 ≤ 480 := hH.c _ _
  have w768 : Xi U32 904 15 = Xi S 904 15 := (show Xi U32 904 15 = Xi U31 904 15 from by rw [eU32]; exact Xi_ne (by omega)).trans ( (show Xi U31 904 15 = Xi U30 904 15 from by rw [eU31]; exact Xi_ne (by omega)).trans ( (show Xi U30 904 15 = Xi U29 904 15 from by rw [eU30]; exact Xi_ne (by omega)).trans ((show Xi U29 904 15 = Xi S 904 15 from by rw [eU29]; exact Xi_ne (by omega)))))
  have w769 : 0 ≤ Xi S 904 15 ∧ Xi S 904 15 ≤ 300 := hH.c _ _
  have w770 : Xi U32 904 16 = Xi S 904 16 := (show Xi U32 904 16 = Xi U31 904 16 from by rw [eU32]; exact Xi_ne (by omega)).trans ( (show Xi U31 904 16 = Xi U30 904 16 from by rw [eU31]; exact Xi_ne (by omega)).trans ( (show Xi U30 904 16 = Xi U29 904 16 from by rw [eU30]; exact Xi_ne (by omega)).trans ((show Xi U29 904 16 = Xi S 904 16 from by rw [eU29]; exact Xi_ne (by omega)))))
  have w771 : 0 ≤ Xi S 904 16 ∧ Xi S 904 16 ≤ 16 := hH.c _ _
  have w772 : Xi U32 904 19 = Xi S 904 19 := (show Xi U32 904 19 = Xi U31 904 19 from by rw [eU32]; exact Xi_ne (by omega)).trans ( (show Xi U31 904 19 = Xi U30 904 19 from by rw [eU31]; exact Xi_ne (by omega)).trans ( (show Xi U30 904 19 = Xi U29 904 19 from by rw [eU30]; exact Xi_ne (by omega)).trans ((show Xi U29 904 19 = Xi S 904 19 from by rw [eU29]; exact Xi_ne (by omega)))))
  have w773 : 0 ≤ Xi S 904 19 ∧ Xi S 904 19 ≤ 24 := hH.c _ _
  have w774 : Xi U32 904 23 = Xi S 904 23 := (show Xi U32 904 23 = Xi U31 904 23 from by rw [eU32]; exact Xi_ne (by omega)).trans ( (show Xi U31 904 23 = Xi U30 904 23 from by rw [eU31]; exact Xi_ne (by omega)).trans ( (show Xi U30 904 23 = Xi U29 904 23 from by rw [eU30]; exact Xi_ne (by omega)).trans ((show Xi U29 904 23 = Xi S 904 23 from by rw [eU29]; exact Xi_ne (by omega)))))
  have w775 : 0 ≤ Xi S 904 23 ∧ Xi S 904 23 ≤ 24 := hH.c _ _
  have w776 : Xi U32 904 60 = Xi S 904 60 := (show Xi U32 904 60 = Xi U31 904 60 from by rw [eU32]; exact Xi_ne (by omega)).trans ( (show Xi U31 904 60 = Xi U30 904 60 from by rw [eU31]; exact Xi_ne (by omega)).trans ( (show Xi U30 904 60 = Xi U29 904 60 from by rw [eU30]; exact Xi_ne (by omega)).trans ((show Xi U29 904 60 = Xi S 904 60 from by rw [eU29]; exact Xi_ne (by omega)))))
  have w777 : -1 ≤ Xi S 904 60 ∧ Xi S 904 60 ≤ 23 := hH.c _ _
  have w778 : Xi U32 904 69 = Xi S 904 69 := (show Xi U32 904 69 = Xi U31 904 69 from by rw [eU32]; exact Xi_ne (by omega)).trans ( (show Xi U31 904 69 = Xi U30 904 69 from by rw [eU31]; exact Xi_ne (by omega)).trans ( (show Xi U30 904 69 = Xi U29 904 69 from by rw [eU30]; exact Xi_ne (by omega)).trans ((show Xi U29 904 69 = Xi S 904 69 from by rw [eU29]; exact Xi_ne (by omega)))))
  have w779 : 0 ≤ Xi S 904 69 ∧ Xi S 904 69 ≤ 2600 := hH.c _ _
  refine l_callV rfl rfl rfl (t_mo_tellRun hHU32 n 8 (Xi S 904 41) 0 ⟨by omega, by omega⟩ ⟨by omega, by omega⟩ ⟨by omega, by omega⟩ (by first | assumption | exact (TK_FR hFU32 rfl (by assumption : TK S _))) (by first | assumption | exact (RNV_FR hFU32 rfl (by assumption : RNV S _))) (by first | assumption | omega) (by first | (rw [(hFU32.cx 951 rfl _).1]; exact d382.2.2.1) | (rw [(hFU32.cx 951 rfl _).1]; exact d382.2.2.2) | (rw [(hFU32.cx 951 rfl _).1]; exact d426.2.1) | (rw [(hFU32.cx 951 rfl _).1]; have t := d300.2.2 v2 (by omega) (by omega); rw [show Xi S 904 71 = Xi S 904 71 by omega]; exact t)) (by first | omega | (have t := lcn_le hH L300; omega)) _) ?_
  rintro _ T33 ⟨hHT33, w782, rfl, w780, e488, k488⟩
  have hFT33 : FR md_mo_does S T33 := FR.tr hFU32 w782 rfl
  show Rl _ _ _ _ _ [] _ _
  have x488 : LXK T33 S (Xi S 904 15) := x479.tr k488 (by omega)
  have d488 : Xi T33 914 (Xi S 904 15).toNat = 8 ∧ Xi T33 915 (Xi S 904 15).toNat = Xi S 904 41 := by have t := e488; rw [show Xi U32 904 15 = Xi S 904 15 by omega] at t; first | exact t | (rw [show Xi U32 904 41 = Xi S 904 41 by omega] at t; exact t)
  refine l_aload_n rfl rfl ?_
  refine l_dup rfl rfl ?_
  refine l_gfi rfl rfl rfl rfl rfl ?_
  have w783 : (Xi T33 904 41) = (Xi S 904 41) := (show Xi T33 904 41 = Xi U32 904 41 from w782.x _ _ rfl).trans ( (show Xi U32 904 41 = Xi U31 904 41 from by rw [eU32]; exact Xi_ne (by omega)).trans ( (show Xi U31 904 41 = Xi U30 904 41 from by rw [eU31]; exact Xi_ne (by omega)).trans ( (show Xi U30 904 41 = Xi U29 904 41 from by rw [eU30]; exact Xi_ne (by omega)).trans ((show Xi U29 904 41 = Xi S 904 41 from by rw [eU29]; exact Xi_ne (by omega))))))
  rw [w783]
  refine l_iconst rfl ?_
  refine l_iadd rfl ?_
  refine l_pfi rfl rfl rfl rfl ?_
  obtain ⟨U34, eU34⟩ : ∃ T : sS, T = uI T33 904 41 (Int32.ofInt ((Xi S 904 41) + 1)) := ⟨_, rfl⟩
  rw [← eU34]
  have hHU34 : HI U34 := by rw [eU34]; exact HI_w hHT33 (show 0 ≤ ((Xi S 904 41) + 1) by omega) (show ((Xi S 904 41) + 1) ≤ 6 by omega)
  have hFU34 : FR md_mo_does S U34 := by rw [eU34]; exact FR.wI hFT33 (mdf_i (r := (904, 905, 41, 42)) (List.mem_of_getElem? (i := 7) rfl) (inR_i (by omega) (by omega) (by omega) (by omega)))
  have w784 : Xi U34 904 41 = ((Xi S 904 41) + 1) := by rw [eU34]; exact Xi_same (by unfold rg; omega)
  have x498 : LXK U34 S (Xi S 904 15) := x488.fr (FR_e eU34) rfl
  have G498 : GR U34 S := (GR.w (GR_FR w782 rfl (GR_FR (FR_e eU32) rfl (GR_FR (FR_e eU31) rfl (GR_FR (FR_e eU30) rfl (GR_FR (FR_e eU29) rfl GR.rf))))) eU34 (by unfold rg; omega) (by omega))
  have w498 : Xi U34 904 15 = Xi S 904 15 + 1 := by have t : Xi U34 904 15 = Xi T33 904 15 := (by rw [eU34, Xi_ne (by omega)]); omega
  have v498 : Xi U34 904 41 = Xi S 904 41 + 1 := by omega
  have c498 : Xi U34 914 (Xi S 904 15).toNat = 8 ∧ Xi U34 915 (Xi S 904 15).toNat = Xi S 904 41 := ⟨by rw [eU34, Xi_ne (by omega)]; exact d488.1, by rw [eU34, Xi_ne (by omega)]; exact d488.2⟩
  have M498 : LXM U34 := lxm_gr hM x498 G498 (by omega) (Or.inr ⟨by omega, by rw [c498.1, c498.2, cM8]; omega⟩)
  have y498_16 : Xi U34 904 16 = Xi S 904 16 := ((show Xi U34 904 16 = Xi T33 904 16 from by rw [eU34]; exact Xi_ne (by omega)).trans ((show Xi T33 904 16 = Xi U32 904 16 from w782.x _ _ rfl).trans ((show Xi U32 904 16 = Xi U31 904 16 from by rw [eU32]; exact Xi_ne (by omega)).trans ((show Xi U31 904 16 = Xi U30 904 16 from by rw [eU31]; exact Xi_ne (by omega)).trans ((show Xi U30 904 16 = Xi U29 904 16 from by rw [eU30]; exact Xi_ne (by omega)).trans ((show Xi U29 904 16 = Xi S 904 16 from by rw [eU29]; exact Xi_ne (by omega))))))))
  have y498_18 : Xi U34 904 18 = Xi S 904 18 := ((show Xi U34 904 18 = Xi T33 904 18 from by rw [eU34]; exact Xi_ne (by omega)).trans ((show Xi T33 904 18 = Xi U32 904 18 from w782.x _ _ rfl).trans ((show Xi U32 904 18 = Xi U31 904 18 from by rw [eU32]; exact Xi_ne (by omega)).trans ((show Xi U31 904 18 = Xi U30 904 18 from by rw [eU31]; exact Xi_ne (by omega)).trans ((show Xi U30 904 18 = Xi U29 904 18 from by rw [eU30]; exact Xi_ne (by omega)).trans ((show Xi U29 904 18 = Xi S 904 18 from by rw [eU29]; exact Xi_ne (by omega))))))))
  have y498_19 : Xi U34 904 19 = Xi S 904 19 := ((show Xi U34 904 19 = Xi T33 904 19 from by rw [eU34]; exact Xi_ne (by omega)).trans ((show Xi T33 904 19 = Xi U32 904 19 from w782.x _ _ rfl).trans ((show Xi U32 904 19 = Xi U31 904 19 from by rw [eU32]; exact Xi_ne (by omega)).trans ((show Xi U31 904 19 = Xi U30 904 19 from by rw [eU31]; exact Xi_ne (by omega)).trans ((show Xi U30 904 19 = Xi U29 904 19 from by rw [eU30]; exact Xi_ne (by omega)).trans ((show Xi U29 904 19 = Xi S 904 19 from by rw [eU29]; exact Xi_ne (by omega))))))))
  have y498_23 : Xi U34 904 23 = Xi S 904 23 := ((show Xi U34 904 23 = Xi T33 904 23 from by rw [eU34]; exact Xi_ne (by omega)).trans ((show Xi T33 904 23 = Xi U32 904 23 from w782.x _ _ rfl).trans ((show Xi U32 904 23 = Xi U31 904 23 from by rw [eU32]; exact Xi_ne (by omega)).trans ((show Xi U31 904 23 = Xi U30 904 23 from by rw [eU31]; exact Xi_ne (by omega)).trans ((show Xi U30 904 23 = Xi U29 904 23 from by rw [eU30]; exact Xi_ne (by omega)).trans ((show Xi U29 904 23 = Xi S 904 23 from by rw [eU29]; exact Xi_ne (by omega))))))))
  have y498_30 : Xi U34 904 30 = Xi S 904 30 := ((show Xi U34 904 30 = Xi T33 904 30 from by rw [eU34]; exact Xi_ne (by omega)).trans ((show Xi T33 904 30 = Xi U32 904 30 from w782.x _ _ rfl).trans ((show Xi U32 904 30 = Xi U31 904 30 from by rw [eU32]; exact Xi_ne (by omega)).trans ((show Xi U31 904 30 = Xi U30 904 30 from by rw [eU31]; exact Xi_ne (by omega)).trans ((show Xi U30 904 30 = Xi U29 904 30 from by rw [eU30]; exact Xi_ne (by omega)).trans ((show Xi U29 904 30 = Xi S 904 30 from by rw [eU29]; exact Xi_ne (by omega))))))))
  have y498_32 : Xi U34 904 32 = Xi S 904 32 := ((show Xi U34 904 32 = Xi T33 904 32 from by rw [eU34]; exact Xi_ne (by omega)).trans ((show Xi T33 904 32 = Xi U32 904 32 from w782.x _ _ rfl).trans ((show Xi U32 904 32 = Xi U31 904 32 from by rw [eU32]; exact Xi_ne (by omega)).trans ((show Xi U31 904 32 = Xi U30 904 32 from by rw [eU31]; exact Xi_ne (by omega)).trans ((show Xi U30 904 32 = Xi U29 904 32 from by rw [eU30]; exact Xi_ne (by omega)).trans ((show Xi U29 904 32 = Xi S 904 32 from by rw [eU29]; exact Xi_ne (by omega))))))))
  have y498_47 : Xi U34 904 47 = Xi S 904 47 := ((show Xi U34 904 47 = Xi T33 904 47 from by rw [eU34]; exact Xi_ne (by omega)).trans ((show Xi T33 904 47 = Xi U32 904 47 from w782.x _ _ rfl).trans ((show Xi U32 904 47 = Xi U31 904 47 from by rw [eU32]; exact Xi_ne (by omega)).trans ((show Xi U31 904 47 = Xi U30 904 47 from by rw [eU31]; exact Xi_ne (by omega)).trans ((show Xi U30 904 47 = Xi U29 904 47 from by rw [eU30]; exact Xi_ne (by omega)).trans ((show Xi U29 904 47 = Xi S 904 47 from by rw [eU29]; exact Xi_ne (by omega))))))))
  have y498_49 : Xi U34 904 49 = Xi S 904 49 := ((show Xi U34 904 49 = Xi T33 904 49 from by rw [eU34]; exact Xi_ne (by omega)).trans ((show Xi T33 904 49 = Xi U32 904 49 from w782.x _ _ rfl).trans ((show Xi U32 904 49 = Xi U31 904 49 from by rw [eU32]; exact Xi_ne (by omega)).trans ((show Xi U31 904 49 = Xi U30 904 49 from by rw [eU31]; exact Xi_ne (by omega)).trans ((show Xi U30 904 49 = Xi U29 904 49 from by rw [eU30]; exact Xi_ne (by omega)).trans ((show Xi U29 904 49 = Xi S 904 49 from by rw [eU29]; exact Xi_ne (by omega))))))))
  have L498 : LCN U34 := lcn_i hLC (pls_le x498 (by omega) (by omega) (by omega)) (by omega)
  refine l_goto rfl rfl ?_
  refine l_return rfl rfl ?_
  have w785 : Xi U34 904 117 = Xi S 904 117 := (show Xi U34 904 117 = Xi T33 904 117 from by rw [eU34]; exact Xi_ne (by omega)).trans ( (show Xi T33 904 117 = Xi U32 904 117 from w782.x _ _ rfl).trans ( (show Xi U32 904 117 = Xi U31 904 117 from by rw [eU32]; exact Xi_ne (by omega)).trans ( (show Xi U31 904 117 = Xi U30 904 117 from by rw [eU31]; exact Xi_ne (by omega)).trans ( (show Xi U30 904 117 = Xi U29 904 117 from by rw [eU30]; exact Xi_ne (by omega)).trans ((show Xi U29 904 117 = Xi S 904 117 from by rw [eU29]; exact Xi_ne (by omega)))))))
  have w786 : 0 ≤ Xi S 904 117 ∧ Xi S 904 117 ≤ 480 := hH.c _ _
  have w787 : Xi U34 904 15 = Xi T33 904 15 := (show Xi U34 904 15 = Xi T33 904 15 from by rw [eU34]; exact Xi_ne (by omega))
  have w788 : 0 ≤ Xi T33 904 15 ∧ Xi T33 904 15 ≤ 300 := hHT33.c _ _
  have w789 : Xi U34 904 16 = Xi S 904 16 := (show Xi U34 904 16 = Xi T33 904 16 from by rw [eU34]; exact Xi_ne (by omega)).trans ( (show Xi T33 904 16 = Xi U32 904 16 from w782.x _ _ rfl).trans ( (show Xi U32 904 16 = Xi U31 904 16 from by rw [eU32]; exact Xi_ne (by omega)).trans ( (show Xi U31 904 16 = Xi U30 904 16 from by rw [eU31]; exact Xi_ne (by omega)).trans ( (show Xi U30 904 16 = Xi U29 904 16 from by rw [eU30]; exact Xi_ne (by omega)).trans ((show Xi U29 904 16 = Xi S 904 16 from by rw [eU29]; exact Xi_ne (by omega)))))))
  have w790 : 0 ≤ Xi S 904 16 ∧ Xi S 904 16 ≤ 16 := hH.c _ _
  have w791 : Xi U34 904 19 = Xi S 904 19 := (show Xi U34 904 19 = Xi T33 904 19 from by rw [eU34]; exact Xi_ne (by omega)).trans ( (show Xi T33 904 19 = Xi U32 904 19 from w782.x _ _ rfl).trans ( (show Xi U32 904 19 = Xi U31 904 19 from by rw [eU32]; exact Xi_ne (by omega)).trans ( (show Xi U31 904 19 = Xi U30 904 19 from by rw [eU31]; exact Xi_ne (by omega)).trans ( (show Xi U30 904 19 = Xi U29 904 19 from by rw [eU30]; exact Xi_ne (by omega)).trans ((show Xi U29 904 19 = Xi S 904 19 from by rw [eU29]; exact Xi_ne (by omega)))))))
  have w792 : 0 ≤ Xi S 904 19 ∧ Xi S 904 19 ≤ 24 := hH.c _ _
  have w793 : Xi U34 904 23 = Xi S 904 23 := (show Xi U34 904 23 = Xi T33 904 23 from by rw [eU34]; exact Xi_ne (by omega)).trans ( (show Xi T33 904 23 = Xi U32 904 23 from w782.x _ _ rfl).trans ( (show Xi U32 904 23 = Xi U31 904 23 from by rw [eU32]; exact Xi_ne (by omega)).trans ( (show Xi U31 904 23 = Xi U30 904 23 from by rw [eU31]; exact Xi_ne (by omega)).trans ( (show Xi U30 904 23 = Xi U29 904 23 from by rw [eU30]; exact Xi_ne (by omega)).trans ((show Xi U29 904 23 = Xi S 904 23 from by rw [eU29]; exact Xi_ne (by omega)))))))
  have w794 : 0 ≤ Xi S 904 23 ∧ Xi S 904 23 ≤ 24 := hH.c _ _
  have w795 : Xi U34 904 60 = Xi S 904 60 := (show Xi U34 904 60 = Xi T33 904 60 from by rw [eU34]; exact Xi_ne (by omega)).trans ( (show Xi T33 904 60 = Xi U32 904 60 from w782.x _ _ rfl).trans ( (show Xi U32 904 60 = Xi U31 904 60 from by rw [eU32]; exact Xi_ne (by omega)).trans ( (show Xi U31 904 60 = Xi U30 904 60 from by rw [eU31]; exact Xi_ne (by omega)).trans ( (show Xi U30 904 60 = Xi U29 904 60 from by rw [eU30]; exact Xi_ne (by omega)).trans ((show Xi U29 904 60 = Xi S 904 60 from by rw [eU29]; exact Xi_ne (by omega)))))))
  have w796 : -1 ≤ Xi S 904 60 ∧ Xi S 904 60 ≤ 23 := hH.c _ _
  exact ⟨hHU34, hFU34, rfl, (⟨by first | assumption | exact (TXM_FR (FR_e eU34) rfl (TXM_FR w782 rfl (TXM_FR (FR_e eU32) rfl (TXM_FR (FR_e eU31) rfl (TXM_FR (FR_e eU30) rfl (TXM_FR (FR_e eU29) rfl (by assumption : TXM S))))))), by first | assumption | exact (WYM_FR (FR_e eU34) rfl (WYM_FR w782 rfl (WYM_FR (FR_e eU32) rfl (WYM_FR (FR_e eU31) rfl (WYM_FR (FR_e eU30) rfl (WYM_FR (FR_e eU29) rfl (by assumption : WYM S))))))), by first | assumption | exact (by assumption : LXM U34), by first | assumption | exact (by assumption : LCN U34), by first | assumption | exact (ABV_FR (FR_e eU34) rfl (ABV_FR w782 rfl (ABV_FR (FR_e eU32) rfl (ABV_FR (FR_e eU31) rfl (ABV_FR (FR_e eU30) rfl (ABV_FR (FR_e eU29) rfl (by assumption : ABV S))))))), by first | assumption | exact (DCM_FR (FR_e eU34) rfl (DCM_FR w782 rfl (DCM_FR (FR_e eU32) rfl (DCM_FR (FR_e eU31) rfl (DCM_FR (FR_e eU30) rfl (DCM_FR (FR_e eU29) rfl (by assumption : DCM S))))))), by first | assumption | exact (VTM_FR (FR_e eU34) rfl (VTM_FR w782 rfl (VTM_FR (FR_e eU32) rfl (VTM_FR (FR_e eU31) rfl (VTM_FR (FR_e eU30) rfl (VTM_FR (FR_e eU29) rfl (by assumption : VTM S))))))), by first | assumption | exact (VCN_FR (FR_e eU34) rfl (VCN_FR w782 rfl (VCN_FR (FR_e eU32) rfl (VCN_FR (FR_e eU31) rfl (VCN_FR (FR_e eU30) rfl (VCN_FR (FR_e eU29) rfl (by assumption : VCN S))))))), by first | assumption | exact (WYD_FR (FR_e eU34) rfl (WYD_FR w782 rfl (WYD_FR (FR_e eU32) rfl (WYD_FR (FR_e eU31) rfl (WYD_FR (FR_e eU30) rfl (WYD_FR (FR_e eU29) rfl (by assumption : WYD S))))))), by first | assumption | exact (by assumption : RDT U34) | exact rdt_df hRD (GR.w (GR_FR w782 rfl (GR_FR (FR_e eU32) rfl (GR_FR (FR_e eU31) rfl (GR_FR (FR_e eU30) rfl (GR_FR (FR_e eU29) rfl GR.rf))))) eU34 (by unfold rg; omega) (by omega)) df153 (by omega) (by omega) (by omega) (hFU34.x 904 125 rfl) (hFU34.x 904 130 rfl) (smk_q9 hFU34 rfl) dn153 | exact rdt_gr hRD (by first | assumption | exact (GR.w (GR_FR w782 rfl (GR_FR (FR_e eU32) rfl (GR_FR (FR_e eU31) rfl (GR_FR (FR_e eU30) rfl (GR_FR (FR_e eU29) rfl GR.rf))))) eU34 (by unfold rg; omega) (by omega))) (by omega) (hFU34.x 904 125 rfl) (hFU34.x 904 130 rfl) (smk_q9 hFU34 rfl) (fun a x y => absurd y (by omega)), akr_gr hAK (by first | assumption | exact (GR.w (GR_FR w782 rfl (GR_FR (FR_e eU32) rfl (GR_FR (FR_e eU31) rfl (GR_FR (FR_e eU30) rfl (GR_FR (FR_e eU29) rfl GR.rf))))) eU34 (by unfold rg; omega) (by omega))), by first | omega | (have g := (by first | assumption | exact (GR.w (GR_FR w782 rfl (GR_FR (FR_e eU32) rfl (GR_FR (FR_e eU31) rfl (GR_FR (FR_e eU30) rfl (GR_FR (FR_e eU29) rfl GR.rf))))) eU34 (by unfold rg; omega) (by omega)) : GR U34 S); have t := g.1; omega), by first | omega | (have g := (by first | assumption | exact (GR.w (GR_FR w782 rfl (GR_FR (FR_e eU32) rfl (GR_FR (FR_e eU31) rfl (GR_FR (FR_e eU30) rfl (GR_FR (FR_e eU29) rfl GR.rf))))) eU34 (by unfold rg; omega) (by omega)) : GR U34 S); have t := g.1; omega)⟩)⟩
set_option maxRecDepth 100000 in
set_option maxHeartbeats 1000000 in
theorem c504_mo_does {S : sS} (hH : HI S) (n : Nat) (first : Int) (hfirst : 0 ≤ first ∧ first ≤ 5001) (hT : TK S n) (hv : RNV S n) (hK : TXK S n) (hI : TIX S) (hq : SNQ S n) (hk : DOK S) (h11 : Xi S 904 70 = 11 → -1 ≤ Xi S 904 78) (d : Nat) : (Xi S 904 70 = 20) → Rl lay0 (d + 7) m_mo_does 504 [(0, .ref 904), (1, iv first)] [] S (Q_mo_does S n first) := by
  have hF : FR md_mo_does S S := FR.rf
  have w1 : 0 ≤ Xi S 904 117 ∧ Xi S 904 117 ≤ 480 := hH.c _ _
  have w2 : 0 ≤ Xi S 904 15 ∧ Xi S 904 15 ≤ 300 := hH.c _ _
  have w3 : 0 ≤ Xi S 904 16 ∧ Xi S 904 16 ≤ 16 := hH.c _ _
  have w4 : 0 ≤ Xi S 904 18 ∧ Xi S 904 18 ≤ 8 := hH.c _ _
  have w5 : 0 ≤ Xi S 904 19 ∧ Xi S 904 19 ≤ 24 := hH.c _ _
  have w6 : 0 ≤ Xi S 904 23 ∧ Xi S 904 23 ≤ 24 := hH.c _ _
  have w7 : 0 ≤ Xi S 904 30 ∧ Xi S 904 30 ≤ 64 := hH.c _ _
  have w8 : 0 ≤ Xi S 904 32 ∧ Xi S 904 32 ≤ 12 := hH.c _ _
  have w9 : 0 ≤ Xi S 904 41 ∧ Xi S 904 41 ≤ 6 := hH.c _ _
  have w10 : 0 ≤ Xi S 904 47 ∧ Xi S 904 47 ≤ 8 := hH.c _ _
  have w11 : 0 ≤ Xi S 904 49 ∧ Xi S 904 49 ≤ 12 := hH.c _ _
  have w12 : -1 ≤ Xi S 904 60 ∧ Xi S 904 60 ≤ 23 := hH.c _ _
  have w13 : 0 ≤ Xi S 904 69 ∧ Xi S 904 69 ≤ 2600 := hH.c _ _
  have w14 : 0 ≤ Xi S 904 70 ∧ Xi S 904 70 ≤ 20 := hH.c _ _
  have w15 : 0 ≤ Xi S 904 71 ∧ Xi S 904 71 ≤ 2600 := hH.c _ _
  have w16 : 0 ≤ Xi S 904 72 ∧ Xi S 904 72 ≤ 2600 := hH.c _ _
  have w17 : -2 ≤ Xi S 904 78 ∧ Xi S 904 78 ≤ 5010 := hH.c _ _
  have hX : TXM S := hI.1
  have hW : WYM S := hI.2.1
  have hM : LXM S := hI.2.2.1
  have hLC : LCN S := hI.2.2.2.1
  have hB : ABV S := hI.2.2.2.2.1
  have hC : DCM S := hI.2.2.2.2.2.1
  have hV : VTM S := hI.2.2.2.2.2.2.1
  have hVC : VCN S := hI.2.2.2.2.2.2.2.1
  have hWD : WYD S := hI.2.2.2.2.2.2.2.2.1
  have hRD : RDT S := hI.2.2.2.2.2.2.2.2.2.1
  have hAK : AKR S := hI.2.2.2.2.2.2.2.2.2.2.1
  have hd6 : Xi S 904 60 < Xi S 904 19 := hI.2.2.2.2.2.2.2.2.2.2.2.1
  have h16 : 2 ≤ Xi S 904 16 := hI.2.2.2.2.2.2.2.2.2.2.2.2
  have h32 : 1 ≤ Xi S 904 32 := hAK.2.2.2.2.2.2.2
  have hn5 := hT.1
  have hc69 : 0 ≤ Xi S 904 69 ∧ Xi S 904 69 ≤ 2600 := hH.c _ _
  have hc70 : 0 ≤ Xi S 904 70 ∧ Xi S 904 70 ≤ 20 := hH.c _ _
  have hc16 : 0 ≤ Xi S 904 16 ∧ Xi S 904 16 ≤ 16 := hH.c _ _
  have hc18 : 0 ≤ Xi S 904 18 ∧ Xi S 904 18 ≤ 8 := hH.c _ _
  have hc19 : 0 ≤ Xi S 904 19 ∧ Xi S 904 19 ≤ 24 := hH.c _ _
  have hc23 : 0 ≤ Xi S 904 23 ∧ Xi S 904 23 ≤ 24 := hH.c _ _
  have hc30 : 0 ≤ Xi S 904 30 ∧ Xi S 904 30 ≤ 64 := hH.c _ _
  have hc32 : 0 ≤ Xi S 904 32 ∧ Xi S 904 32 ≤ 12 := hH.c _ _
  have hc41 : 0 ≤ Xi S 904 41 ∧ Xi S 904 41 ≤ 6 := hH.c _ _
  have hc47 : 0 ≤ Xi S 904 47 ∧ Xi S 904 47 ≤ 8 := hH.c _ _
  have hc49 : 0 ≤ Xi S 904 49 ∧ Xi S 904 49 ≤ 12 := hH.c _ _
  have hc15 : 0 ≤ Xi S 904 15 ∧ Xi S 904 15 ≤ 300 := hH.c _ _
  have hc117 : 0 ≤ Xi S 904 117 ∧ Xi S 904 117 ≤ 480 := hH.c _ _
  have hc125 : 0 ≤ Xi S 904 125 ∧ Xi S 904 125 ≤ 192 := hH.c _ _
  have hc130 : 0 ≤ Xi S 904 130 ∧ Xi S 904 130 ≤ 24 := hH.c _ _
  have hl9 := lcn_le hH hLC
  intro w797
  refine l_aload_n rfl rfl ?_
  refine l_iload_n rfl rfl ?_
  have w798 : 0 ≤ Xi S 904 117 ∧ Xi S 904 117 ≤ 480 := hH.c _ _
  have w799 : 0 ≤ Xi S 904 15 ∧ Xi S 904 15 ≤ 300 := hH.c _ _
  have w800 : 0 ≤ Xi S 904 16 ∧ Xi S 904 16 ≤ 16 := hH.c _ _
  have w801 : 0 ≤ Xi S 904 19 ∧ Xi S 904 19 ≤ 24 := hH.c _ _
  have w802 : 0 ≤ Xi S 904 23 ∧ Xi S 904 23 ≤ 24 := hH.c _ _
  have w803 : -1 ≤ Xi S 904 60 ∧ Xi S 904 60 ≤ 23 := hH.c _ _
  refine l_callV rfl rfl rfl (t_mo_doSaying hH first ⟨by omega, by omega⟩ _) ?_
  rintro _ T35 ⟨hHT35, w805, rfl⟩
  have hFT35 : FR md_mo_does S T35 := FR.tr hF w805 rfl
  show Rl _ _ _ _ _ [] _ _
  refine l_goto rfl rfl ?_
  refine l_return rfl rfl ?_
  have w806 : Xi T35 904 117 = Xi S 904 117 := (show Xi T35 904 117 = Xi S 904 117 from w805.x _ _ rfl)
  have w807 : 0 ≤ Xi S 904 117 ∧ Xi S 904 117 ≤ 480 := hH.c _ _
  have w808 : Xi T35 904 15 = Xi S 904 15 := (show Xi T35 904 15 = Xi S 904 15 from w805.x _ _ rfl)
  have w809 : 0 ≤ Xi S 904 15 ∧ Xi S 904 15 ≤ 300 := hH.c _ _
  have w810 : Xi T35 904 16 = Xi S 904 16 := (show Xi T35 904 16 = Xi S 904 16 from w805.x _ _ rfl)
  have w811 : 0 ≤ Xi S 904 16 ∧ Xi S 904 16 ≤ 16 := hH.c _ _
  have w812 : Xi T35 904 19 = Xi S 904 19 := (show Xi T35 904 19 = Xi S 904 19 from w805.x _ _ rfl)
  have w813 : 0 ≤ Xi S 904 19 ∧ Xi S 904 19 ≤ 24 := hH.c _ _
  have w814 : Xi T35 904 23 = Xi S 904 23 := (show Xi T35 904 23 = Xi S 904 23 from w805.x _ _ rfl)
  have w815 : 0 ≤ Xi S 904 23 ∧ Xi S 904 23 ≤ 24 := hH.c _ _
  have w816 : Xi T35 904 60 = Xi S 904 60 := (show Xi T35 904 60 = Xi S 904 60 from w805.x _ _ rfl)
  have w817 : -1 ≤ Xi S 904 60 ∧ Xi S 904 60 ≤ 23 := hH.c _ _
  exact ⟨hHT35, hFT35, rfl, (⟨by first | assumption | exact (TXM_FR w805 rfl (by assumption : TXM S)), by first | assumption | exact (WYM_FR w805 rfl (by assumption : WYM S)), by first | assumption | exact (LXM_FR w805 rfl (by assumption : LXM S)), by first | assumption | exact (LCN_FR w805 rfl (by assumption : LCN S)), by first | assumption | exact (ABV_FR w805 rfl (by assumption : ABV S)), by first | assumption | exact (DCM_FR w805 rfl (by assumption : DCM S)), by first | assumption | exact (VTM_FR w805 rfl (by assumption : VTM S)), by first | assumption | exact (VCN_FR w805 rfl (by assumption : VCN S)), by first | assumption | exact (WYD_FR w805 rfl (by assumption : WYD S)), by first | assumption | exact (RDT_FR hH w805 rfl rfl rfl (by assumption : RDT S)) | exact rdt_df hRD (GR_FR w805 rfl GR.rf) df153 (by omega) (by omega) (by omega) (hFT35.x 904 125 rfl) (hFT35.x 904 130 rfl) (smk_q9 hFT35 rfl) dn153 | exact rdt_gr hRD (by first | assumption | exact (GR_FR w805 rfl GR.rf)) (by omega) (hFT35.x 904 125 rfl) (hFT35.x 904 130 rfl) (smk_q9 hFT35 rfl) (fun a x y => absurd y (by omega)), akr_gr hAK (by first | assumption | exact (GR_FR w805 rfl GR.rf)), by first | omega | (have g := (by first | assumption | exact (GR_FR w805 rfl GR.rf) : GR T35 S); have t := g.1; omega), by first | omega | (have g := (by first | assumption | exact (GR_FR w805 rfl GR.rf) : GR T35 S); have t := g.1; omega)⟩)⟩
set_option maxRecDepth 100000 in
set_option maxHeartbeats 1000000 in
theorem t_mo_does {S : sS} (hH : HI S) (n : Nat) (first : Int) (hfirst : 0 ≤ first ∧ first ≤ 5001) (hT : TK S n) (hv : RNV S n) (hK : TXK S n) (hI : TIX S) (hq : SNQ S n) (hk : DOK S) (h11 : Xi S 904 70 = 11 → -1 ≤ Xi S 904 78) (d : Nat) : Mt lay0 (d + 8) m_mo_does [.ref 904, iv first] S (Q_mo_does S n first) := by
  refine Mt_R rfl rfl ?_
  have C104 := c104_mo_does hH n first hfirst hT hv hK hI hq hk h11 d 
  have C145 := c145_mo_does hH n first hfirst hT hv hK hI hq hk h11 d 
  have C152 := c152_mo_does hH n first hfirst hT hv hK hI hq hk h11 d 
  have C159 := c159_mo_does hH n first hfirst hT hv hK hI hq hk h11 d 
  have C277 := c277_mo_does hH n first hfirst hT hv hK hI hq hk h11 d 
  have C284 := c284_mo_does hH n first hfirst hT hv hK hI hq hk h11 d 
  have C291 := c291_mo_does hH n first hfirst hT hv hK hI hq hk h11 d 
  have C300 := c300_mo_does hH n first hfirst hT hv hK hI hq hk h11 d 
  have C298 := c298_mo_does hH n first hfirst hT hv hK hI hq hk h11 d 
  have C354 := c354_mo_does hH n first hfirst hT hv hK hI hq hk h11 d 
  have C361 := c361_mo_does hH n first hfirst hT hv hK hI hq hk h11 d 
  have C368 := c368_mo_does hH n first hfirst hT hv hK hI hq hk h11 d 
  have C375 := c375_mo_does hH n first hfirst hT hv hK hI hq hk h11 d 
  have C406 := c406_mo_does hH n first hfirst hT hv hK hI hq hk h11 d 
  have C382 := c382_mo_does hH n first hfirst hT hv hK hI hq hk h11 d 
  have C426 := c426_mo_does hH n first hfirst hT hv hK hI hq hk h11 d 
  have C504 := c504_mo_does hH n first hfirst hT hv hK hI hq hk h11 d 
  have hF : FR md_mo_does S S := FR.rf
  have w1 : 0 ≤ Xi S 904 117 ∧ Xi S 904 117 ≤ 480 := hH.c _ _
  have w2 : 0 ≤ Xi S 904 15 ∧ Xi S 904 15 ≤ 300 := hH.c _ _
  have w3 : 0 ≤ Xi S 904 16 ∧ Xi S 904 16 ≤ 16 := hH.c _ _
  have w4 : 0 ≤ Xi S 904 18 ∧ Xi S 904 18 ≤ 8 := hH.c _ _
  have w5 : 0 ≤ Xi S 904 19 ∧ Xi S 904 19 ≤ 24 := hH.c _ _
  have w6 : 0 ≤ Xi S 904 23 ∧ Xi S 904 23 ≤ 24 := hH.c _ _
  have w7 : 0 ≤ Xi S 904 30 ∧ Xi S 904 30 ≤ 64 := hH.c _ _
  have w8 : 0 ≤ Xi S 904 32 ∧ Xi S 904 32 ≤ 12 := hH.c _ _
  have w9 : 0 ≤ Xi S 904 41 ∧ Xi S 904 41 ≤ 6 := hH.c _ _
  have w10 : 0 ≤ Xi S 904 47 ∧ Xi S 904 47 ≤ 8 := hH.c _ _
  have w11 : 0 ≤ Xi S 904 49 ∧ Xi S 904 49 ≤ 12 := hH.c _ _
  have w12 : -1 ≤ Xi S 904 60 ∧ Xi S 904 60 ≤ 23 := hH.c _ _
  have w13 : 0 ≤ Xi S 904 69 ∧ Xi S 904 69 ≤ 2600 := hH.c _ _
  have w14 : 0 ≤ Xi S 904 70 ∧ Xi S 904 70 ≤ 20 := hH.c _ _
  have w15 : 0 ≤ Xi S 904 71 ∧ Xi S 904 71 ≤ 2600 := hH.c _ _
  have w16 : 0 ≤ Xi S 904 72 ∧ Xi S 904 72 ≤ 2600 := hH.c _ _
  have w17 : -2 ≤ Xi S 904 78 ∧ Xi S 904 78 ≤ 5010 := hH.c _ _
  have hX : TXM S := hI.1
  have hW : WYM S := hI.2.1
  have hM : LXM S := hI.2.2.1
  have hLC : LCN S := hI.2.2.2.1
  have hB : ABV S := hI.2.2.2.2.1
  have hC : DCM S := hI.2.2.2.2.2.1
  have hV : VTM S := hI.2.2.2.2.2.2.1
  have hVC : VCN S := hI.2.2.2.2.2.2.2.1
  have hWD : WYD S := hI.2.2.2.2.2.2.2.2.1
  have hRD : RDT S := hI.2.2.2.2.2.2.2.2.2.1
  have hAK : AKR S := hI.2.2.2.2.2.2.2.2.2.2.1
  have hd6 : Xi S 904 60 < Xi S 904 19 := hI.2.2.2.2.2.2.2.2.2.2.2.1
  have h16 : 2 ≤ Xi S 904 16 := hI.2.2.2.2.2.2.2.2.2.2.2.2
  have h32 : 1 ≤ Xi S 904 32 := hAK.2.2.2.2.2.2.2
  have hn5 := hT.1
  have hc69 : 0 ≤ Xi S 904 69 ∧ Xi S 904 69 ≤ 2600 := hH.c _ _
  have hc70 : 0 ≤ Xi S 904 70 ∧ Xi S 904 70 ≤ 20 := hH.c _ _
  have hc16 : 0 ≤ Xi S 904 16 ∧ Xi S 904 16 ≤ 16 := hH.c _ _
  have hc18 : 0 ≤ Xi S 904 18 ∧ Xi S 904 18 ≤ 8 := hH.c _ _
  have hc19 : 0 ≤ Xi S 904 19 ∧ Xi S 904 19 ≤ 24 := hH.c _ _
  have hc23 : 0 ≤ Xi S 904 23 ∧ Xi S 904 23 ≤ 24 := hH.c _ _
  have hc30 : 0 ≤ Xi S 904 30 ∧ Xi S 904 30 ≤ 64 := hH.c _ _
  have hc32 : 0 ≤ Xi S 904 32 ∧ Xi S 904 32 ≤ 12 := hH.c _ _
  have hc41 : 0 ≤ Xi S 904 41 ∧ Xi S 904 41 ≤ 6 := hH.c _ _
  have hc47 : 0 ≤ Xi S 904 47 ∧ Xi S 904 47 ≤ 8 := hH.c _ _
  have hc49 : 0 ≤ Xi S 904 49 ∧ Xi S 904 49 ≤ 12 := hH.c _ _
  have hc15 : 0 ≤ Xi S 904 15 ∧ Xi S 904 15 ≤ 300 := hH.c _ _
  have hc117 : 0 ≤ Xi S 904 117 ∧ Xi S 904 117 ≤ 480 := hH.c _ _
  have hc125 : 0 ≤ Xi S 904 125 ∧ Xi S 904 125 ≤ 192 := hH.c _ _
  have hc130 : 0 ≤ Xi S 904 130 ∧ Xi S 904 130 ≤ 24 := hH.c _ _
  have hl9 := lcn_le hH hLC
  refine l_aload_n rfl rfl ?_
  refine l_gfi rfl rfl rfl rfl rfl ?_
  refine l_tsw rfl rfl rfl rfl (by unfold rg; omega) (fun w818 => ?_) (fun ii tt hii w818 => ?_)
  · refine l_return rfl rfl ?_
    have w819 : 0 ≤ Xi S 904 117 ∧ Xi S 904 117 ≤ 480 := hH.c _ _
    have w820 : 0 ≤ Xi S 904 15 ∧ Xi S 904 15 ≤ 300 := hH.c _ _
    have w821 : 0 ≤ Xi S 904 16 ∧ Xi S 904 16 ≤ 16 := hH.c _ _
    have w822 : 0 ≤ Xi S 904 19 ∧ Xi S 904 19 ≤ 24 := hH.c _ _
    have w823 : 0 ≤ Xi S 904 23 ∧ Xi S 904 23 ≤ 24 := hH.c _ _
    have w824 : -1 ≤ Xi S 904 60 ∧ Xi S 904 60 ≤ 23 := hH.c _ _
    exact ⟨hH, hF, rfl, (⟨by first | assumption | exact (by assumption : TXM S), by first | assumption | exact (by assumption : WYM S), by first | assumption | exact (by assumption : LXM S), by first | assumption | exact (by assumption : LCN S), by first | assumption | exact (by assumption : ABV S), by first | assumption | exact (by assumption : DCM S), by first | assumption | exact (by assumption : VTM S), by first | assumption | exact (by assumption : VCN S), by first | assumption | exact (by assumption : WYD S), by first | assumption | exact (by assumption : RDT S) | exact rdt_df hRD GR.rf df153 (by omega) (by omega) (by omega) (hF.x 904 125 rfl) (hF.x 904 130 rfl) (smk_q9 hF rfl) dn153 | exact rdt_gr hRD (by first | assumption | exact GR.rf) (by omega) (hF.x 904 125 rfl) (hF.x 904 130 rfl) (smk_q9 hF rfl) (fun a x y => absurd y (by omega)), akr_gr hAK (by first | assumption | exact GR.rf), by first | omega | (have g := (by first | assumption | exact GR.rf : GR S S); have t := g.1; omega), by first | omega | (have g := (by first | assumption | exact GR.rf : GR S S); have t := g.1; omega)⟩)⟩
  · match ii, hii with
    | 0, hii =>
      cases hii
      have w825 : (Xi S 904 70) = 0 := by simpa using w818
      have w826 : 0 ≤ Xi S 904 117 ∧ Xi S 904 117 ≤ 480 := hH.c _ _
      have w827 : 0 ≤ Xi S 904 15 ∧ Xi S 904 15 ≤ 300 := hH.c _ _
      have w828 : 0 ≤ Xi S 904 16 ∧ Xi S 904 16 ≤ 16 := hH.c _ _
      have w829 : 0 ≤ Xi S 904 19 ∧ Xi S 904 19 ≤ 24 := hH.c _ _
      have w830 : 0 ≤ Xi S 904 23 ∧ Xi S 904 23 ≤ 24 := hH.c _ _
      have w831 : -1 ≤ Xi S 904 60 ∧ Xi S 904 60 ≤ 23 := hH.c _ _
      exact Rl_weak (C104  (by omega)) (And.intro rfl (And.intro rfl (True.intro)))
    | 1, hii =>
      cases hii
      have w832 : (Xi S 904 70) = 1 := by simpa using w818
      have w833 : 0 ≤ Xi S 904 117 ∧ Xi S 904 117 ≤ 480 := hH.c _ _
      have w834 : 0 ≤ Xi S 904 15 ∧ Xi S 904 15 ≤ 300 := hH.c _ _
      have w835 : 0 ≤ Xi S 904 16 ∧ Xi S 904 16 ≤ 16 := hH.c _ _
      have w836 : 0 ≤ Xi S 904 19 ∧ Xi S 904 19 ≤ 24 := hH.c _ _
      have w837 : 0 ≤ Xi S 904 23 ∧ Xi S 904 23 ≤ 24 := hH.c _ _
      have w838 : -1 ≤ Xi S 904 60 ∧ Xi S 904 60 ≤ 23 := hH.c _ _
      exact Rl_weak (C145  (by omega)) (And.intro rfl (True.intro))
    | 2, hii =>
      cases hii
      have w839 : (Xi S 904 70) = 2 := by simpa using w818
      have w840 : 0 ≤ Xi S 904 117 ∧ Xi S 904 117 ≤ 480 := hH.c _ _
      have w841 : 0 ≤ Xi S 904 15 ∧ Xi S 904 15 ≤ 300 := hH.c _ _
      have w842 : 0 ≤ Xi S 904 16 ∧ Xi S 904 16 ≤ 16 := hH.c _ _
      have w843 : 0 ≤ Xi S 904 19 ∧ Xi S 904 19 ≤ 24 := hH.c _ _
      have w844 : 0 ≤ Xi S 904 23 ∧ Xi S 904 23 ≤ 24 := hH.c _ _
      have w845 : -1 ≤ Xi S 904 60 ∧ Xi S 904 60 ≤ 23 := hH.c _ _
      exact Rl_weak (C152  (by omega)) (And.intro rfl (True.intro))
    | 3, hii =>
      cases hii
      have w846 : (Xi S 904 70) = 3 := by simpa using w818
      refine l_return rfl rfl ?_
      have w847 : 0 ≤ Xi S 904 117 ∧ Xi S 904 117 ≤ 480 := hH.c _ _
      have w848 : 0 ≤ Xi S 904 15 ∧ Xi S 904 15 ≤ 300 := hH.c _ _
      have w849 : 0 ≤ Xi S 904 16 ∧ Xi S 904 16 ≤ 16 := hH.c _ _
      have w850 : 0 ≤ Xi S 904 19 ∧ Xi S 904 19 ≤ 24 := hH.c _ _
      have w851 : 0 ≤ Xi S 904 23 ∧ Xi S 904 23 ≤ 24 := hH.c _ _
      have w852 : -1 ≤ Xi S 904 60 ∧ Xi S 904 60 ≤ 23 := hH.c _ _
      exact ⟨hH, hF, rfl, (⟨by first | assumption | exact (by assumption : TXM S), by first | assumption | exact (by assumption : WYM S), by first | assumption | exact (by assumption : LXM S), by first | assumption | exact (by assumption : LCN S), by first | assumption | exact (by assumption : ABV S), by first | assumption | exact (by assumption : DCM S), by first | assumption | exact (by assumption : VTM S), by first | assumption | exact (by assumption : VCN S), by first | assumption | exact (by assumption : WYD S), by first | assumption | exact (by assumption : RDT S) | exact rdt_df hRD GR.rf df153 (by omega) (by omega) (by omega) (hF.x 904 125 rfl) (hF.x 904 130 rfl) (smk_q9 hF rfl) dn153 | exact rdt_gr hRD (by first | assumption | exact GR.rf) (by omega) (hF.x 904 125 rfl) (hF.x 904 130 rfl) (smk_q9 hF rfl) (fun a x y => absurd y (by omega)), akr_gr hAK (by first | assumption | exact GR.rf), by first | omega | (have g := (by first | assumption | exact GR.rf : GR S S); have t := g.1; omega), by first | omega | (have g := (by first | assumption | exact GR.rf : GR S S); have t := g.1; omega)⟩)⟩
    | 4, hii =>
      cases hii
      have w853 : (Xi S 904 70) = 4 := by simpa using w818
      refine l_return rfl rfl ?_
      have w854 : 0 ≤ Xi S 904 117 ∧ Xi S 904 117 ≤ 480 := hH.c _ _
      have w855 : 0 ≤ Xi S 904 15 ∧ Xi S 904 15 ≤ 300 := hH.c _ _
      have w856 : 0 ≤ Xi S 904 16 ∧ Xi S 904 16 ≤ 16 := hH.c _ _
      have w857 : 0 ≤ Xi S 904 19 ∧ Xi S 904 19 ≤ 24 := hH.c _ _
      have w858 : 0 ≤ Xi S 904 23 ∧ Xi S 904 23 ≤ 24 := hH.c _ _
      have w859 : -1 ≤ Xi S 904 60 ∧ Xi S 904 60 ≤ 23 := hH.c _ _
      exact ⟨hH, hF, rfl, (⟨by first | assumption | exact (by assumption : TXM S), by first | assumption | exact (by assumption : WYM S), by first | assumption | exact (by assumption : LXM S), by first | assumption | exact (by assumption : LCN S), by first | assumption | exact (by assumption : ABV S), by first | assumption | exact (by assumption : DCM S), by first | assumption | exact (by assumption : VTM S), by first | assumption | exact (by assumption : VCN S), by first | assumption | exact (by assumption : WYD S), by first | assumption | exact (by assumption : RDT S) | exact rdt_df hRD GR.rf df153 (by omega) (by omega) (by omega) (hF.x 904 125 rfl) (hF.x 904 130 rfl) (smk_q9 hF rfl) dn153 | exact rdt_gr hRD (by first | assumption | exact GR.rf) (by omega) (hF.x 904 125 rfl) (hF.x 904 130 rfl) (smk_q9 hF rfl) (fun a x y => absurd y (by omega)), akr_gr hAK (by first | assumption | exact GR.rf), by first | omega | (have g := (by first | assumption | exact GR.rf : GR S S); have t := g.1; omega), by first | omega | (have g := (by first | assumption | exact GR.rf : GR S S); have t := g.1; omega)⟩)⟩
    | 5, hii =>
      cases hii
      have w860 : (Xi S 904 70) = 5 := by simpa using w818
      refine l_return rfl rfl ?_
      have w861 : 0 ≤ Xi S 904 117 ∧ Xi S 904 117 ≤ 480 := hH.c _ _
      have w862 : 0 ≤ Xi S 904 15 ∧ Xi S 904 15 ≤ 300 := hH.c _ _
      have w863 : 0 ≤ Xi S 904 16 ∧ Xi S 904 16 ≤ 16 := hH.c _ _
      have w864 : 0 ≤ Xi S 904 19 ∧ Xi S 904 19 ≤ 24 := hH.c _ _
      have w865 : 0 ≤ Xi S 904 23 ∧ Xi S 904 23 ≤ 24 := hH.c _ _
      have w866 : -1 ≤ Xi S 904 60 ∧ Xi S 904 60 ≤ 23 := hH.c _ _
      exact ⟨hH, hF, rfl, (⟨by first | assumption | exact (by assumption : TXM S), by first | assumption | exact (by assumption : WYM S), by first | assumption | exact (by assumption : LXM S), by first | assumption | exact (by assumption : LCN S), by first | assumption | exact (by assumption : ABV S), by first | assumption | exact (by assumption : DCM S), by first | assumption | exact (by assumption : VTM S), by first | assumption | exact (by assumption : VCN S), by first | assumption | exact (by assumption : WYD S), by first | assumption | exact (by assumption : RDT S) | exact rdt_df hRD GR.rf df153 (by omega) (by omega) (by omega) (hF.x 904 125 rfl) (hF.x 904 130 rfl) (smk_q9 hF rfl) dn153 | exact rdt_gr hRD (by first | assumption | exact GR.rf) (by omega) (hF.x 904 125 rfl) (hF.x 904 130 rfl) (smk_q9 hF rfl) (fun a x y => absurd y (by omega)), akr_gr hAK (by first | assumption | exact GR.rf), by first | omega | (have g := (by first | assumption | exact GR.rf : GR S S); have t := g.1; omega), by first | omega | (have g := (by first | assumption | exact GR.rf : GR S S); have t := g.1; omega)⟩)⟩
    | 6, hii =>
      cases hii
      have w867 : (Xi S 904 70) = 6 := by simpa using w818
      refine l_return rfl rfl ?_
      have w868 : 0 ≤ Xi S 904 117 ∧ Xi S 904 117 ≤ 480 := hH.c _ _
      have w869 : 0 ≤ Xi S 904 15 ∧ Xi S 904 15 ≤ 300 := hH.c _ _
      have w870 : 0 ≤ Xi S 904 16 ∧ Xi S 904 16 ≤ 16 := hH.c _ _
      have w871 : 0 ≤ Xi S 904 19 ∧ Xi S 904 19 ≤ 24 := hH.c _ _
      have w872 : 0 ≤ Xi S 904 23 ∧ Xi S 904 23 ≤ 24 := hH.c _ _
      have w873 : -1 ≤ Xi S 904 60 ∧ Xi S 904 60 ≤ 23 := hH.c _ _
      exact ⟨hH, hF, rfl, (⟨by first | assumption | exact (by assumption : TXM S), by first | assumption | exact (by assumption : WYM S), by first | assumption | exact (by assumption : LXM S), by first | assumption | exact (by assumption : LCN S), by first | assumption | exact (by assumption : ABV S), by first | assumption | exact (by assumption : DCM S), by first | assumption | exact (by assumption : VTM S), by first | assumption | exact (by assumption : VCN S), by first | assumption | exact (by assumption : WYD S), by first | assumption | exact (by assumption : RDT S) | exact rdt_df hRD GR.rf df153 (by omega) (by omega) (by omega) (hF.x 904 125 rfl) (hF.x 904 130 rfl) (smk_q9 hF rfl) dn153 | exact rdt_gr hRD (by first | assumption | exact GR.rf) (by omega) (hF.x 904 125 rfl) (hF.x 904 130 rfl) (smk_q9 hF rfl) (fun a x y => absurd y (by omega)), akr_gr hAK (by first | assumption | exact GR.rf), by first | omega | (have g := (by first | assumption | exact GR.rf : GR S S); have t := g.1; omega), by first | omega | (have g := (by first | assumption | exact GR.rf : GR S S); have t := g.1; omega)⟩)⟩
    | 7, hii =>
      cases hii
      have w874 : (Xi S 904 70) = 7 := by simpa using w818
      have w875 : 0 ≤ Xi S 904 117 ∧ Xi S 904 117 ≤ 480 := hH.c _ _
      have w876 : 0 ≤ Xi S 904 15 ∧ Xi S 904 15 ≤ 300 := hH.c _ _
      have w877 : 0 ≤ Xi S 904 16 ∧ Xi S 904 16 ≤ 16 := hH.c _ _
      have w878 : 0 ≤ Xi S 904 19 ∧ Xi S 904 19 ≤ 24 := hH.c _ _
      have w879 : 0 ≤ Xi S 904 23 ∧ Xi S 904 23 ≤ 24 := hH.c _ _
      have w880 : -1 ≤ Xi S 904 60 ∧ Xi S 904 60 ≤ 23 := hH.c _ _
      exact Rl_weak (C159  (by omega)) (And.intro rfl (True.intro))
    | 8, hii =>
      cases hii
      have w881 : (Xi S 904 70) = 8 := by simpa using w818
      have w882 : 0 ≤ Xi S 904 117 ∧ Xi S 904 117 ≤ 480 := hH.c _ _
      have w883 : 0 ≤ Xi S 904 15 ∧ Xi S 904 15 ≤ 300 := hH.c _ _
      have w884 : 0 ≤ Xi S 904 16 ∧ Xi S 904 16 ≤ 16 := hH.c _ _
      have w885 : 0 ≤ Xi S 904 19 ∧ Xi S 904 19 ≤ 24 := hH.c _ _
      have w886 : 0 ≤ Xi S 904 23 ∧ Xi S 904 23 ≤ 24 := hH.c _ _
      have w887 : -1 ≤ Xi S 904 60 ∧ Xi S 904 60 ≤ 23 := hH.c _ _
      exact Rl_weak (C277  (by omega)) (And.intro rfl (True.intro))
    | 9, hii =>
      cases hii
      have w888 : (Xi S 904 70) = 9 := by simpa using w818
      have w889 : 0 ≤ Xi S 904 117 ∧ Xi S 904 117 ≤ 480 := hH.c _ _
      have w890 : 0 ≤ Xi S 904 15 ∧ Xi S 904 15 ≤ 300 := hH.c _ _
      have w891 : 0 ≤ Xi S 904 16 ∧ Xi S 904 16 ≤ 16 := hH.c _ _
      have w892 : 0 ≤ Xi S 904 19 ∧ Xi S 904 19 ≤ 24 := hH.c _ _
      have w893 : 0 ≤ Xi S 904 23 ∧ Xi S 904 23 ≤ 24 := hH.c _ _
      have w894 : -1 ≤ Xi S 904 60 ∧ Xi S 904 60 ≤ 23 := hH.c _ _
      exact Rl_weak (C284  (by omega)) (And.intro rfl (True.intro))
    | 10, hii =>
      cases hii
      have w895 : (Xi S 904 70) = 10 := by simpa using w818
      have w896 : 0 ≤ Xi S 904 117 ∧ Xi S 904 117 ≤ 480 := hH.c _ _
      have w897 : 0 ≤ Xi S 904 15 ∧ Xi S 904 15 ≤ 300 := hH.c _ _
      have w898 : 0 ≤ Xi S 904 16 ∧ Xi S 904 16 ≤ 16 := hH.c _ _
      have w899 : 0 ≤ Xi S 904 19 ∧ Xi S 904 19 ≤ 24 := hH.c _ _
      have w900 : 0 ≤ Xi S 904 23 ∧ Xi S 904 23 ≤ 24 := hH.c _ _
      have w901 : -1 ≤ Xi S 904 60 ∧ Xi S 904 60 ≤ 23 := hH.c _ _
      exact Rl_weak (C291  (by omega)) (And.intro rfl (True.intro))
    | 11, hii =>
      cases hii
      have w902 : (Xi S 904 70) = 11 := by simpa using w818
      have w903 : 0 ≤ Xi S 904 117 ∧ Xi S 904 117 ≤ 480 := hH.c _ _
      have w904 : 0 ≤ Xi S 904 15 ∧ Xi S 904 15 ≤ 300 := hH.c _ _
      have w905 : 0 ≤ Xi S 904 16 ∧ Xi S 904 16 ≤ 16 := hH.c _ _
      have w906 : 0 ≤ Xi S 904 19 ∧ Xi S 904 19 ≤ 24 := hH.c _ _
      have w907 : 0 ≤ Xi S 904 23 ∧ Xi S 904 23 ≤ 24 := hH.c _ _
      have w908 : -1 ≤ Xi S 904 60 ∧ Xi S 904 60 ≤ 23 := hH.c _ _
      exact Rl_weak (C298  (by omega)) (And.intro rfl (True.intro))
    | 12, hii =>
      cases hii
      have w909 : (Xi S 904 70) = 12 := by simpa using w818
      have w910 : 0 ≤ Xi S 904 117 ∧ Xi S 904 117 ≤ 480 := hH.c _ _
      have w911 : 0 ≤ Xi S 904 15 ∧ Xi S 904 15 ≤ 300 := hH.c _ _
      have w912 : 0 ≤ Xi S 904 16 ∧ Xi S 904 16 ≤ 16 := hH.c _ _
      have w913 : 0 ≤ Xi S 904 19 ∧ Xi S 904 19 ≤ 24 := hH.c _ _
      have w914 : 0 ≤ Xi S 904 23 ∧ Xi S 904 23 ≤ 24 := hH.c _ _
      have w915 : -1 ≤ Xi S 904 60 ∧ Xi S 904 60 ≤ 23 := hH.c _ _
      exact Rl_weak (C354  (by omega)) (And.intro rfl (True.intro))
    | 13, hii =>
      cases hii
      have w916 : (Xi S 904 70) = 13 := by simpa using w818
      have w917 : 0 ≤ Xi S 904 117 ∧ Xi S 904 117 ≤ 480 := hH.c _ _
      have w918 : 0 ≤ Xi S 904 15 ∧ Xi S 904 15 ≤ 300 := hH.c _ _
      have w919 : 0 ≤ Xi S 904 16 ∧ Xi S 904 16 ≤ 16 := hH.c _ _
      have w920 : 0 ≤ Xi S 904 19 ∧ Xi S 904 19 ≤ 24 := hH.c _ _
      have w921 : 0 ≤ Xi S 904 23 ∧ Xi S 904 23 ≤ 24 := hH.c _ _
      have w922 : -1 ≤ Xi S 904 60 ∧ Xi S 904 60 ≤ 23 := hH.c _ _
      exact Rl_weak (C354  (by omega)) (And.intro rfl (True.intro))
    | 14, hii =>
      cases hii
      have w923 : (Xi S 904 70) = 14 := by simpa using w818
      have w924 : 0 ≤ Xi S 904 117 ∧ Xi S 904 117 ≤ 480 := hH.c _ _
      have w925 : 0 ≤ Xi S 904 15 ∧ Xi S 904 15 ≤ 300 := hH.c _ _
      have w926 : 0 ≤ Xi S 904 16 ∧ Xi S 904 16 ≤ 16 := hH.c _ _
      have w927 : 0 ≤ Xi S 904 19 ∧ Xi S 904 19 ≤ 24 := hH.c _ _
      have w928 : 0 ≤ Xi S 904 23 ∧ Xi S 904 23 ≤ 24 := hH.c _ _
      have w929 : -1 ≤ Xi S 904 60 ∧ Xi S 904 60 ≤ 23 := hH.c _ _
      exact Rl_weak (C361  (by omega)) (And.intro rfl (True.intro))
    | 15, hii =>
      cases hii
      have w930 : (Xi S 904 70) = 15 := by simpa using w818
      have w931 : 0 ≤ Xi S 904 117 ∧ Xi S 904 117 ≤ 480 := hH.c _ _
      have w932 : 0 ≤ Xi S 904 15 ∧ Xi S 904 15 ≤ 300 := hH.c _ _
      have w933 : 0 ≤ Xi S 904 16 ∧ Xi S 904 16 ≤ 16 := hH.c _ _
      have w934 : 0 ≤ Xi S 904 19 ∧ Xi S 904 19 ≤ 24 := hH.c _ _
      have w935 : 0 ≤ Xi S 904 23 ∧ Xi S 904 23 ≤ 24 := hH.c _ _
      have w936 : -1 ≤ Xi S 904 60 ∧ Xi S 904 60 ≤ 23 := hH.c _ _
      exact Rl_weak (C368  (by omega)) (And.intro rfl (True.intro))
    | 16, hii =>
      cases hii
      have w937 : (Xi S 904 70) = 16 := by simpa using w818
      have w938 : 0 ≤ Xi S 904 117 ∧ Xi S 904 117 ≤ 480 := hH.c _ _
      have w939 : 0 ≤ Xi S 904 15 ∧ Xi S 904 15 ≤ 300 := hH.c _ _
      have w940 : 0 ≤ Xi S 904 16 ∧ Xi S 904 16 ≤ 16 := hH.c _ _
      have w941 : 0 ≤ Xi S 904 19 ∧ Xi S 904 19 ≤ 24 := hH.c _ _
      have w942 : 0 ≤ Xi S 904 23 ∧ Xi S 904 23 ≤ 24 := hH.c _ _
      have w943 : -1 ≤ Xi S 904 60 ∧ Xi S 904 60 ≤ 23 := hH.c _ _
      exact Rl_weak (C368  (by omega)) (And.intro rfl (True.intro))
    | 17, hii =>
      cases hii
      have w944 : (Xi S 904 70) = 17 := by simpa using w818
      have w945 : 0 ≤ Xi S 904 117 ∧ Xi S 904 117 ≤ 480 := hH.c _ _
      have w946 : 0 ≤ Xi S 904 15 ∧ Xi S 904 15 ≤ 300 := hH.c _ _
      have w947 : 0 ≤ Xi S 904 16 ∧ Xi S 904 16 ≤ 16 := hH.c _ _
      have w948 : 0 ≤ Xi S 904 19 ∧ Xi S 904 19 ≤ 24 := hH.c _ _
      have w949 : 0 ≤ Xi S 904 23 ∧ Xi S 904 23 ≤ 24 := hH.c _ _
      have w950 : -1 ≤ Xi S 904 60 ∧ Xi S 904 60 ≤ 23 := hH.c _ _
      exact Rl_weak (C375  (by omega)) (And.intro rfl (True.intro))
    | 18, hii =>
      cases hii
      have w951 : (Xi S 904 70) = 18 := by simpa using w818
      have w952 : 0 ≤ Xi S 904 117 ∧ Xi S 904 117 ≤ 480 := hH.c _ _
      have w953 : 0 ≤ Xi S 904 15 ∧ Xi S 904 15 ≤ 300 := hH.c _ _
      have w954 : 0 ≤ Xi S 904 16 ∧ Xi S 904 16 ≤ 16 := hH.c _ _
      have w955 : 0 ≤ Xi S 904 19 ∧ Xi S 904 19 ≤ 24 := hH.c _ _
      have w956 : 0 ≤ Xi S 904 23 ∧ Xi S 904 23 ≤ 24 := hH.c _ _
      have w957 : -1 ≤ Xi S 904 60 ∧ Xi S 904 60 ≤ 23 := hH.c _ _
      exact Rl_weak (C382  (by omega)) (And.intro rfl (True.intro))
    | 19, hii =>
      cases hii
      have w958 : (Xi S 904 70) = 19 := by simpa using w818
      have w959 : 0 ≤ Xi S 904 117 ∧ Xi S 904 117 ≤ 480 := hH.c _ _
      have w960 : 0 ≤ Xi S 904 15 ∧ Xi S 904 15 ≤ 300 := hH.c _ _
      have w961 : 0 ≤ Xi S 904 16 ∧ Xi S 904 16 ≤ 16 := hH.c _ _
      have w962 : 0 ≤ Xi S 904 19 ∧ Xi S 904 19 ≤ 24 := hH.c _ _
      have w963 : 0 ≤ Xi S 904 23 ∧ Xi S 904 23 ≤ 24 := hH.c _ _
      have w964 : -1 ≤ Xi S 904 60 ∧ Xi S 904 60 ≤ 23 := hH.c _ _
      exact Rl_weak (C426  (by omega)) (And.intro rfl (True.intro))
    | 20, hii =>
      cases hii
      have w965 : (Xi S 904 70) = 20 := by simpa using w818
      have w966 : 0 ≤ Xi S 904 117 ∧ Xi S 904 117 ≤ 480 := hH.c _ _
      have w967 : 0 ≤ Xi S 904 15 ∧ Xi S 904 15 ≤ 300 := hH.c _ _
      have w968 : 0 ≤ Xi S 904 16 ∧ Xi S 904 16 ≤ 16 := hH.c _ _
      have w969 : 0 ≤ Xi S 904 19 ∧ Xi S 904 19 ≤ 24 := hH.c _ _
      have w970 : 0 ≤ Xi S 904 23 ∧ Xi S 904 23 ≤ 24 := hH.c _ _
      have w971 : -1 ≤ Xi S 904 60 ∧ Xi S 904 60 ≤ 23 := hH.c _ _
      exact Rl_weak (C504  (by omega)) (And.intro rfl (And.intro rfl (True.intro)))
    | n + 21, hii => exact absurd hii (by simp)

