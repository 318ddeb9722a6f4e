/-! SAFETY of methods: printed by wip/safe (vc.py, decl.py) -/
set_option maxRecDepth 100000 in
set_option maxHeartbeats 8000000 in
theorem t_mo_ruleMeant {S : sS} (hH : HI S) (n : Nat) (first : Int) (hfirst : 0 ≤ first ∧ first ≤ 5001) (hT : TK S n) (hv : RNV S n) (hM : LXM S) (hB : ABV S) (hC : DCM S) (hK : TXK S n) (hX : TXM S) (ha : Xi S 904 70 ≠ 6 → Xi S 904 102 < Xi S 904 69 ∧ Xi S 904 103 < Xi S 904 69) (htv : TVA S n (Xi S 904 94)) (h94 : Xi S 904 94 ≤ 1668) (hpv : PVA S n (Xi S 904 98)) (hb6 : Xi S 904 94 + Xi S 904 98 ≤ 1666) (hR : RULM S) (hBX : TBX S) (h36 : 3 ≤ Xi S 904 70 ∧ Xi S 904 70 ≤ 6) (hPF : PF S) (d : Nat) : Mt lay0 (d + 12) m_mo_ruleMeant [.ref 904, iv first] S (Q_mo_ruleMeant S n first) := by
  refine Mt_R rfl rfl ?_
  have C58 := c58_mo_ruleMeant hH n first hfirst hT hv hM hB hC hK hX ha htv h94 hpv hb6 hR hBX h36 hPF d 
  have hF : FR md_mo_ruleMeant S S := FR.rf
  have w1 : 0 ≤ Xi S 904 102 ∧ Xi S 904 102 ≤ 2600 := hH.c _ _
  have w2 : -1 ≤ Xi S 904 103 ∧ Xi S 904 103 ≤ 2600 := hH.c _ _
  have w3 : 0 ≤ Xi S 904 106 ∧ Xi S 904 106 ≤ 9 := hH.c _ _
  have w4 : -1 ≤ Xi S 904 115 ∧ Xi S 904 115 ≤ 15 := hH.c _ _
  have w5 : -1 ≤ Xi S 904 116 ∧ Xi S 904 116 ≤ 15 := hH.c _ _
  have w6 : 0 ≤ Xi S 904 117 ∧ Xi S 904 117 ≤ 480 := hH.c _ _
  have w7 : 0 ≤ Xi S 904 125 ∧ Xi S 904 125 ≤ 192 := hH.c _ _
  have w8 : 0 ≤ Xi S 904 130 ∧ Xi S 904 130 ≤ 24 := hH.c _ _
  have w9 : 0 ≤ Xi S 904 23 ∧ Xi S 904 23 ≤ 24 := hH.c _ _
  have w10 : 0 ≤ Xi S 904 69 ∧ Xi S 904 69 ≤ 2600 := hH.c _ _
  have w11 : 0 ≤ Xi S 904 70 ∧ Xi S 904 70 ≤ 20 := hH.c _ _
  have w12 : 0 ≤ Xi S 904 93 ∧ Xi S 904 93 ≤ 1700 := hH.c _ _
  have w13 : 0 ≤ Xi S 904 94 ∧ Xi S 904 94 ≤ 1700 := hH.c _ _
  have w14 : 0 ≤ Xi S 904 98 ∧ Xi S 904 98 ≤ 1700 := hH.c _ _
  have hn5 := hT.1
  have hq0 : KQL S S (Xi S 904 117) := KQL.rf
  have hh0 : KHL S S (Xi S 904 125) := KHL.rf
  have h780 : K78 S S := K78.rf
  have hc117 : 0 ≤ Xi S 904 117 ∧ Xi S 904 117 ≤ 480 := hH.c _ _
  have hc125 : 0 ≤ Xi S 904 125 ∧ Xi S 904 125 ≤ 192 := hH.c _ _
  have hc130 : 0 ≤ Xi S 904 130 ∧ Xi S 904 130 ≤ 24 := hH.c _ _
  have hc93 : 0 ≤ Xi S 904 93 ∧ Xi S 904 93 ≤ 1700 := hH.c _ _
  have hc94 : 0 ≤ Xi S 904 94 ∧ Xi S 904 94 ≤ 1700 := hH.c _ _
  have hc98 : 0 ≤ Xi S 904 98 ∧ Xi S 904 98 ≤ 1700 := hH.c _ _
  have hb1 : Xi S 904 117 ≤ 14 * Xi S 904 130 + 6 * Xi S 904 23 := hBX.1.1
  have hb2 : Xi S 904 125 ≤ 8 * Xi S 904 130 := hBX.1.2
  have hc23 : 0 ≤ Xi S 904 23 ∧ Xi S 904 23 ≤ 24 := hH.c _ _
  refine l_aload_n rfl rfl ?_
  refine l_aload_n rfl rfl ?_
  refine l_gfi rfl rfl rfl rfl rfl ?_
  refine l_bipush rfl rfl ?_
  refine l_icmp_ge rfl rfl (by unfold rg; omega) (by unfold rg; omega) (fun w396 => ?_) (fun w397 => ?_)
  · refine l_iconst rfl ?_
    refine l_bipush rfl rfl ?_
    refine l_iload_n rfl rfl ?_
    have w398 : 0 ≤ Xi S 904 102 ∧ Xi S 904 102 ≤ 2600 := hH.c _ _
    have w399 : -1 ≤ Xi S 904 103 ∧ Xi S 904 103 ≤ 2600 := hH.c _ _
    have w400 : 0 ≤ Xi S 904 106 ∧ Xi S 904 106 ≤ 9 := hH.c _ _
    have w401 : -1 ≤ Xi S 904 115 ∧ Xi S 904 115 ≤ 15 := hH.c _ _
    have w402 : 0 ≤ Xi S 904 117 ∧ Xi S 904 117 ≤ 480 := hH.c _ _
    have w403 : 0 ≤ Xi S 904 125 ∧ Xi S 904 125 ≤ 192 := hH.c _ _
    have w404 : 0 ≤ Xi S 904 130 ∧ Xi S 904 130 ≤ 24 := hH.c _ _
    have w405 : 0 ≤ Xi S 904 23 ∧ Xi S 904 23 ≤ 24 := hH.c _ _
    have w406 : 0 ≤ Xi S 904 69 ∧ Xi S 904 69 ≤ 2600 := hH.c _ _
    have w407 : 0 ≤ Xi S 904 70 ∧ Xi S 904 70 ≤ 20 := hH.c _ _
    have w408 : 0 ≤ Xi S 904 93 ∧ Xi S 904 93 ≤ 1700 := hH.c _ _
    have w409 : 0 ≤ Xi S 904 94 ∧ Xi S 904 94 ≤ 1700 := hH.c _ _
    have w410 : 0 ≤ Xi S 904 98 ∧ Xi S 904 98 ≤ 1700 := hH.c _ _
    refine l_callV rfl rfl rfl (t_mo_need hH 0 9 first ⟨by omega, by omega⟩ ⟨by omega, by omega⟩ ⟨by omega, by omega⟩ _) ?_
    rintro _ T38 ⟨hHT38, w414, rfl, w411, w412⟩
    have hFT38 : FR md_mo_ruleMeant S T38 := FR.tr hF w414 rfl
    show Rl _ _ _ _ _ [] _ _
    refine l_aload_n rfl rfl ?_
    refine l_gfi rfl rfl rfl rfl rfl ?_
    have w415 : (Xi T38 904 130) = (Xi S 904 130) := (show Xi T38 904 130 = Xi S 904 130 from w414.x _ _ rfl)
    rw [w415]
    refine l_bipush rfl rfl ?_
    refine l_min rfl rfl rfl (by unfold rg; omega) (by unfold rg; omega) ?_
    refine l_istore_n rfl rfl rfl ?_
    refine l_aload_n rfl rfl ?_
    refine l_iload_n rfl rfl ?_
    have w416 : Xi T38 904 102 = Xi S 904 102 := (show Xi T38 904 102 = Xi S 904 102 from w414.x _ _ rfl)
    have w417 : 0 ≤ Xi S 904 102 ∧ Xi S 904 102 ≤ 2600 := hH.c _ _
    have w418 : Xi T38 904 103 = Xi S 904 103 := (show Xi T38 904 103 = Xi S 904 103 from w414.x _ _ rfl)
    have w419 : -1 ≤ Xi S 904 103 ∧ Xi S 904 103 ≤ 2600 := hH.c _ _
    have w420 : 0 ≤ Xi T38 904 106 ∧ Xi T38 904 106 ≤ 9 := hHT38.c _ _
    have w421 : Xi T38 904 115 = Xi S 904 115 := (show Xi T38 904 115 = Xi S 904 115 from w414.x _ _ rfl)
    have w422 : -1 ≤ Xi S 904 115 ∧ Xi S 904 115 ≤ 15 := hH.c _ _
    have w423 : Xi T38 904 117 = Xi S 904 117 := (show Xi T38 904 117 = Xi S 904 117 from w414.x _ _ rfl)
    have w424 : 0 ≤ Xi S 904 117 ∧ Xi S 904 117 ≤ 480 := hH.c _ _
    have w425 : Xi T38 904 125 = Xi S 904 125 := (show Xi T38 904 125 = Xi S 904 125 from w414.x _ _ rfl)
    have w426 : 0 ≤ Xi S 904 125 ∧ Xi S 904 125 ≤ 192 := hH.c _ _
    have w427 : Xi T38 904 130 = Xi S 904 130 := (show Xi T38 904 130 = Xi S 904 130 from w414.x _ _ rfl)
    have w428 : 0 ≤ Xi S 904 130 ∧ Xi S 904 130 ≤ 24 := hH.c _ _
    have w429 : Xi T38 904 23 = Xi S 904 23 := (show Xi T38 904 23 = Xi S 904 23 from w414.x _ _ rfl)
    have w430 : 0 ≤ Xi S 904 23 ∧ Xi S 904 23 ≤ 24 := hH.c _ _
    have w431 : Xi T38 904 49 = Xi S 904 49 := (show Xi T38 904 49 = Xi S 904 49 from w414.x _ _ rfl)
    have w432 : 0 ≤ Xi S 904 49 ∧ Xi S 904 49 ≤ 12 := hH.c _ _
    have w433 : Xi T38 904 69 = Xi S 904 69 := (show Xi T38 904 69 = Xi S 904 69 from w414.x _ _ rfl)
    have w434 : 0 ≤ Xi S 904 69 ∧ Xi S 904 69 ≤ 2600 := hH.c _ _
    have w435 : Xi T38 904 70 = Xi S 904 70 := (show Xi T38 904 70 = Xi S 904 70 from w414.x _ _ rfl)
    have w436 : 0 ≤ Xi S 904 70 ∧ Xi S 904 70 ≤ 20 := hH.c _ _
    have w437 : Xi T38 904 93 = Xi S 904 93 := (show Xi T38 904 93 = Xi S 904 93 from w414.x _ _ rfl)
    have w438 : 0 ≤ Xi S 904 93 ∧ Xi S 904 93 ≤ 1700 := hH.c _ _
    have w439 : Xi T38 904 94 = Xi S 904 94 := (show Xi T38 904 94 = Xi S 904 94 from w414.x _ _ rfl)
    have w440 : 0 ≤ Xi S 904 94 ∧ Xi S 904 94 ≤ 1700 := hH.c _ _
    have w441 : Xi T38 904 98 = Xi S 904 98 := (show Xi T38 904 98 = Xi S 904 98 from w414.x _ _ rfl)
    have w442 : 0 ≤ Xi S 904 98 ∧ Xi S 904 98 ≤ 1700 := hH.c _ _
    refine l_callV rfl rfl rfl (t_mo_actingMeant hHT38 n (if 23 < (Xi S 904 130) then 23 else (Xi S 904 130)) ⟨by omega, by omega⟩ (by first | assumption | exact (TK_FR hFT38 rfl (by assumption : TK S _))) (by first | assumption | exact (RNV_FR hFT38 rfl (by assumption : RNV S _))) (by first | assumption | exact (LXM_FR hFT38 rfl (by assumption : LXM S))) (by first | assumption | exact (ABV_FR hFT38 rfl (by assumption : ABV S))) (by first | assumption | exact (DCM_FR hFT38 rfl (by assumption : DCM S))) (fun q => by have t := ha (by omega); omega) _) ?_
    rintro _ T39 ⟨hHT39, w445, rfl, w443, ra33, a33, s33, n33, k33⟩
    have hFT39 : FR md_mo_ruleMeant S T39 := FR.tr hFT38 w445 rfl
    show Rl _ _ _ _ _ [] _ _
    have R33 : RLH T39 (if 23 < (Xi S 904 130) then 23 else (Xi S 904 130)) := ⟨ra33, by rw [(by assumption : FR md_mo_actingMeant T38 T39).x 904 49 rfl]; exact a33, fun q => s33 (by rw [← (by assumption : FR md_mo_actingMeant T38 T39).x 904 70 rfl]; exact q), n33⟩
    have L33 : KRL T39 S (if 23 < (Xi S 904 130) then 23 else (Xi S 904 130)) := (KRL_FR (by assumption : FR md_mo_need S T38) rfl KRL.rf).tr k33
    clear ra33 a33 s33 n33 k33
    refine l_aload_n rfl rfl ?_
    refine l_iconst rfl ?_
    refine l_pfi rfl rfl rfl rfl ?_
    obtain ⟨U40, eU40⟩ : ∃ T : sS, T = uI T39 904 115 (Int32.ofInt (-1)) := ⟨_, rfl⟩
    rw [← eU40]
    have hHU40 : HI U40 := by rw [eU40]; exact HI_w hHT39 (show -1 ≤ (-1) by omega) (show (-1) ≤ 15 by omega)
    have hFU40 : FR md_mo_ruleMeant S U40 := by rw [eU40]; exact FR.wI hFT39 (mdf_i (r := (904, 905, 115, 116)) (List.mem_of_getElem? (i := 8) rfl) (inR_i (by omega) (by omega) (by omega) (by omega)))
    have w446 : Xi U40 904 115 = (-1) := by rw [eU40]; exact Xi_same (by unfold rg; omega)
    refine l_aload_n rfl rfl ?_
    have w447 : Xi U40 904 102 = Xi S 904 102 := (show Xi U40 904 102 = Xi T39 904 102 from by rw [eU40]; exact Xi_ne (by omega)).trans ( (show Xi T39 904 102 = Xi T38 904 102 from w445.x _ _ rfl).trans ((show Xi T38 904 102 = Xi S 904 102 from w414.x _ _ rfl)))
    have w448 : 0 ≤ Xi S 904 102 ∧ Xi S 904 102 ≤ 2600 := hH.c _ _
    have w449 : Xi U40 904 103 = Xi S 904 103 := (show Xi U40 904 103 = Xi T39 904 103 from by rw [eU40]; exact Xi_ne (by omega)).trans ( (show Xi T39 904 103 = Xi T38 904 103 from w445.x _ _ rfl).trans ((show Xi T38 904 103 = Xi S 904 103 from w414.x _ _ rfl)))
    have w450 : -1 ≤ Xi S 904 103 ∧ Xi S 904 103 ≤ 2600 := hH.c _ _
    have w451 : Xi U40 904 106 = Xi T39 904 106 := (show Xi U40 904 106 = Xi T39 904 106 from by rw [eU40]; exact Xi_ne (by omega))
    have w452 : 0 ≤ Xi T39 904 106 ∧ Xi T39 904 106 ≤ 9 := hHT39.c _ _
    have w453 : -1 ≤ Xi U40 904 115 ∧ Xi U40 904 115 ≤ 15 := hHU40.c _ _
    have w454 : Xi U40 904 116 = Xi T39 904 116 := (show Xi U40 904 116 = Xi T39 904 116 from by rw [eU40]; exact Xi_ne (by omega))
    have w455 : -1 ≤ Xi T39 904 116 ∧ Xi T39 904 116 ≤ 15 := hHT39.c _ _
    have w456 : Xi U40 904 117 = Xi S 904 117 := (show Xi U40 904 117 = Xi T39 904 117 from by rw [eU40]; exact Xi_ne (by omega)).trans ( (show Xi T39 904 117 = Xi T38 904 117 from w445.x _ _ rfl).trans ((show Xi T38 904 117 = Xi S 904 117 from w414.x _ _ rfl)))
    have w457 : 0 ≤ Xi S 904 117 ∧ Xi S 904 117 ≤ 480 := hH.c _ _
    have w458 : Xi U40 904 125 = Xi S 904 125 := (show Xi U40 904 125 = Xi T39 904 125 from by rw [eU40]; exact Xi_ne (by omega)).trans ( (show Xi T39 904 125 = Xi T38 904 125 from w445.x _ _ rfl).trans ((show Xi T38 904 125 = Xi S 904 125 from w414.x _ _ rfl)))
    have w459 : 0 ≤ Xi S 904 125 ∧ Xi S 904 125 ≤ 192 := hH.c _ _
    have w460 : Xi U40 904 130 = Xi S 904 130 := (show Xi U40 904 130 = Xi T39 904 130 from by rw [eU40]; exact Xi_ne (by omega)).trans ( (show Xi T39 904 130 = Xi T38 904 130 from w445.x _ _ rfl).trans ((show Xi T38 904 130 = Xi S 904 130 from w414.x _ _ rfl)))
    have w461 : 0 ≤ Xi S 904 130 ∧ Xi S 904 130 ≤ 24 := hH.c _ _
    have w462 : Xi U40 904 23 = Xi S 904 23 := (show Xi U40 904 23 = Xi T39 904 23 from by rw [eU40]; exact Xi_ne (by omega)).trans ( (show Xi T39 904 23 = Xi T38 904 23 from w445.x _ _ rfl).trans ((show Xi T38 904 23 = Xi S 904 23 from w414.x _ _ rfl)))
    have w463 : 0 ≤ Xi S 904 23 ∧ Xi S 904 23 ≤ 24 := hH.c _ _
    have w464 : Xi U40 904 69 = Xi S 904 69 := (show Xi U40 904 69 = Xi T39 904 69 from by rw [eU40]; exact Xi_ne (by omega)).trans ( (show Xi T39 904 69 = Xi T38 904 69 from w445.x _ _ rfl).trans ((show Xi T38 904 69 = Xi S 904 69 from w414.x _ _ rfl)))
    have w465 : 0 ≤ Xi S 904 69 ∧ Xi S 904 69 ≤ 2600 := hH.c _ _
    have w466 : Xi U40 904 70 = Xi S 904 70 := (show Xi U40 904 70 = Xi T39 904 70 from by rw [eU40]; exact Xi_ne (by omega)).trans ( (show Xi T39 904 70 = Xi T38 904 70 from w445.x _ _ rfl).trans ((show Xi T38 904 70 = Xi S 904 70 from w414.x _ _ rfl)))
    have w467 : 0 ≤ Xi S 904 70 ∧ Xi S 904 70 ≤ 20 := hH.c _ _
    have w468 : Xi U40 904 93 = Xi S 904 93 := (show Xi U40 904 93 = Xi T39 904 93 from by rw [eU40]; exact Xi_ne (by omega)).trans ( (show Xi T39 904 93 = Xi T38 904 93 from w445.x _ _ rfl).trans ((show Xi T38 904 93 = Xi S 904 93 from w414.x _ _ rfl)))
    have w469 : 0 ≤ Xi S 904 93 ∧ Xi S 904 93 ≤ 1700 := hH.c _ _
    have w470 : Xi U40 904 94 = Xi S 904 94 := (show Xi U40 904 94 = Xi T39 904 94 from by rw [eU40]; exact Xi_ne (by omega)).trans ( (show Xi T39 904 94 = Xi T38 904 94 from w445.x _ _ rfl).trans ((show Xi T38 904 94 = Xi S 904 94 from w414.x _ _ rfl)))
    have w471 : 0 ≤ Xi S 904 94 ∧ Xi S 904 94 ≤ 1700 := hH.c _ _
    have w472 : Xi U40 904 98 = Xi S 904 98 := (show Xi U40 904 98 = Xi T39 904 98 from by rw [eU40]; exact Xi_ne (by omega)).trans ( (show Xi T39 904 98 = Xi T38 904 98 from w445.x _ _ rfl).trans ((show Xi T38 904 98 = Xi S 904 98 from w414.x _ _ rfl)))
    have w473 : 0 ≤ Xi S 904 98 ∧ Xi S 904 98 ≤ 1700 := hH.c _ _
    refine l_callV rfl rfl rfl (t_mo_testsMeant hHU40 n (by first | assumption | exact (TK_FR hFU40 rfl (by assumption : TK S _))) (by first | assumption | exact (RNV_FR hFU40 rfl (by assumption : RNV S _))) (by first | assumption | exact (LXM_FR hFU40 rfl (by assumption : LXM S))) (by first | assumption | exact (ABV_FR hFU40 rfl (by assumption : ABV S))) (by first | assumption | exact (DCM_FR hFU40 rfl (by assumption : DCM S))) (by first | assumption | exact (TXK_FR hFU40 rfl (by assumption : TXK S _))) (TVA_FR hFU40 rfl (by rw [show Xi U40 904 94 = Xi S 904 94 by omega]; exact htv)) (by first | assumption | omega) _) ?_
    rintro _ T41 ⟨hHT41, w476, rfl, w474, tq42, kq42⟩
    have hFT41 : FR md_mo_ruleMeant S T41 := FR.tr hFU40 w476 rfl
    show Rl _ _ _ _ _ [] _ _
    have t7_42 : Xi T41 904 106 = 0 → Xi S 904 94 ≤ 6 ∧ TQA T41 False (0 ≤ Xi T41 904 116) (Xi S 904 117) (Xi S 904 94) := fun x => by have t := tq42 x; rw [show Xi U40 904 94 = Xi S 904 94 by omega, show Xi U40 904 117 = Xi S 904 117 by omega] at t; exact ⟨t.1, t.2.b (fun y => absurd y (by omega)) (fun y => by rw [(by assumption : FR md_mo_testsMeant U40 T41).x 904 116 rfl]; exact y)⟩
    have Q42 : KQL T41 S (Xi S 904 117) := KQL.tr (KQL_FR (FR_e eU40) rfl (KQL_FR w445 rfl (KQL_FR w414 rfl (by assumption : KQL S _ _)))) (by rw [show Xi S 904 117 = Xi U40 904 117 by omega]; exact kq42) (Int.le_refl _)
    clear tq42 kq42
    refine l_aload_n rfl rfl ?_
    refine l_gfi rfl rfl rfl rfl rfl ?_
    have w477 : (Xi T41 904 117) = (Xi S 904 117) := (show Xi T41 904 117 = Xi U40 904 117 from w476.x _ _ rfl).trans ( (show Xi U40 904 117 = Xi T39 904 117 from by rw [eU40]; exact Xi_ne (by omega)).trans ( (show Xi T39 904 117 = Xi T38 904 117 from w445.x _ _ rfl).trans ((show Xi T38 904 117 = Xi S 904 117 from w414.x _ _ rfl))))
    rw [w477]
    refine l_aload_n rfl rfl ?_
    refine l_gfi rfl rfl rfl rfl rfl ?_
    have w478 : (Xi T41 904 94) = (Xi S 904 94) := (show Xi T41 904 94 = Xi U40 904 94 from w476.x _ _ rfl).trans ( (show Xi U40 904 94 = Xi T39 904 94 from by rw [eU40]; exact Xi_ne (by omega)).trans ( (show Xi T39 904 94 = Xi T38 904 94 from w445.x _ _ rfl).trans ((show Xi T38 904 94 = Xi S 904 94 from w414.x _ _ rfl))))
    rw [w478]
    refine l_iadd rfl ?_
    refine l_istore_n rfl rfl rfl ?_
    refine l_iconst rfl ?_
    refine l_istore rfl rfl rfl ?_
    have w479 : Xi T41 904 102 = Xi S 904 102 := (show Xi T41 904 102 = Xi U40 904 102 from w476.x _ _ rfl).trans ( (show Xi U40 904 102 = Xi T39 904 102 from by rw [eU40]; exact Xi_ne (by omega)).trans ( (show Xi T39 904 102 = Xi T38 904 102 from w445.x _ _ rfl).trans ((show Xi T38 904 102 = Xi S 904 102 from w414.x _ _ rfl))))
    have w480 : 0 ≤ Xi S 904 102 ∧ Xi S 904 102 ≤ 2600 := hH.c _ _
    have w481 : Xi T41 904 103 = Xi S 904 103 := (show Xi T41 904 103 = Xi U40 904 103 from w476.x _ _ rfl).trans ( (show Xi U40 904 103 = Xi T39 904 103 from by rw [eU40]; exact Xi_ne (by omega)).trans ( (show Xi T39 904 103 = Xi T38 904 103 from w445.x _ _ rfl).trans ((show Xi T38 904 103 = Xi S 904 103 from w414.x _ _ rfl))))
    have w482 : -1 ≤ Xi S 904 103 ∧ Xi S 904 103 ≤ 2600 := hH.c _ _
    have w483 : 0 ≤ Xi T41 904 106 ∧ Xi T41 904 106 ≤ 9 := hHT41.c _ _
    have w484 : Xi T41 904 115 = Xi U40 904 115 := (show Xi T41 904 115 = Xi U40 904 115 from w476.x _ _ rfl)
    have w485 : -1 ≤ Xi U40 904 115 ∧ Xi U40 904 115 ≤ 15 := hHU40.c _ _
    have w486 : Xi T41 904 116 = Xi T39 904 116 := (show Xi T41 904 116 = Xi U40 904 116 from w476.x _ _ rfl).trans ((show Xi U40 904 116 = Xi T39 904 116 from by rw [eU40]; exact Xi_ne (by omega)))
    have w487 : -1 ≤ Xi T39 904 116 ∧ Xi T39 904 116 ≤ 15 := hHT39.c _ _
    have w488 : Xi T41 904 117 = Xi S 904 117 := (show Xi T41 904 117 = Xi U40 904 117 from w476.x _ _ rfl).trans ( (show Xi U40 904 117 = Xi T39 904 117 from by rw [eU40]; exact Xi_ne (by omega)).trans ( (show Xi T39 904 117 = Xi T38 904 117 from w445.x _ _ rfl).trans ((show Xi T38 904 117 = Xi S 904 117 from w414.x _ _ rfl))))
    have w489 : 0 ≤ Xi S 904 117 ∧ Xi S 904 117 ≤ 480 := hH.c _ _
    have w490 : Xi T41 904 125 = Xi S 904 125 := (show Xi T41 904 125 = Xi U40 904 125 from w476.x _ _ rfl).trans ( (show Xi U40 904 125 = Xi T39 904 125 from by rw [eU40]; exact Xi_ne (by omega)).trans ( (show Xi T39 904 125 = Xi T38 904 125 from w445.x _ _ rfl).trans ((show Xi T38 904 125 = Xi S 904 125 from w414.x _ _ rfl))))
    have w491 : 0 ≤ Xi S 904 125 ∧ Xi S 904 125 ≤ 192 := hH.c _ _
    have w492 : Xi T41 904 130 = Xi S 904 130 := (show Xi T41 904 130 = Xi U40 904 130 from w476.x _ _ rfl).trans ( (show Xi U40 904 130 = Xi T39 904 130 from by rw [eU40]; exact Xi_ne (by omega)).trans ( (show Xi T39 904 130 = Xi T38 904 130 from w445.x _ _ rfl).trans ((show Xi T38 904 130 = Xi S 904 130 from w414.x _ _ rfl))))
    have w493 : 0 ≤ Xi S 904 130 ∧ Xi S 904 130 ≤ 24 := hH.c _ _
    have w494 : Xi T41 904 23 = Xi S 904 23 := (show Xi T41 904 23 = Xi U40 904 23 from w476.x _ _ rfl).trans ( (show Xi U40 904 23 = Xi T39 904 23 from by rw [eU40]; exact Xi_ne (by omega)).trans ( (show Xi T39 904 23 = Xi T38 904 23 from w445.x _ _ rfl).trans ((show Xi T38 904 23 = Xi S 904 23 from w414.x _ _ rfl))))
    have w495 : 0 ≤ Xi S 904 23 ∧ Xi S 904 23 ≤ 24 := hH.c _ _
    have w496 : Xi T41 904 69 = Xi S 904 69 := (show Xi T41 904 69 = Xi U40 904 69 from w476.x _ _ rfl).trans ( (show Xi U40 904 69 = Xi T39 904 69 from by rw [eU40]; exact Xi_ne (by omega)).trans ( (show Xi T39 904 69 = Xi T38 904 69 from w445.x _ _ rfl).trans ((show Xi T38 904 69 = Xi S 904 69 from w414.x _ _ rfl))))
    have w497 : 0 ≤ Xi S 904 69 ∧ Xi S 904 69 ≤ 2600 := hH.c _ _
    have w498 : Xi T41 904 70 = Xi S 904 70 := (show Xi T41 904 70 = Xi U40 904 70 from w476.x _ _ rfl).trans ( (show Xi U40 904 70 = Xi T39 904 70 from by rw [eU40]; exact Xi_ne (by omega)).trans ( (show Xi T39 904 70 = Xi T38 904 70 from w445.x _ _ rfl).trans ((show Xi T38 904 70 = Xi S 904 70 from w414.x _ _ rfl))))
    have w499 : 0 ≤ Xi S 904 70 ∧ Xi S 904 70 ≤ 20 := hH.c _ _
    have w500 : Xi T41 904 93 = Xi S 904 93 := (show Xi T41 904 93 = Xi U40 904 93 from w476.x _ _ rfl).trans ( (show Xi U40 904 93 = Xi T39 904 93 from by rw [eU40]; exact Xi_ne (by omega)).trans ( (show Xi T39 904 93 = Xi T38 904 93 from w445.x _ _ rfl).trans ((show Xi T38 904 93 = Xi S 904 93 from w414.x _ _ rfl))))
    have w501 : 0 ≤ Xi S 904 93 ∧ Xi S 904 93 ≤ 1700 := hH.c _ _
    have w502 : Xi T41 904 94 = Xi S 904 94 := (show Xi T41 904 94 = Xi U40 904 94 from w476.x _ _ rfl).trans ( (show Xi U40 904 94 = Xi T39 904 94 from by rw [eU40]; exact Xi_ne (by omega)).trans ( (show Xi T39 904 94 = Xi T38 904 94 from w445.x _ _ rfl).trans ((show Xi T38 904 94 = Xi S 904 94 from w414.x _ _ rfl))))
    have w503 : 0 ≤ Xi S 904 94 ∧ Xi S 904 94 ≤ 1700 := hH.c _ _
    have w504 : Xi T41 904 98 = Xi S 904 98 := (show Xi T41 904 98 = Xi U40 904 98 from w476.x _ _ rfl).trans ( (show Xi U40 904 98 = Xi T39 904 98 from by rw [eU40]; exact Xi_ne (by omega)).trans ( (show Xi T39 904 98 = Xi T38 904 98 from w445.x _ _ rfl).trans ((show Xi T38 904 98 = Xi S 904 98 from w414.x _ _ rfl))))
    have w505 : 0 ≤ Xi S 904 98 ∧ Xi S 904 98 ≤ 1700 := hH.c _ _
    exact Rl_weak (C58 _ T41 hHT41 hFT41 ((if 23 < (Xi S 904 130) then 23 else (Xi S 904 130))) (((Xi S 904 117) + (Xi S 904 94))) (0) (by omega) (by omega) (by omega) (by omega) (by omega) (by omega) (by omega) (by omega) (by omega) (by omega) (by omega) (by omega) (by omega) (by omega) (by omega) (by omega) (by omega) (by omega) (by omega) ((RLH_FR w476 rfl (RLH_FR (FR_e eU40) rfl (by assumption : RLH T39 _)))) ((KRL_FR w476 rfl (KRL_FR (FR_e eU40) rfl (by assumption : KRL T39 _ _)))) (by first | exact Q106 | exact (by assumption : KQL T41 _ _)) (by first | exact H106 | exact (KHL_FR w476 rfl (KHL_FR (FR_e eU40) rfl (KHL_FR w445 rfl (KHL_FR w414 rfl (by assumption : KHL S _ _)))))) ((K78_FR w476 rfl (K78_FR (FR_e eU40) rfl (K78_FR w445 rfl (K78_FR w414 rfl (by assumption : K78 S _)))))) ((GR_FR w476 rfl (GR_FR (FR_e eU40) rfl (GR_FR w445 rfl (GR_FR w414 rfl GR.rf))))) (by first | exact t7_106 | exact t7_42) (by first | exact P106 | exact fun x j hj => absurd hj (by omega)) rfl) (And.intro rfl (And.intro rfl (And.intro rfl (And.intro rfl (True.intro)))))
  · refine l_iconst rfl ?_
    refine l_goto rfl rfl ?_
    refine l_bipush rfl rfl ?_
    refine l_iload_n rfl rfl ?_
    have w506 : 0 ≤ Xi S 904 102 ∧ Xi S 904 102 ≤ 2600 := hH.c _ _
    have w507 : -1 ≤ Xi S 904 103 ∧ Xi S 904 103 ≤ 2600 := hH.c _ _
    have w508 : 0 ≤ Xi S 904 106 ∧ Xi S 904 106 ≤ 9 := hH.c _ _
    have w509 : -1 ≤ Xi S 904 115 ∧ Xi S 904 115 ≤ 15 := hH.c _ _
    have w510 : 0 ≤ Xi S 904 117 ∧ Xi S 904 117 ≤ 480 := hH.c _ _
    have w511 : 0 ≤ Xi S 904 125 ∧ Xi S 904 125 ≤ 192 := hH.c _ _
    have w512 : 0 ≤ Xi S 904 130 ∧ Xi S 904 130 ≤ 24 := hH.c _ _
    have w513 : 0 ≤ Xi S 904 23 ∧ Xi S 904 23 ≤ 24 := hH.c _ _
    have w514 : 0 ≤ Xi S 904 69 ∧ Xi S 904 69 ≤ 2600 := hH.c _ _
    have w515 : 0 ≤ Xi S 904 70 ∧ Xi S 904 70 ≤ 20 := hH.c _ _
    have w516 : 0 ≤ Xi S 904 93 ∧ Xi S 904 93 ≤ 1700 := hH.c _ _
    have w517 : 0 ≤ Xi S 904 94 ∧ Xi S 904 94 ≤ 1700 := hH.c _ _
    have w518 : 0 ≤ Xi S 904 98 ∧ Xi S 904 98 ≤ 1700 := hH.c _ _
    refine l_callV rfl rfl rfl (t_mo_need hH 1 9 first ⟨by omega, by omega⟩ ⟨by omega, by omega⟩ ⟨by omega, by omega⟩ _) ?_
    rintro _ T42 ⟨hHT42, w522, rfl, w519, w520⟩
    have hFT42 : FR md_mo_ruleMeant S T42 := FR.tr hF w522 rfl
    show Rl _ _ _ _ _ [] _ _
    refine l_aload_n rfl rfl ?_
    refine l_gfi rfl rfl rfl rfl rfl ?_
    have w523 : (Xi T42 904 130) = (Xi S 904 130) := (show Xi T42 904 130 = Xi S 904 130 from w522.x _ _ rfl)
    rw [w523]
    refine l_bipush rfl rfl ?_
    refine l_min rfl rfl rfl (by unfold rg; omega) (by unfold rg; omega) ?_
    refine l_istore_n rfl rfl rfl ?_
    refine l_aload_n rfl rfl ?_
    refine l_iload_n rfl rfl ?_
    have w524 : Xi T42 904 102 = Xi S 904 102 := (show Xi T42 904 102 = Xi S 904 102 from w522.x _ _ rfl)
    have w525 : 0 ≤ Xi S 904 102 ∧ Xi S 904 102 ≤ 2600 := hH.c _ _
    have w526 : Xi T42 904 103 = Xi S 904 103 := (show Xi T42 904 103 = Xi S 904 103 from w522.x _ _ rfl)
    have w527 : -1 ≤ Xi S 904 103 ∧ Xi S 904 103 ≤ 2600 := hH.c _ _
    have w528 : 0 ≤ Xi T42 904 106 ∧ Xi T42 904 106 ≤ 9 := hHT42.c _ _
    have w529 : Xi T42 904 115 = Xi S 904 115 := (show Xi T42 904 115 = Xi S 904 115 from w522.x _ _ rfl)
    have w530 : -1 ≤ Xi S 904 115 ∧ Xi S 904 115 ≤ 15 := hH.c _ _
    have w531 : Xi T42 904 117 = Xi S 904 117 := (show Xi T42 904 117 = Xi S 904 117 from w522.x _ _ rfl)
    have w532 : 0 ≤ Xi S 904 117 ∧ Xi S 904 117 ≤ 480 := hH.c _ _
    have w533 : Xi T42 904 125 = Xi S 904 125 := (show Xi T42 904 125 = Xi S 904 125 from w522.x _ _ rfl)
    have w534 : 0 ≤ Xi S 904 125 ∧ Xi S 904 125 ≤ 192 := hH.c _ _
    have w535 : Xi T42 904 130 = Xi S 904 130 := (show Xi T42 904 130 = Xi S 904 130 from w522.x _ _ rfl)
    have w536 : 0 ≤ Xi S 904 130 ∧ Xi S 904 130 ≤ 24 := hH.c _ _
    have w537 : Xi T42 904 23 = Xi S 904 23 := (show Xi T42 904 23 = Xi S 904 23 from w522.x _ _ rfl)
    have w538 : 0 ≤ Xi S 904 23 ∧ Xi S 904 23 ≤ 24 := hH.c _ _
    have w539 : Xi T42 904 49 = Xi S 904 49 := (show Xi T42 904 49 = Xi S 904 49 from w522.x _ _ rfl)
    have w540 : 0 ≤ Xi S 904 49 ∧ Xi S 904 49 ≤ 12 := hH.c _ _
    have w541 : Xi T42 904 69 = Xi S 904 69 := (show Xi T42 904 69 = Xi S 904 69 from w522.x _ _ rfl)
    have w542 : 0 ≤ Xi S 904 69 ∧ Xi S 904 69 ≤ 2600 := hH.c _ _
    have w543 : Xi T42 904 70 = Xi S 904 70 := (show Xi T42 904 70 = Xi S 904 70 from w522.x _ _ rfl)
    have w544 : 0 ≤ Xi S 904 70 ∧ Xi S 904 70 ≤ 20 := hH.c _ _
    have w545 : Xi T42 904 93 = Xi S 904 93 := (show Xi T42 904 93 = Xi S 904 93 from w522.x _ _ rfl)
    have w546 : 0 ≤ Xi S 904 93 ∧ Xi S 904 93 ≤ 1700 := hH.c _ _
    have w547 : Xi T42 904 94 = Xi S 904 94 := (show Xi T42 904 94 = Xi S 904 94 from w522.x _ _ rfl)
    have w548 : 0 ≤ Xi S 904 94 ∧ Xi S 904 94 ≤ 1700 := hH.c _ _
    have w549 : Xi T42 904 98 = Xi S 904 98 := (show Xi T42 904 98 = Xi S 904 98 from w522.x _ _ rfl)
    have w550 : 0 ≤ Xi S 904 98 ∧ Xi S 904 98 ≤ 1700 := hH.c _ _
    refine l_callV rfl rfl rfl (t_mo_actingMeant hHT42 n (if 23 < (Xi S 904 130) then 23 else (Xi S 904 130)) ⟨by omega, by omega⟩ (by first | assumption | exact (TK_FR hFT42 rfl (by assumption : TK S _))) (by first | assumption | exact (RNV_FR hFT42 rfl (by assumption : RNV S _))) (by first | assumption | exact (LXM_FR hFT42 rfl (by assumption : LXM S))) (by first | assumption | exact (ABV_FR hFT42 rfl (by assumption : ABV S))) (by first | assumption | exact (DCM_FR hFT42 rfl (by assumption : DCM S))) (fun q => by have t := ha (by omega); omega) _) ?_
    rintro _ T43 ⟨hHT43, w553, rfl, w551, ra33, a33, s33, n33, k33⟩
    have hFT43 : FR md_mo_ruleMeant S T43 := FR.tr hFT42 w553 rfl
    show Rl _ _ _ _ _ [] _ _
    have R33 : RLH T43 (if 23 < (Xi S 904 130) then 23 else (Xi S 904 130)) := ⟨ra33, by rw [(by assumption : FR md_mo_actingMeant T42 T43).x 904 49 rfl]; exact a33, fun q => s33 (by rw [← (by assumption : FR md_mo_actingMeant T42 T43).x 904 70 rfl]; exact q), n33⟩
    have L33 : KRL T43 S (if 23 < (Xi S 904 130) then 23 else (Xi S 904 130)) := (KRL_FR (by assumption : FR md_mo_need S T42) rfl KRL.rf).tr k33
    clear ra33 a33 s33 n33 k33
    refine l_aload_n rfl rfl ?_
    refine l_iconst rfl ?_
    refine l_pfi rfl rfl rfl rfl ?_
    obtain ⟨U44, eU44⟩ : ∃ T : sS, T = uI T43 904 115 (Int32.ofInt (-1)) := ⟨_, rfl⟩
    rw [← eU44]
    have hHU44 : HI U44 := by rw [eU44]; exact HI_w hHT43 (show -1 ≤ (-1) by omega) (show (-1) ≤ 15 by omega)
    have hFU44 : FR md_mo_ruleMeant S U44 := by rw [eU44]; exact FR.wI hFT43 (mdf_i (r := (904, 905, 115, 116)) (List.mem_of_getElem? (i := 8) rfl) (inR_i (by omega) (by omega) (by omega) (by omega)))
    have w554 : Xi U44 904 115 = (-1) := by rw [eU44]; exact Xi_same (by unfold rg; omega)
    refine l_aload_n rfl rfl ?_
    have w555 : Xi U44 904 102 = Xi S 904 102 := (show Xi U44 904 102 = Xi T43 904 102 from by rw [eU44]; exact Xi_ne (by omega)).trans ( (show Xi T43 904 102 = Xi T42 904 102 from w553.x _ _ rfl).trans ((show Xi T42 904 102 = Xi S 904 102 from w522.x _ _ rfl)))
    have w556 : 0 ≤ Xi S 904 102 ∧ Xi S 904 102 ≤ 2600 := hH.c _ _
    have w557 : Xi U44 904 103 = Xi S 904 103 := (show Xi U44 904 103 = Xi T43 904 103 from by rw [eU44]; exact Xi_ne (by omega)).trans ( (show Xi T43 904 103 = Xi T42 904 103 from w553.x _ _ rfl).trans ((show Xi T42 904 103 = Xi S 904 103 from w522.x _ _ rfl)))
    have w558 : -1 ≤ Xi S 904 103 ∧ Xi S 904 103 ≤ 2600 := hH.c _ _
    have w559 : Xi U44 904 106 = Xi T43 904 106 := (show Xi U44 904 106 = Xi T43 904 106 from by rw [eU44]; exact Xi_ne (by omega))
    have w560 : 0 ≤ Xi T43 904 106 ∧ Xi T43 904 106 ≤ 9 := hHT43.c _ _
    have w561 : -1 ≤ Xi U44 904 115 ∧ Xi U44 904 115 ≤ 15 := hHU44.c _ _
    have w562 : Xi U44 904 116 = Xi T43 904 116 := (show Xi U44 904 116 = Xi T43 904 116 from by rw [eU44]; exact Xi_ne (by omega))
    have w563 : -1 ≤ Xi T43 904 116 ∧ Xi T43 904 116 ≤ 15 := hHT43.c _ _
    have w564 : Xi U44 904 117 = Xi S 904 117 := (show Xi U44 904 117 = Xi T43 904 117 from by rw [eU44]; exact Xi_ne (by omega)).trans ( (show Xi T43 904 117 = Xi T42 904 117 from w553.x _ _ rfl).trans ((show Xi T42 904 117 = Xi S 904 117 from w522.x _ _ rfl)))
    have w565 : 0 ≤ Xi S 904 117 ∧ Xi S 904 117 ≤ 480 := hH.c _ _
    have w566 : Xi U44 904 125 = Xi S 904 125 := (show Xi U44 904 125 = Xi T43 904 125 from by rw [eU44]; exact Xi_ne (by omega)).trans ( (show Xi T43 904 125 = Xi T42 904 125 from w553.x _ _ rfl).trans ((show Xi T42 904 125 = Xi S 904 125 from w522.x _ _ rfl)))
    have w567 : 0 ≤ Xi S 904 125 ∧ Xi S 904 125 ≤ 192 := hH.c _ _
    have w568 : Xi U44 904 130 = Xi S 904 130 := (show Xi U44 904 130 = Xi T43 904 130 from by rw [eU44]; exact Xi_ne (by omega)).trans ( (show Xi T43 904 130 = Xi T42 904 130 from w553.x _ _ rfl).trans ((show Xi T42 904 130 = Xi S 904 130 from w522.x _ _ rfl)))
    have w569 : 0 ≤ Xi S 904 130 ∧ Xi S 904 130 ≤ 24 := hH.c _ _
    have w570 : Xi U44 904 23 = Xi S 904 23 := (show Xi U44 904 23 = Xi T43 904 23 from by rw [eU44]; exact Xi_ne (by omega)).trans ( (show Xi T43 904 23 = Xi T42 904 23 from w553.x _ _ rfl).trans ((show Xi T42 904 23 = Xi S 904 23 from w522.x _ _ rfl)))
    have w571 : 0 ≤ Xi S 904 23 ∧ Xi S 904 23 ≤ 24 := hH.c _ _
    have w572 : Xi U44 904 69 = Xi S 904 69 := (show Xi U44 904 69 = Xi T43 904 69 from by rw [eU44]; exact Xi_ne (by omega)).trans ( (show Xi T43 904 69 = Xi T42 904 69 from w553.x _ _ rfl).trans ((show Xi T42 904 69 = Xi S 904 69 from w522.x _ _ rfl)))
    have w573 : 0 ≤ Xi S 904 69 ∧ Xi S 904 69 ≤ 2600 := hH.c _ _
    have w574 : Xi U44 904 70 = Xi S 904 70 := (show Xi U44 904 70 = Xi T43 904 70 from by rw [eU44]; exact Xi_ne (by omega)).trans ( (show Xi T43 904 70 = Xi T42 904 70 from w553.x _ _ rfl).trans ((show Xi T42 904 70 = Xi S 904 70 from w522.x _ _ rfl)))
    have w575 : 0 ≤ Xi S 904 70 ∧ Xi S 904 70 ≤ 20 := hH.c _ _
    have w576 : Xi U44 904 93 = Xi S 904 93 := (show Xi U44 904 93 = Xi T43 904 93 from by rw [eU44]; exact Xi_ne (by omega)).trans ( (show Xi T43 904 93 = Xi T42 904 93 from w553.x _ _ rfl).trans ((show Xi T42 904 93 = Xi S 904 93 from w522.x _ _ rfl)))
    have w577 : 0 ≤ Xi S 904 93 ∧ Xi S 904 93 ≤ 1700 := hH.c _ _
    have w578 : Xi U44 904 94 = Xi S 904 94 := (show Xi U44 904 94 = Xi T43 904 94 from by rw [eU44]; exact Xi_ne (by omega)).trans ( (show Xi T43 904 94 = Xi T42 904 94 from w553.x _ _ rfl).trans ((show Xi T42 904 94 = Xi S 904 94 from w522.x _ _ rfl)))
    have w579 : 0 ≤ Xi S 904 94 ∧ Xi S 904 94 ≤ 1700 := hH.c _ _
    have w580 : Xi U44 904 98 = Xi S 904 98 := (show Xi U44 904 98 = Xi T43 904 98 from by rw [eU44]; exact Xi_ne (by omega)).trans ( (show Xi T43 904 98 = Xi T42 904 98 from w553.x _ _ rfl).trans ((show Xi T42 904 98 = Xi S 904 98 from w522.x _ _ rfl)))
    have w581 : 0 ≤ Xi S 904 98 ∧ Xi S 904 98 ≤ 1700 := hH.c _ _
    refine l_callV rfl rfl rfl (t_mo_testsMeant hHU44 n (by first | assumption | exact (TK_FR hFU44 rfl (by assumption : TK S _))) (by first | assumption | exact (RNV_FR hFU44 rfl (by assumption : RNV S _))) (by first | assumption | exact (LXM_FR hFU44 rfl (by assumption : LXM S))) (by first | assumption | exact (ABV_FR hFU44 rfl (by assumption : ABV S))) (by first | assumption | exact (DCM_FR hFU44 rfl (by assumption : DCM S))) (by first | assumption | exact (TXK_FR hFU44 rfl (by assumption : TXK S _))) (TVA_FR hFU44 rfl (by rw [show Xi U44 904 94 = Xi S 904 94 by omega]; exact htv)) (by first | assumption | omega) _) ?_
    rintro _ T45 ⟨hHT45, w584, rfl, w582, tq42, kq42⟩
    have hFT45 : FR md_mo_ruleMeant S T45 := FR.tr hFU44 w584 rfl
    show Rl _ _ _ _ _ [] _ _
    have t7_42 : Xi T45 904 106 = 0 → Xi S 904 94 ≤ 6 ∧ TQA T45 False (0 ≤ Xi T45 904 116) (Xi S 904 117) (Xi S 904 94) := fun x => by have t := tq42 x; rw [show Xi U44 904 94 = Xi S 904 94 by omega, show Xi U44 904 117 = Xi S 904 117 by omega] at t; exact ⟨t.1, t.2.b (fun y => absurd y (by omega)) (fun y => by rw [(by assumption : FR md_mo_testsMeant U44 T45).x 904 116 rfl]; exact y)⟩
    have Q42 : KQL T45 S (Xi S 904 117) := KQL.tr (KQL_FR (FR_e eU44) rfl (KQL_FR w553 rfl (KQL_FR w522 rfl (by assumption : KQL S _ _)))) (by rw [show Xi S 904 117 = Xi U44 904 117 by omega]; exact kq42) (Int.le_refl _)
    clear tq42 kq42
    refine l_aload_n rfl rfl ?_
    refine l_gfi rfl rfl rfl rfl rfl ?_
    have w585 : (Xi T45 904 117) = (Xi S 904 117) := (show Xi T45 904 117 = Xi U44 904 117 from w584.x _ _ rfl).trans ( (show Xi U44 904 117 = Xi T43 904 117 from by rw [eU44]; exact Xi_ne (by omega)).trans ( (show Xi T43 904 117 = Xi T42 904 117 from w553.x _ _ rfl).trans ((show Xi T42 904 117 = Xi S 904 117 from w522.x _ _ rfl))))
    rw [w585]
    refine l_aload_n rfl rfl ?_
    refine l_gfi rfl rfl rfl rfl rfl ?_
    have w586 : (Xi T45 904 94) = (Xi S 904 94) := (show Xi T45 904 94 = Xi U44 904 94 from w584.x _ _ rfl).trans ( (show Xi U44 904 94 = Xi T43 904 94 from by rw [eU44]; exact Xi_ne (by omega)).trans ( (show Xi T43 904 94 = Xi T42 904 94 from w553.x _ _ rfl).trans ((show Xi T42 904 94 = Xi S 904 94 from w522.x _ _ rfl))))
    rw [w586]
    refine l_iadd rfl ?_
    refine l_istore_n rfl rfl rfl ?_
    refine l_iconst rfl ?_
    refine l_istore rfl rfl rfl ?_
    have w587 : Xi T45 904 102 = Xi S 904 102 := (show Xi T45 904 102 = Xi U44 904 102 from w584.x _ _ rfl).trans ( (show Xi U44 904 102 = Xi T43 904 102 from by rw [eU44]; exact Xi_ne (by omega)).trans ( (show Xi T43 904 102 = Xi T42 904 102 from w553.x _ _ rfl).trans ((show Xi T42 904 102 = Xi S 904 102 from w522.x _ _ rfl))))
    have w588 : 0 ≤ Xi S 904 102 ∧ Xi S 904 102 ≤ 2600 := hH.c _ _
    have w589 : Xi T45 904 103 = Xi S 904 103 := (show Xi T45 904 103 = Xi U44 904 103 from w584.x _ _ rfl).trans ( (show Xi U44 904 103 = Xi T43 904 103 from by rw [eU44]; exact Xi_ne (by omega)).trans ( (show Xi T43 904 103 = Xi T42 904 103 from w553.x _ _ rfl).trans ((show Xi T42 904 103 = Xi S 904 103 from w522.x _ _ rfl))))
    have w590 : -1 ≤ Xi S 904 103 ∧ Xi S 904 103 ≤ 2600 := hH.c _ _
    have w591 : 0 ≤ Xi T45 904 106 ∧ Xi T45 904 106 ≤ 9 := hHT45.c _ _
    have w592 : Xi T45 904 115 = Xi U44 904 115 := (show Xi T45 904 115 = Xi U44 904 115 from w584.x _ _ rfl)
    have w593 : -1 ≤ Xi U44 904 115 ∧ Xi U44 904 115 ≤ 15 := hHU44.c _ _
    have w594 : Xi T45 904 116 = Xi T43 904 116 := (show Xi T45 904 116 = Xi U44 904 116 from w584.x _ _ rfl).trans ((show Xi U44 904 116 = Xi T43 904 116 from by rw [eU44]; exact Xi_ne (by omega)))
    have w595 : -1 ≤ Xi T43 904 116 ∧ Xi T43 904 116 ≤ 15 := hHT43.c _ _
    have w596 : Xi T45 904 117 = Xi S 904 117 := (show Xi T45 904 117 = Xi U44 904 117 from w584.x _ _ rfl).trans ( (show Xi U44 904 117 = Xi T43 904 117 from by rw [eU44]; exact Xi_ne (by omega)).trans ( (show Xi T43 904 117 = Xi T42 904 117 from w553.x _ _ rfl).trans ((show Xi T42 904 117 = Xi S 904 117 from w522.x _ _ rfl))))
    have w597 : 0 ≤ Xi S 904 117 ∧ Xi S 904 117 ≤ 480 := hH.c _ _
    have w598 : Xi T45 904 125 = Xi S 904 125 := (show Xi T45 904 125 = Xi U44 904 125 from w584.x _ _ rfl).trans ( (show Xi U44 904 125 = Xi T43 904 125 from by rw [eU44]; exact Xi_ne (by omega)).trans ( (show Xi T43 904 125 = Xi T42 904 125 from w553.x _ _ rfl).trans ((show Xi T42 904 125 = Xi S 904 125 from w522.x _ _ rfl))))
    have w599 : 0 ≤ Xi S 904 125 ∧ Xi S 904 125 ≤ 192 := hH.c _ _
    have w600 : Xi T45 904 130 = Xi S 904 130 := (show Xi T45 904 130 = Xi U44 904 130 from w584.x _ _ rfl).trans ( (show Xi U44 904 130 = Xi T43 904 130 from by rw [eU44]; exact Xi_ne (by omega)).trans ( (show Xi T43 904 130 = Xi T42 904 130 from w553.x _ _ rfl).trans ((show Xi T42 904 130 = Xi S 904 130 from w522.x _ _ rfl))))
    have w601 : 0 ≤ Xi S 904 130 ∧ Xi S 904 130 ≤ 24 := hH.c _ _
    have w602 : Xi T45 904 23 = Xi S 904 23 := (show Xi T45 904 23 = Xi U44 904 23 from w584.x _ _ rfl).trans ( (show Xi U44 904 23 = Xi T43 904 23 from by rw [eU44]; exact Xi_ne (by omega)).trans ( (show Xi T43 904 23 = Xi T42 904 23 from w553.x _ _ rfl).trans ((show Xi T42 904 23 = Xi S 904 23 from w522.x _ _ rfl))))
    have w603 : 0 ≤ Xi S 904 23 ∧ Xi S 904 23 ≤ 24 := hH.c _ _
    have w604 : Xi T45 904 69 = Xi S 904 69 := (show Xi T45 904 69 = Xi U44 904 69 from w584.x _ _ rfl).trans ( (show Xi U44 904 69 = Xi T43 904 69 from by rw [eU44]; exact Xi_ne (by omega)).trans ( (show Xi T43 904 69 = Xi T42 904 69 from w553.x _ _ rfl).trans ((show Xi T42 904 69 = Xi S 904 69 from w522.x _ _ rfl))))
    have w605 : 0 ≤ Xi S 904 69 ∧ Xi S 904 69 ≤ 2600 := hH.c _ _
    have w606 : Xi T45 904 70 = Xi S 904 70 := (show Xi T45 904 70 = Xi U44 904 70 from w584.x _ _ rfl).trans ( (show Xi U44 904 70 = Xi T43 904 70 from by rw [eU44]; exact Xi_ne (by omega)).trans ( (show Xi T43 904 70 = Xi T42 904 70 from w553.x _ _ rfl).trans ((show Xi T42 904 70 = Xi S 904 70 from w522.x _ _ rfl))))
    have w607 : 0 ≤ Xi S 904 70 ∧ Xi S 904 70 ≤ 20 := hH.c _ _
    have w608 : Xi T45 904 93 = Xi S 904 93 := (show Xi T45 904 93 = Xi U44 904 93 from w584.x _ _ rfl).trans ( (show Xi U44 904 93 = Xi T43 904 93 from by rw [eU44]; exact Xi_ne (by omega)).trans ( (show Xi T43 904 93 = Xi T42 904 93 from w553.x _ _ rfl).trans ((show Xi T42 904 93 = Xi S 904 93 from w522.x _ _ rfl))))
    have w609 : 0 ≤ Xi S 904 93 ∧ Xi S 904 93 ≤ 1700 := hH.c _ _
    have w610 : Xi T45 904 94 = Xi S 904 94 := (show Xi T45 904 94 = Xi U44 904 94 from w584.x _ _ rfl).trans ( (show Xi U44 904 94 = Xi T43 904 94 from by rw [eU44]; exact Xi_ne (by omega)).trans ( (show Xi T43 904 94 = Xi T42 904 94 from w553.x _ _ rfl).trans ((show Xi T42 904 94 = Xi S 904 94 from w522.x _ _ rfl))))
    have w611 : 0 ≤ Xi S 904 94 ∧ Xi S 904 94 ≤ 1700 := hH.c _ _
    have w612 : Xi T45 904 98 = Xi S 904 98 := (show Xi T45 904 98 = Xi U44 904 98 from w584.x _ _ rfl).trans ( (show Xi U44 904 98 = Xi T43 904 98 from by rw [eU44]; exact Xi_ne (by omega)).trans ( (show Xi T43 904 98 = Xi T42 904 98 from w553.x _ _ rfl).trans ((show Xi T42 904 98 = Xi S 904 98 from w522.x _ _ rfl))))
    have w613 : 0 ≤ Xi S 904 98 ∧ Xi S 904 98 ≤ 1700 := hH.c _ _
    exact Rl_weak (C58 _ T45 hHT45 hFT45 ((if 23 < (Xi S 904 130) then 23 else (Xi S 904 130))) (((Xi S 904 117) + (Xi S 904 94))) (0) (by omega) (by omega) (by omega) (by omega) (by omega) (by omega) (by omega) (by omega) (by omega) (by omega) (by omega) (by omega) (by omega) (by omega) (by omega) (by omega) (by omega) (by omega) (by omega) ((RLH_FR w584 rfl (RLH_FR (FR_e eU44) rfl (by assumption : RLH T43 _)))) ((KRL_FR w584 rfl (KRL_FR (FR_e eU44) rfl (by assumption : KRL T43 _ _)))) (by first | exact Q106 | exact (by assumption : KQL T45 _ _)) (by first | exact H106 | exact (KHL_FR w584 rfl (KHL_FR (FR_e eU44) rfl (KHL_FR w553 rfl (KHL_FR w522 rfl (by assumption : KHL S _ _)))))) ((K78_FR w584 rfl (K78_FR (FR_e eU44) rfl (K78_FR w553 rfl (K78_FR w522 rfl (by assumption : K78 S _)))))) ((GR_FR w584 rfl (GR_FR (FR_e eU44) rfl (GR_FR w553 rfl (GR_FR w522 rfl GR.rf))))) (by first | exact t7_106 | exact t7_42) (by first | exact P106 | exact fun x j hj => absurd hj (by omega)) rfl) (And.intro rfl (And.intro rfl (And.intro rfl (And.intro rfl (True.intro)))))

