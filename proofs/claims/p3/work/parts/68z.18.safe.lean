/-! SAFETY of methods: printed by wip/safe (vc.py, decl.py) -/
set_option maxRecDepth 100000 in
set_option maxHeartbeats 1000000 in
theorem c300_mo_does {S : sS} (hH : HI S) (n : Nat) (first : Int) (hfirst : 0 ≤ first ∧ first ≤ 5001) (hT : TK S n) (hv : RNV S n) (hK : TXK S n) (hI : TIX S) (hq : SNQ S n) (hk : DOK S) (h11 : Xi S 904 70 = 11 → -1 ≤ Xi S 904 78) (d : Nat) : ∀ (n300 : Nat) (T15 : sS) (_ : HI T15) (_ : FR md_mo_does S T15) (v2 : Int), (0 ≤ v2 ∧ v2 ≤ 2600) → (Xi T15 904 69 = Xi S 904 69) → (Xi T15 904 71 = Xi S 904 71) → (Xi T15 904 72 = Xi S 904 72) → (Xi T15 904 78 = Xi S 904 78) → (Xi T15 904 60 = Xi S 904 60) → (Xi T15 904 19 = Xi S 904 19) → (Xi T15 904 16 = Xi S 904 16) → (Xi T15 904 23 = Xi S 904 23) → (Xi T15 904 117 = Xi S 904 117) → (v2 ≤ Xi S 904 72) → (Xi S 904 70 = 11) → (Xi T15 904 49 = Xi S 904 49 + v2) → (LXM T15) → (LCN T15) → (GR T15 S) → (LXK T15 S (Xi S 904 15)) → (Xi S 904 15 ≤ Xi T15 904 15) → (TXM T15) → (WYM T15) → (ABV T15) → (DCM T15) → (VTM T15) → (VCN T15) → (WYD T15) → n300 = (2601 - v2).toNat → Rl lay0 (d + 7) m_mo_does 300 [(0, .ref 904), (2, iv v2)] [] T15 (Q_mo_does S n first) := by
  have hF : FR md_mo_does S S := FR.rf
  have w1 : 0 ≤ Xi S 904 117 ∧ Xi S 904 117 ≤ 480 := hH.c _ _
  have w2 : 0 ≤ Xi S 904 15 ∧ Xi S 904 15 ≤ 300 := hH.c _ _
  have w3 : 0 ≤ Xi S 904 16 ∧ Xi S 904 16 ≤ 16 := hH.c _ _
  have w4 : 0 ≤ Xi S 904 18 ∧ Xi S 904 18 ≤ 8 := hH.c _ _
  have w5 : 0 ≤ Xi S 904 19 ∧ Xi S 904 19 ≤ 24 := hH.c _ _
  have w6 : 0 ≤ Xi S 904 23 ∧ Xi S 904 23 ≤ 24 := hH.c _ _
  have w7 : 0 ≤ Xi S 904 30 ∧ Xi S 904 30 ≤ 64 := hH.c _ _
  have w8 : 0 ≤ Xi S 904 32 ∧ Xi S 904 32 ≤ 12 := hH.c _ _
  have w9 : 0 ≤ Xi S 904 41 ∧ Xi S 904 41 ≤ 6 := hH.c _ _
  have w10 : 0 ≤ Xi S 904 47 ∧ Xi S 904 47 ≤ 8 := hH.c _ _
  have w11 : 0 ≤ Xi S 904 49 ∧ Xi S 904 49 ≤ 12 := hH.c _ _
  have w12 : -1 ≤ Xi S 904 60 ∧ Xi S 904 60 ≤ 23 := hH.c _ _
  have w13 : 0 ≤ Xi S 904 69 ∧ Xi S 904 69 ≤ 2600 := hH.c _ _
  have w14 : 0 ≤ Xi S 904 70 ∧ Xi S 904 70 ≤ 20 := hH.c _ _
  have w15 : 0 ≤ Xi S 904 71 ∧ Xi S 904 71 ≤ 2600 := hH.c _ _
  have w16 : 0 ≤ Xi S 904 72 ∧ Xi S 904 72 ≤ 2600 := hH.c _ _
  have w17 : -2 ≤ Xi S 904 78 ∧ Xi S 904 78 ≤ 5010 := hH.c _ _
  have hX : TXM S := hI.1
  have hW : WYM S := hI.2.1
  have hM : LXM S := hI.2.2.1
  have hLC : LCN S := hI.2.2.2.1
  have hB : ABV S := hI.2.2.2.2.1
  have hC : DCM S := hI.2.2.2.2.2.1
  have hV : VTM S := hI.2.2.2.2.2.2.1
  have hVC : VCN S := hI.2.2.2.2.2.2.2.1
  have hWD : WYD S := hI.2.2.2.2.2.2.2.2.1
  have hRD : RDT S := hI.2.2.2.2.2.2.2.2.2.1
  have hAK : AKR S := hI.2.2.2.2.2.2.2.2.2.2.1
  have hd6 : Xi S 904 60 < Xi S 904 19 := hI.2.2.2.2.2.2.2.2.2.2.2.1
  have h16 : 2 ≤ Xi S 904 16 := hI.2.2.2.2.2.2.2.2.2.2.2.2
  have h32 : 1 ≤ Xi S 904 32 := hAK.2.2.2.2.2.2.2
  have hn5 := hT.1
  have hc69 : 0 ≤ Xi S 904 69 ∧ Xi S 904 69 ≤ 2600 := hH.c _ _
  have hc70 : 0 ≤ Xi S 904 70 ∧ Xi S 904 70 ≤ 20 := hH.c _ _
  have hc16 : 0 ≤ Xi S 904 16 ∧ Xi S 904 16 ≤ 16 := hH.c _ _
  have hc18 : 0 ≤ Xi S 904 18 ∧ Xi S 904 18 ≤ 8 := hH.c _ _
  have hc19 : 0 ≤ Xi S 904 19 ∧ Xi S 904 19 ≤ 24 := hH.c _ _
  have hc23 : 0 ≤ Xi S 904 23 ∧ Xi S 904 23 ≤ 24 := hH.c _ _
  have hc30 : 0 ≤ Xi S 904 30 ∧ Xi S 904 30 ≤ 64 := hH.c _ _
  have hc32 : 0 ≤ Xi S 904 32 ∧ Xi S 904 32 ≤ 12 := hH.c _ _
  have hc41 : 0 ≤ Xi S 904 41 ∧ Xi S 904 41 ≤ 6 := hH.c _ _
  have hc47 : 0 ≤ Xi S 904 47 ∧ Xi S 904 47 ≤ 8 := hH.c _ _
  have hc49 : 0 ≤ Xi S 904 49 ∧ Xi S 904 49 ≤ 12 := hH.c _ _
  have hc15 : 0 ≤ Xi S 904 15 ∧ Xi S 904 15 ≤ 300 := hH.c _ _
  have hc117 : 0 ≤ Xi S 904 117 ∧ Xi S 904 117 ≤ 480 := hH.c _ _
  have hc125 : 0 ≤ Xi S 904 125 ∧ Xi S 904 125 ≤ 192 := hH.c _ _
  have hc130 : 0 ≤ Xi S 904 130 ∧ Xi S 904 130 ≤ 24 := hH.c _ _
  have hl9 := lcn_le hH hLC
  intro n300
  induction n300 using Nat.strongRecOn with
  | ind n300 ih300 =>
    intro T15 hHT15 hFT15 v2 w286 w287 w288 w289 w290 w291 w292 w293 w294 w295 w296 w297 w298 M300 L300 G300 K300 w299 X300 W300 B300 C300 V300 VC300 WD300 hm300
    have w300 : Xi T15 904 110 = Xi S 904 110 := hFT15.x _ _ rfl
    have w301 : Xi T15 904 112 = Xi S 904 112 := hFT15.x _ _ rfl
    have w302 : Xi T15 904 142 = Xi S 904 142 := hFT15.x _ _ rfl
    have w303 : Xi T15 904 69 = Xi S 904 69 := hFT15.x _ _ rfl
    have w304 : Xi T15 904 70 = Xi S 904 70 := hFT15.x _ _ rfl
    have w305 : Xi T15 904 71 = Xi S 904 71 := hFT15.x _ _ rfl
    have w306 : Xi T15 904 72 = Xi S 904 72 := hFT15.x _ _ rfl
    have w307 : Xi T15 904 74 = Xi S 904 74 := hFT15.x _ _ rfl
    have w308 : Xi T15 904 78 = Xi S 904 78 := hFT15.x _ _ rfl
    have w309 : Xi T15 904 94 = Xi S 904 94 := hFT15.x _ _ rfl
    have w310 : Xi T15 951 1 = Xi S 951 1 := hFT15.x _ _ rfl
    have w311 : Xi T15 951 2 = Xi S 951 2 := hFT15.x _ _ rfl
    have w312 : Xi T15 967 0 = Xi S 967 0 := hFT15.x _ _ rfl
    have w313 : 0 ≤ Xi T15 904 117 ∧ Xi T15 904 117 ≤ 480 := hHT15.c _ _
    have w314 : 0 ≤ Xi T15 904 15 ∧ Xi T15 904 15 ≤ 300 := hHT15.c _ _
    have w315 : 0 ≤ Xi T15 904 16 ∧ Xi T15 904 16 ≤ 16 := hHT15.c _ _
    have w316 : 0 ≤ Xi T15 904 19 ∧ Xi T15 904 19 ≤ 24 := hHT15.c _ _
    have w317 : 0 ≤ Xi T15 904 23 ∧ Xi T15 904 23 ≤ 24 := hHT15.c _ _
    have w318 : 0 ≤ Xi T15 904 49 ∧ Xi T15 904 49 ≤ 12 := hHT15.c _ _
    have w319 : -1 ≤ Xi T15 904 60 ∧ Xi T15 904 60 ≤ 23 := hHT15.c _ _
    have w320 : 0 ≤ Xi T15 904 69 ∧ Xi T15 904 69 ≤ 2600 := hHT15.c _ _
    have w321 : 0 ≤ Xi T15 904 71 ∧ Xi T15 904 71 ≤ 2600 := hHT15.c _ _
    have w322 : 0 ≤ Xi T15 904 72 ∧ Xi T15 904 72 ≤ 2600 := hHT15.c _ _
    have w323 : -2 ≤ Xi T15 904 78 ∧ Xi T15 904 78 ≤ 5010 := hHT15.c _ _
    refine l_iload_n rfl rfl ?_
    have d300 := hk.2.2.2.2.2.2.2.1 (by omega)
    have s300 := hq.2.2.2.2.2.1 (by omega)
    have x300 := hq.2.2.2.2.2.2.1 (by omega)
    have a300 := d300.1
    have y300 : -1 ≤ Xi S 904 78 := h11 (by omega)
    refine l_aload_n rfl rfl ?_
    refine l_gfi rfl rfl rfl rfl rfl ?_
    refine l_icmp_ge rfl rfl (by unfold rg; omega) (by unfold rg; omega) (fun w324 => ?_) (fun w325 => ?_)
    · refine l_goto rfl rfl ?_
      refine l_return rfl rfl ?_
      have w326 : 0 ≤ Xi T15 904 117 ∧ Xi T15 904 117 ≤ 480 := hHT15.c _ _
      have w327 : 0 ≤ Xi T15 904 15 ∧ Xi T15 904 15 ≤ 300 := hHT15.c _ _
      have w328 : 0 ≤ Xi T15 904 16 ∧ Xi T15 904 16 ≤ 16 := hHT15.c _ _
      have w329 : 0 ≤ Xi T15 904 19 ∧ Xi T15 904 19 ≤ 24 := hHT15.c _ _
      have w330 : 0 ≤ Xi T15 904 23 ∧ Xi T15 904 23 ≤ 24 := hHT15.c _ _
      have w331 : -1 ≤ Xi T15 904 60 ∧ Xi T15 904 60 ≤ 23 := hHT15.c _ _
      exact ⟨hHT15, hFT15, rfl, (⟨by first | assumption | exact (by assumption : TXM T15), by first | assumption | exact (by assumption : WYM T15), by first | assumption | exact (by assumption : LXM T15), by first | assumption | exact (by assumption : LCN T15), by first | assumption | exact (by assumption : ABV T15), by first | assumption | exact (by assumption : DCM T15), by first | assumption | exact (by assumption : VTM T15), by first | assumption | exact (by assumption : VCN T15), by first | assumption | exact (by assumption : WYD T15), by first | assumption | exact (by assumption : RDT T15) | exact rdt_df hRD (by assumption : GR T15 S) df153 (by omega) (by omega) (by omega) (hFT15.x 904 125 rfl) (hFT15.x 904 130 rfl) (smk_q9 hFT15 rfl) dn153 | exact rdt_gr hRD (by first | assumption | exact (by assumption : GR T15 S)) (by omega) (hFT15.x 904 125 rfl) (hFT15.x 904 130 rfl) (smk_q9 hFT15 rfl) (fun a x y => absurd y (by omega)), akr_gr hAK (by first | assumption | exact (by assumption : GR T15 S)), by first | omega | (have g := (by first | assumption | exact (by assumption : GR T15 S) : GR T15 S); have t := g.1; omega), by first | omega | (have g := (by first | assumption | exact (by assumption : GR T15 S) : GR T15 S); have t := g.1; omega)⟩)⟩
    · refine l_aload_n rfl rfl ?_
      refine l_bipush rfl rfl ?_
      refine l_aload_n rfl rfl ?_
      refine l_aload_n rfl rfl ?_
      refine l_gfi rfl rfl rfl rfl rfl ?_
      refine l_iconst rfl ?_
      refine l_icmp_ne rfl rfl (by unfold rg; omega) (by unfold rg; omega) (fun w332 => ?_) (fun w333 => ?_)
      · refine l_aload_n rfl rfl ?_
        refine l_aload_n rfl rfl ?_
        refine l_gfi rfl rfl rfl rfl rfl ?_
        refine l_iconst rfl ?_
        have w334 : 0 ≤ Xi T15 904 117 ∧ Xi T15 904 117 ≤ 480 := hHT15.c _ _
        have w335 : 0 ≤ Xi T15 904 15 ∧ Xi T15 904 15 ≤ 300 := hHT15.c _ _
        have w336 : 0 ≤ Xi T15 904 16 ∧ Xi T15 904 16 ≤ 16 := hHT15.c _ _
        have w337 : 0 ≤ Xi T15 904 19 ∧ Xi T15 904 19 ≤ 24 := hHT15.c _ _
        have w338 : 0 ≤ Xi T15 904 23 ∧ Xi T15 904 23 ≤ 24 := hHT15.c _ _
        have w339 : -1 ≤ Xi T15 904 60 ∧ Xi T15 904 60 ≤ 23 := hHT15.c _ _
        have w340 : 0 ≤ Xi T15 904 69 ∧ Xi T15 904 69 ≤ 2600 := hHT15.c _ _
        refine l_callV rfl rfl rfl (t_mo_meansRun__2 hHT15 n (Xi T15 904 78) 0 ⟨by omega, by omega⟩ ⟨by omega, by omega⟩ (by first | assumption | exact (TK_FR hFT15 rfl (by assumption : TK S _))) (by first | assumption | exact (RNV_FR hFT15 rfl (by assumption : RNV S _))) (by first | assumption | omega) (by first | assumption | exact (by assumption : LXM T15)) _) ?_
        rintro _ _ ⟨rfl, z343, rfl, w343, w341, w342⟩
        show Rl _ _ _ _ _ [iv z343, .ref 904, iv 11, .ref 904] _ _
        have x330 : z343 ≠ -1 → z343 < 16 := fun q => by have t := (by assumption : z343 ≠ -1 → z343 < cM T15 0) q; rw [cM0] at t; have u : Xi T15 904 16 ≤ 16 := (hHT15.c 904 16).2; omega
        have w344 : 0 ≤ Xi T15 904 117 ∧ Xi T15 904 117 ≤ 480 := hHT15.c _ _
        have w345 : 0 ≤ Xi T15 904 15 ∧ Xi T15 904 15 ≤ 300 := hHT15.c _ _
        have w346 : 0 ≤ Xi T15 904 16 ∧ Xi T15 904 16 ≤ 16 := hHT15.c _ _
        have w347 : 0 ≤ Xi T15 904 19 ∧ Xi T15 904 19 ≤ 24 := hHT15.c _ _
        have w348 : 0 ≤ Xi T15 904 23 ∧ Xi T15 904 23 ≤ 24 := hHT15.c _ _
        have w349 : 0 ≤ Xi T15 904 49 ∧ Xi T15 904 49 ≤ 12 := hHT15.c _ _
        have w350 : -1 ≤ Xi T15 904 60 ∧ Xi T15 904 60 ≤ 23 := hHT15.c _ _
        refine l_callV rfl rfl rfl (t_mo_addAction hHT15 z343 ⟨by omega, by omega⟩ (by first | assumption | omega) _) ?_
        rintro _ T16 ⟨hHT16, w354, z353, rfl, w353, w351, w352, k333⟩
        have hFT16 : FR md_mo_does S T16 := FR.tr hFT15 w354 rfl
        show Rl _ _ _ _ _ [iv z353, iv 11, .ref 904] _ _
        have g333 : GR T16 T15 := gr_m GR.rf (Int.le_of_eq ((by assumption : FR md_mo_addAction T15 T16).x 904 16 rfl).symm) (Int.le_of_eq ((by assumption : FR md_mo_addAction T15 T16).x 904 18 rfl).symm) (Int.le_of_eq ((by assumption : FR md_mo_addAction T15 T16).x 904 19 rfl).symm) (Int.le_of_eq ((by assumption : FR md_mo_addAction T15 T16).x 904 23 rfl).symm) (Int.le_of_eq ((by assumption : FR md_mo_addAction T15 T16).x 904 30 rfl).symm) (Int.le_of_eq ((by assumption : FR md_mo_addAction T15 T16).x 904 32 rfl).symm) (Int.le_of_eq ((by assumption : FR md_mo_addAction T15 T16).x 904 41 rfl).symm) (Int.le_of_eq ((by assumption : FR md_mo_addAction T15 T16).x 904 47 rfl).symm) (by omega) (fun i _ => ⟨((by assumption : FR md_mo_addAction T15 T16).cx 922 rfl i).1, ((by assumption : FR md_mo_addAction T15 T16).cx 923 rfl i).1, ((by assumption : FR md_mo_addAction T15 T16).cx 924 rfl i).1⟩) (fun i _ => ((by assumption : FR md_mo_addAction T15 T16).cx 928 rfl i).1) (fun i hi => k333.2 i hi)
        have x333 : LXK T16 T15 (Xi T15 904 15) := LXK_FR (by assumption : FR md_mo_addAction T15 T16) rfl
        have c333 : Xi T16 904 15 = Xi T15 904 15 := (by assumption : FR md_mo_addAction T15 T16).x 904 15 rfl
        refine l_aload_n rfl rfl ?_
        refine l_gfi rfl rfl rfl rfl rfl ?_
        have w355 : (Xi T16 904 71) = (Xi T15 904 71) := (show Xi T16 904 71 = Xi T15 904 71 from w354.x _ _ rfl)
        rw [w355]
        refine l_iload_n rfl rfl ?_
        refine l_iadd rfl ?_
        have w356 : Xi T16 904 117 = Xi T15 904 117 := (show Xi T16 904 117 = Xi T15 904 117 from w354.x _ _ rfl)
        have w357 : 0 ≤ Xi T15 904 117 ∧ Xi T15 904 117 ≤ 480 := hHT15.c _ _
        have w358 : Xi T16 904 15 = Xi T15 904 15 := (show Xi T16 904 15 = Xi T15 904 15 from w354.x _ _ rfl)
        have w359 : 0 ≤ Xi T15 904 15 ∧ Xi T15 904 15 ≤ 300 := hHT15.c _ _
        have w360 : Xi T16 904 16 = Xi T15 904 16 := (show Xi T16 904 16 = Xi T15 904 16 from w354.x _ _ rfl)
        have w361 : 0 ≤ Xi T15 904 16 ∧ Xi T15 904 16 ≤ 16 := hHT15.c _ _
        have w362 : Xi T16 904 19 = Xi T15 904 19 := (show Xi T16 904 19 = Xi T15 904 19 from w354.x _ _ rfl)
        have w363 : 0 ≤ Xi T15 904 19 ∧ Xi T15 904 19 ≤ 24 := hHT15.c _ _
        have w364 : Xi T16 904 23 = Xi T15 904 23 := (show Xi T16 904 23 = Xi T15 904 23 from w354.x _ _ rfl)
        have w365 : 0 ≤ Xi T15 904 23 ∧ Xi T15 904 23 ≤ 24 := hHT15.c _ _
        have w366 : Xi T16 904 60 = Xi T15 904 60 := (show Xi T16 904 60 = Xi T15 904 60 from w354.x _ _ rfl)
        have w367 : -1 ≤ Xi T15 904 60 ∧ Xi T15 904 60 ≤ 23 := hHT15.c _ _
        have w368 : Xi T16 904 69 = Xi T15 904 69 := (show Xi T16 904 69 = Xi T15 904 69 from w354.x _ _ rfl)
        have w369 : 0 ≤ Xi T15 904 69 ∧ Xi T15 904 69 ≤ 2600 := hHT15.c _ _
        refine l_callV rfl rfl rfl (t_mo_tellRun hHT16 n 11 z353 ((Xi T15 904 71) + v2) ⟨by omega, by omega⟩ ⟨by omega, by omega⟩ ⟨by omega, by omega⟩ (by first | assumption | exact (TK_FR hFT16 rfl (by assumption : TK S _))) (by first | assumption | exact (RNV_FR hFT16 rfl (by assumption : RNV S _))) (by first | assumption | omega) (by first | (rw [(hFT16.cx 951 rfl _).1]; exact d382.2.2.1) | (rw [(hFT16.cx 951 rfl _).1]; exact d382.2.2.2) | (rw [(hFT16.cx 951 rfl _).1]; exact d426.2.1) | (rw [(hFT16.cx 951 rfl _).1]; have t := d300.2.2 v2 (by omega) (by omega); rw [show Xi T15 904 71 = Xi S 904 71 by omega]; exact t)) (by first | omega | (have t := lcn_le hHT15 L300; omega)) _) ?_
        rintro _ T17 ⟨hHT17, w372, rfl, w370, e342, k342⟩
        have hFT17 : FR md_mo_does S T17 := FR.tr hFT16 w372 rfl
        show Rl _ _ _ _ _ [] _ _
        have g342 : GR T17 T15 := GR_FR (by assumption : FR md_mo_tellRun T16 T17) rfl g333
        have x342 : LXK T17 T15 (Xi T15 904 15) := x333.tr k342 (by omega)
        have d342 : Xi T17 914 (Xi T15 904 15).toNat = 11 ∧ Xi T17 915 (Xi T15 904 15).toNat = Xi T15 904 49 := by rw [← c333]; exact ⟨e342.1, by rw [e342.2]; omega⟩
        have c342 : 0 ≤ Xi T15 904 15 := (hHT15.c 904 15).1
        have f342 : Xi T17 904 49 = Xi T15 904 49 + 1 := by have t : Xi T17 904 49 = Xi T16 904 49 := (by assumption : FR md_mo_tellRun T16 T17).x 904 49 rfl; omega
        have M342 : LXM T17 := lxm_gr M300 x342 g342 (by omega) (Or.inr ⟨by omega, by rw [d342.1, d342.2, cM11]; omega⟩)
        have y342_16 : Xi T17 904 16 = Xi T15 904 16 := ((show Xi T17 904 16 = Xi T16 904 16 from w372.x _ _ rfl).trans ((show Xi T16 904 16 = Xi T15 904 16 from w354.x _ _ rfl)))
        have y342_18 : Xi T17 904 18 = Xi T15 904 18 := ((show Xi T17 904 18 = Xi T16 904 18 from w372.x _ _ rfl).trans ((show Xi T16 904 18 = Xi T15 904 18 from w354.x _ _ rfl)))
        have y342_19 : Xi T17 904 19 = Xi T15 904 19 := ((show Xi T17 904 19 = Xi T16 904 19 from w372.x _ _ rfl).trans ((show Xi T16 904 19 = Xi T15 904 19 from w354.x _ _ rfl)))
        have y342_23 : Xi T17 904 23 = Xi T15 904 23 := ((show Xi T17 904 23 = Xi T16 904 23 from w372.x _ _ rfl).trans ((show Xi T16 904 23 = Xi T15 904 23 from w354.x _ _ rfl)))
        have y342_30 : Xi T17 904 30 = Xi T15 904 30 := ((show Xi T17 904 30 = Xi T16 904 30 from w372.x _ _ rfl).trans ((show Xi T16 904 30 = Xi T15 904 30 from w354.x _ _ rfl)))
        have y342_32 : Xi T17 904 32 = Xi T15 904 32 := ((show Xi T17 904 32 = Xi T16 904 32 from w372.x _ _ rfl).trans ((show Xi T16 904 32 = Xi T15 904 32 from w354.x _ _ rfl)))
        have y342_41 : Xi T17 904 41 = Xi T15 904 41 := ((show Xi T17 904 41 = Xi T16 904 41 from w372.x _ _ rfl).trans ((show Xi T16 904 41 = Xi T15 904 41 from w354.x _ _ rfl)))
        have y342_47 : Xi T17 904 47 = Xi T15 904 47 := ((show Xi T17 904 47 = Xi T16 904 47 from w372.x _ _ rfl).trans ((show Xi T16 904 47 = Xi T15 904 47 from w354.x _ _ rfl)))
        have L342 : LCN T17 := lcn_i L300 (pls_le x342 (by omega) (by omega) (by omega)) (by omega)
        refine l_iinc rfl rfl rfl rfl ?_
        refine l_goto rfl rfl ?_
        have w373 : Xi T17 904 117 = Xi T15 904 117 := (show Xi T17 904 117 = Xi T16 904 117 from w372.x _ _ rfl).trans ((show Xi T16 904 117 = Xi T15 904 117 from w354.x _ _ rfl))
        have w374 : 0 ≤ Xi T15 904 117 ∧ Xi T15 904 117 ≤ 480 := hHT15.c _ _
        have w375 : 0 ≤ Xi T17 904 15 ∧ Xi T17 904 15 ≤ 300 := hHT17.c _ _
        have w376 : Xi T17 904 16 = Xi T15 904 16 := (show Xi T17 904 16 = Xi T16 904 16 from w372.x _ _ rfl).trans ((show Xi T16 904 16 = Xi T15 904 16 from w354.x _ _ rfl))
        have w377 : 0 ≤ Xi T15 904 16 ∧ Xi T15 904 16 ≤ 16 := hHT15.c _ _
        have w378 : Xi T17 904 19 = Xi T15 904 19 := (show Xi T17 904 19 = Xi T16 904 19 from w372.x _ _ rfl).trans ((show Xi T16 904 19 = Xi T15 904 19 from w354.x _ _ rfl))
        have w379 : 0 ≤ Xi T15 904 19 ∧ Xi T15 904 19 ≤ 24 := hHT15.c _ _
        have w380 : Xi T17 904 23 = Xi T15 904 23 := (show Xi T17 904 23 = Xi T16 904 23 from w372.x _ _ rfl).trans ((show Xi T16 904 23 = Xi T15 904 23 from w354.x _ _ rfl))
        have w381 : 0 ≤ Xi T15 904 23 ∧ Xi T15 904 23 ≤ 24 := hHT15.c _ _
        have w382 : Xi T17 904 49 = Xi T16 904 49 := (show Xi T17 904 49 = Xi T16 904 49 from w372.x _ _ rfl)
        have w383 : 0 ≤ Xi T16 904 49 ∧ Xi T16 904 49 ≤ 12 := hHT16.c _ _
        have w384 : Xi T17 904 60 = Xi T15 904 60 := (show Xi T17 904 60 = Xi T16 904 60 from w372.x _ _ rfl).trans ((show Xi T16 904 60 = Xi T15 904 60 from w354.x _ _ rfl))
        have w385 : -1 ≤ Xi T15 904 60 ∧ Xi T15 904 60 ≤ 23 := hHT15.c _ _
        have w386 : Xi T17 904 69 = Xi T15 904 69 := (show Xi T17 904 69 = Xi T16 904 69 from w372.x _ _ rfl).trans ((show Xi T16 904 69 = Xi T15 904 69 from w354.x _ _ rfl))
        have w387 : 0 ≤ Xi T15 904 69 ∧ Xi T15 904 69 ≤ 2600 := hHT15.c _ _
        have w388 : Xi T17 904 71 = Xi T15 904 71 := (show Xi T17 904 71 = Xi T16 904 71 from w372.x _ _ rfl).trans ((show Xi T16 904 71 = Xi T15 904 71 from w354.x _ _ rfl))
        have w389 : 0 ≤ Xi T15 904 71 ∧ Xi T15 904 71 ≤ 2600 := hHT15.c _ _
        have w390 : Xi T17 904 72 = Xi T15 904 72 := (show Xi T17 904 72 = Xi T16 904 72 from w372.x _ _ rfl).trans ((show Xi T16 904 72 = Xi T15 904 72 from w354.x _ _ rfl))
        have w391 : 0 ≤ Xi T15 904 72 ∧ Xi T15 904 72 ≤ 2600 := hHT15.c _ _
        have w392 : Xi T17 904 78 = Xi T15 904 78 := (show Xi T17 904 78 = Xi T16 904 78 from w372.x _ _ rfl).trans ((show Xi T16 904 78 = Xi T15 904 78 from w354.x _ _ rfl))
        have w393 : -2 ≤ Xi T15 904 78 ∧ Xi T15 904 78 ≤ 5010 := hHT15.c _ _
        exact Rl_weak (ih300 _ (by omega) T17 hHT17 hFT17 ((v2 + 1)) (by omega) (by omega) (by omega) (by omega) (by omega) (by omega) (by omega) (by omega) (by omega) (by omega) (by omega) (by omega) (by omega) (by first | assumption | exact (by assumption : LXM T17)) (by first | assumption | exact (by assumption : LCN T17)) (by first | exact GR.rf | exact G300.tr g342) (by first | exact LXK.rf | exact K300.tr x342 (by omega)) (by omega) (by first | assumption | exact (TXM_FR w372 rfl (TXM_FR w354 rfl (by assumption : TXM T15)))) (by first | assumption | exact (WYM_FR w372 rfl (WYM_FR w354 rfl (by assumption : WYM T15)))) (by first | assumption | exact (ABV_FR w372 rfl (ABV_FR w354 rfl (by assumption : ABV T15)))) (by first | assumption | exact (DCM_FR w372 rfl (DCM_FR w354 rfl (by assumption : DCM T15)))) (by first | assumption | exact (VTM_FR w372 rfl (VTM_FR w354 rfl (by assumption : VTM T15)))) (by first | assumption | exact (VCN_FR w372 rfl (VCN_FR w354 rfl (by assumption : VCN T15)))) (by first | assumption | exact (WYD_FR w372 rfl (WYD_FR w354 rfl (by assumption : WYD T15)))) rfl) (And.intro rfl (And.intro rfl (True.intro)))
      · refine l_iconst rfl ?_
        refine l_goto rfl rfl ?_
        have w394 : 0 ≤ Xi T15 904 117 ∧ Xi T15 904 117 ≤ 480 := hHT15.c _ _
        have w395 : 0 ≤ Xi T15 904 15 ∧ Xi T15 904 15 ≤ 300 := hHT15.c _ _
        have w396 : 0 ≤ Xi T15 904 16 ∧ Xi T15 904 16 ≤ 16 := hHT15.c _ _
        have w397 : 0 ≤ Xi T15 904 19 ∧ Xi T15 904 19 ≤ 24 := hHT15.c _ _
        have w398 : 0 ≤ Xi T15 904 23 ∧ Xi T15 904 23 ≤ 24 := hHT15.c _ _
        have w399 : 0 ≤ Xi T15 904 49 ∧ Xi T15 904 49 ≤ 12 := hHT15.c _ _
        have w400 : -1 ≤ Xi T15 904 60 ∧ Xi T15 904 60 ≤ 23 := hHT15.c _ _
        refine l_callV rfl rfl rfl (t_mo_addAction hHT15 (-1) ⟨by omega, by omega⟩ (by first | assumption | omega) _) ?_
        rintro _ T18 ⟨hHT18, w404, z403, rfl, w403, w401, w402, k333⟩
        have hFT18 : FR md_mo_does S T18 := FR.tr hFT15 w404 rfl
        show Rl _ _ _ _ _ [iv z403, iv 11, .ref 904] _ _
        have g333 : GR T18 T15 := gr_m GR.rf (Int.le_of_eq ((by assumption : FR md_mo_addAction T15 T18).x 904 16 rfl).symm) (Int.le_of_eq ((by assumption : FR md_mo_addAction T15 T18).x 904 18 rfl).symm) (Int.le_of_eq ((by assumption : FR md_mo_addAction T15 T18).x 904 19 rfl).symm) (Int.le_of_eq ((by assumption : FR md_mo_addAction T15 T18).x 904 23 rfl).symm) (Int.le_of_eq ((by assumption : FR md_mo_addAction T15 T18).x 904 30 rfl).symm) (Int.le_of_eq ((by assumption : FR md_mo_addAction T15 T18).x 904 32 rfl).symm) (Int.le_of_eq ((by assumption : FR md_mo_addAction T15 T18).x 904 41 rfl).symm) (Int.le_of_eq ((by assumption : FR md_mo_addAction T15 T18).x 904 47 rfl).symm) (by omega) (fun i _ => ⟨((by assumption : FR md_mo_addAction T15 T18).cx 922 rfl i).1, ((by assumption : FR md_mo_addAction T15 T18).cx 923 rfl i).1, ((by assumption : FR md_mo_addAction T15 T18).cx 924 rfl i).1⟩) (fun i _ => ((by assumption : FR md_mo_addAction T15 T18).cx 928 rfl i).1) (fun i hi => k333.2 i hi)
        have x333 : LXK T18 T15 (Xi T15 904 15) := LXK_FR (by assumption : FR md_mo_addAction T15 T18) rfl
        have c333 : Xi T18 904 15 = Xi T15 904 15 := (by assumption : FR md_mo_addAction T15 T18).x 904 15 rfl
        refine l_aload_n rfl rfl ?_
        refine l_gfi rfl rfl rfl rfl rfl ?_
        have w405 : (Xi T18 904 71) = (Xi T15 904 71) := (show Xi T18 904 71 = Xi T15 904 71 from w404.x _ _ rfl)
        rw [w405]
        refine l_iload_n rfl rfl ?_
        refine l_iadd rfl ?_
        have w406 : Xi T18 904 117 = Xi T15 904 117 := (show Xi T18 904 117 = Xi T15 904 117 from w404.x _ _ rfl)
        have w407 : 0 ≤ Xi T15 904 117 ∧ Xi T15 904 117 ≤ 480 := hHT15.c _ _
        have w408 : Xi T18 904 15 = Xi T15 904 15 := (show Xi T18 904 15 = Xi T15 904 15 from w404.x _ _ rfl)
        have w409 : 0 ≤ Xi T15 904 15 ∧ Xi T15 904 15 ≤ 300 := hHT15.c _ _
        have w410 : Xi T18 904 16 = Xi T15 904 16 := (show Xi T18 904 16 = Xi T15 904 16 from w404.x _ _ rfl)
        have w411 : 0 ≤ Xi T15 904 16 ∧ Xi T15 904 16 ≤ 16 := hHT15.c _ _
        have w412 : Xi T18 904 19 = Xi T15 904 19 := (show Xi T18 904 19 = Xi T15 904 19 from w404.x _ _ rfl)
        have w413 : 0 ≤ Xi T15 904 19 ∧ Xi T15 904 19 ≤ 24 := hHT15.c _ _
        have w414 : Xi T18 904 23 = Xi T15 904 23 := (show Xi T18 904 23 = Xi T15 904 23 from w404.x _ _ rfl)
        have w415 : 0 ≤ Xi T15 904 23 ∧ Xi T15 904 23 ≤ 24 := hHT15.c _ _
        have w416 : Xi T18 904 60 = Xi T15 904 60 := (show Xi T18 904 60 = Xi T15 904 60 from w404.x _ _ rfl)
        have w417 : -1 ≤ Xi T15 904 60 ∧ Xi T15 904 60 ≤ 23 := hHT15.c _ _
        have w418 : Xi T18 904 69 = Xi T15 904 69 := (show Xi T18 904 69 = Xi T15 904 69 from w404.x _ _ rfl)
        have w419 : 0 ≤ Xi T15 904 69 ∧ Xi T15 904 69 ≤ 2600 := hHT15.c _ _
        refine l_callV rfl rfl rfl (t_mo_tellRun hHT18 n 11 z403 ((Xi T15 904 71) + v2) ⟨by omega, by omega⟩ ⟨by omega, by omega⟩ ⟨by omega, by omega⟩ (by first | assumption | exact (TK_FR hFT18 rfl (by assumption : TK S _))) (by first | assumption | exact (RNV_FR hFT18 rfl (by assumption : RNV S _))) (by first | assumption | omega) (by first | (rw [(hFT18.cx 951 rfl _).1]; exact d382.2.2.1) | (rw [(hFT18.cx 951 rfl _).1]; exact d382.2.2.2) | (rw [(hFT18.cx 951 rfl _).1]; exact d426.2.1) | (rw [(hFT18.cx 951 rfl _).1]; have t := d300.2.2 v2 (by omega) (by omega); rw [show Xi T15 904 71 = Xi S 904 71 by omega]; exact t)) (by first | omega | (have t := lcn_le hHT15 L300; omega)) _) ?_
        rintro _ T19 ⟨hHT19, w422, rfl, w420, e342, k342⟩
        have hFT19 : FR md_mo_does S T19 := FR.tr hFT18 w422 rfl
        show Rl _ _ _ _ _ [] _ _
        have g342 : GR T19 T15 := GR_FR (by assumption : FR md_mo_tellRun T18 T19) rfl g333
        have x342 : LXK T19 T15 (Xi T15 904 15) := x333.tr k342 (by omega)
        have d342 : Xi T19 914 (Xi T15 904 15).toNat = 11 ∧ Xi T19 915 (Xi T15 904 15).toNat = Xi T15 904 49 := by rw [← c333]; exact ⟨e342.1, by rw [e342.2]; omega⟩
        have c342 : 0 ≤ Xi T15 904 15 := (hHT15.c 904 15).1
        have f342 : Xi T19 904 49 = Xi T15 904 49 + 1 := by have t : Xi T19 904 49 = Xi T18 904 49 := (by assumption : FR md_mo_tellRun T18 T19).x 904 49 rfl; omega
        have M342 : LXM T19 := lxm_gr M300 x342 g342 (by omega) (Or.inr ⟨by omega, by rw [d342.1, d342.2, cM11]; omega⟩)
        have y342_16 : Xi T19 904 16 = Xi T15 904 16 := ((show Xi T19 904 16 = Xi T18 904 16 from w422.x _ _ rfl).trans ((show Xi T18 904 16 = Xi T15 904 16 from w404.x _ _ rfl)))
        have y342_18 : Xi T19 904 18 = Xi T15 904 18 := ((show Xi T19 904 18 = Xi T18 904 18 from w422.x _ _ rfl).trans ((show Xi T18 904 18 = Xi T15 904 18 from w404.x _ _ rfl)))
        have y342_19 : Xi T19 904 19 = Xi T15 904 19 := ((show Xi T19 904 19 = Xi T18 904 19 from w422.x _ _ rfl).trans ((show Xi T18 904 19 = Xi T15 904 19 from w404.x _ _ rfl)))
        have y342_23 : Xi T19 904 23 = Xi T15 904 23 := ((show Xi T19 904 23 = Xi T18 904 23 from w422.x _ _ rfl).trans ((show Xi T18 904 23 = Xi T15 904 23 from w404.x _ _ rfl)))
        have y342_30 : Xi T19 904 30 = Xi T15 904 30 := ((show Xi T19 904 30 = Xi T18 904 30 from w422.x _ _ rfl).trans ((show Xi T18 904 30 = Xi T15 904 30 from w404.x _ _ rfl)))
        have y342_32 : Xi T19 904 32 = Xi T15 904 32 := ((show Xi T19 904 32 = Xi T18 904 32 from w422.x _ _ rfl).trans ((show Xi T18 904 32 = Xi T15 904 32 from w404.x _ _ rfl)))
        have y342_41 : Xi T19 904 41 = Xi T15 904 41 := ((show Xi T19 904 41 = Xi T18 904 41 from w422.x _ _ rfl).trans ((show Xi T18 904 41 = Xi T15 904 41 from w404.x _ _ rfl)))
        have y342_47 : Xi T19 904 47 = Xi T15 904 47 := ((show Xi T19 904 47 = Xi T18 904 47 from w422.x _ _ rfl).trans ((show Xi T18 904 47 = Xi T15 904 47 from w404.x _ _ rfl)))
        have L342 : LCN T19 := lcn_i L300 (pls_le x342 (by omega) (by omega) (by omega)) (by omega)
        refine l_iinc rfl rfl rfl rfl ?_
        refine l_goto rfl rfl ?_
        have w423 : Xi T19 904 117 = Xi T15 904 117 := (show Xi T19 904 117 = Xi T18 904 117 from w422.x _ _ rfl).trans ((show Xi T18 904 117 = Xi T15 904 117 from w404.x _ _ rfl))
        have w424 : 0 ≤ Xi T15 904 117 ∧ Xi T15 904 117 ≤ 480 := hHT15.c _ _
        have w425 : 0 ≤ Xi T19 904 15 ∧ Xi T19 904 15 ≤ 300 := hHT19.c _ _
        have w426 : Xi T19 904 16 = Xi T15 904 16 := (show Xi T19 904 16 = Xi T18 904 16 from w422.x _ _ rfl).trans ((show Xi T18 904 16 = Xi T15 904 16 from w404.x _ _ rfl))
        have w427 : 0 ≤ Xi T15 904 16 ∧ Xi T15 904 16 ≤ 16 := hHT15.c _ _
        have w428 : Xi T19 904 19 = Xi T15 904 19 := (show Xi T19 904 19 = Xi T18 904 19 from w422.x _ _ rfl).trans ((show Xi T18 904 19 = Xi T15 904 19 from w404.x _ _ rfl))
        have w429 : 0 ≤ Xi T15 904 19 ∧ Xi T15 904 19 ≤ 24 := hHT15.c _ _
        have w430 : Xi T19 904 23 = Xi T15 904 23 := (show Xi T19 904 23 = Xi T18 904 23 from w422.x _ _ rfl).trans ((show Xi T18 904 23 = Xi T15 904 23 from w404.x _ _ rfl))
        have w431 : 0 ≤ Xi T15 904 23 ∧ Xi T15 904 23 ≤ 24 := hHT15.c _ _
        have w432 : Xi T19 904 49 = Xi T18 904 49 := (show Xi T19 904 49 = Xi T18 904 49 from w422.x _ _ rfl)
        have w433 : 0 ≤ Xi T18 904 49 ∧ Xi T18 904 49 ≤ 12 := hHT18.c _ _
        have w434 : Xi T19 904 60 = Xi T15 904 60 := (show Xi T19 904 60 = Xi T18 904 60 from w422.x _ _ rfl).trans ((show Xi T18 904 60 = Xi T15 904 60 from w404.x _ _ rfl))
        have w435 : -1 ≤ Xi T15 904 60 ∧ Xi T15 904 60 ≤ 23 := hHT15.c _ _
        have w436 : Xi T19 904 69 = Xi T15 904 69 := (show Xi T19 904 69 = Xi T18 904 69 from w422.x _ _ rfl).trans ((show Xi T18 904 69 = Xi T15 904 69 from w404.x _ _ rfl))
        have w437 : 0 ≤ Xi T15 904 69 ∧ Xi T15 904 69 ≤ 2600 := hHT15.c _ _
        have w438 : Xi T19 904 71 = Xi T15 904 71 := (show Xi T19 904 71 = Xi T18 904 71 from w422.x _ _ rfl).trans ((show Xi T18 904 71 = Xi T15 904 71 from w404.x _ _ rfl))
        have w439 : 0 ≤ Xi T15 904 71 ∧ Xi T15 904 71 ≤ 2600 := hHT15.c _ _
        have w440 : Xi T19 904 72 = Xi T15 904 72 := (show Xi T19 904 72 = Xi T18 904 72 from w422.x _ _ rfl).trans ((show Xi T18 904 72 = Xi T15 904 72 from w404.x _ _ rfl))
        have w441 : 0 ≤ Xi T15 904 72 ∧ Xi T15 904 72 ≤ 2600 := hHT15.c _ _
        have w442 : Xi T19 904 78 = Xi T15 904 78 := (show Xi T19 904 78 = Xi T18 904 78 from w422.x _ _ rfl).trans ((show Xi T18 904 78 = Xi T15 904 78 from w404.x _ _ rfl))
        have w443 : -2 ≤ Xi T15 904 78 ∧ Xi T15 904 78 ≤ 5010 := hHT15.c _ _
        exact Rl_weak (ih300 _ (by omega) T19 hHT19 hFT19 ((v2 + 1)) (by omega) (by omega) (by omega) (by omega) (by omega) (by omega) (by omega) (by omega) (by omega) (by omega) (by omega) (by omega) (by omega) (by first | assumption | exact (by assumption : LXM T19)) (by first | assumption | exact (by assumption : LCN T19)) (by first | exact GR.rf | exact G300.tr g342) (by first | exact LXK.rf | exact K300.tr x342 (by omega)) (by omega) (by first | assumption | exact (TXM_FR w422 rfl (TXM_FR w404 rfl (by assumption : TXM T15)))) (by first | assumption | exact (WYM_FR w422 rfl (WYM_FR w404 rfl (by assumption : WYM T15)))) (by first | assumption | exact (ABV_FR w422 rfl (ABV_FR w404 rfl (by assumption : ABV T15)))) (by first | assumption | exact (DCM_FR w422 rfl (DCM_FR w404 rfl (by assumption : DCM T15)))) (by first | assumption | exact (VTM_FR w422 rfl (VTM_FR w404 rfl (by assumption : VTM T15)))) (by first | assumption | exact (VCN_FR w422 rfl (VCN_FR w404 rfl (by assumption : VCN T15)))) (by first | assumption | exact (WYD_FR w422 rfl (WYD_FR w404 rfl (by assumption : WYD T15)))) rfl) (And.intro rfl (And.intro rfl (True.intro)))
set_option maxRecDepth 100000 in
set_option maxHeartbeats 1000000 in
theorem c298_mo_does {S : sS} (hH : HI S) (n : Nat) (first : Int) (hfirst : 0 ≤ first ∧ first ≤ 5001) (hT : TK S n) (hv : RNV S n) (hK : TXK S n) (hI : TIX S) (hq : SNQ S n) (hk : DOK S) (h11 : Xi S 904 70 = 11 → -1 ≤ Xi S 904 78) (d : Nat) : (Xi S 904 70 = 11) → Rl lay0 (d + 7) m_mo_does 298 [(0, .ref 904)] [] S (Q_mo_does S n first) := by
  have C300 := c300_mo_does hH n first hfirst hT hv hK hI hq hk h11 d 
  have hF : FR md_mo_does S S := FR.rf
  have w1 : 0 ≤ Xi S 904 117 ∧ Xi S 904 117 ≤ 480 := hH.c _ _
  have w2 : 0 ≤ Xi S 904 15 ∧ Xi S 904 15 ≤ 300 := hH.c _ _
  have w3 : 0 ≤ Xi S 904 16 ∧ Xi S 904 16 ≤ 16 := hH.c _ _
  have w4 : 0 ≤ Xi S 904 18 ∧ Xi S 904 18 ≤ 8 := hH.c _ _
  have w5 : 0 ≤ Xi S 904 19 ∧ Xi S 904 19 ≤ 24 := hH.c _ _
  have w6 : 0 ≤ Xi S 904 23 ∧ Xi S 904 23 ≤ 24 := hH.c _ _
  have w7 : 0 ≤ Xi S 904 30 ∧ Xi S 904 30 ≤ 64 := hH.c _ _
  have w8 : 0 ≤ Xi S 904 32 ∧ Xi S 904 32 ≤ 12 := hH.c _ _
  have w9 : 0 ≤ Xi S 904 41 ∧ Xi S 904 41 ≤ 6 := hH.c _ _
  have w10 : 0 ≤ Xi S 904 47 ∧ Xi S 904 47 ≤ 8 := hH.c _ _
  have w11 : 0 ≤ Xi S 904 49 ∧ Xi S 904 49 ≤ 12 := hH.c _ _
  have w12 : -1 ≤ Xi S 904 60 ∧ Xi S 904 60 ≤ 23 := hH.c _ _
  have w13 : 0 ≤ Xi S 904 69 ∧ Xi S 904 69 ≤ 2600 := hH.c _ _
  have w14 : 0 ≤ Xi S 904 70 ∧ Xi S 904 70 ≤ 20 := hH.c _ _
  have w15 : 0 ≤ Xi S 904 71 ∧ Xi S 904 71 ≤ 2600 := hH.c _ _
  have w16 : 0 ≤ Xi S 904 72 ∧ Xi S 904 72 ≤ 2600 := hH.c _ _
  have w17 : -2 ≤ Xi S 904 78 ∧ Xi S 904 78 ≤ 5010 := hH.c _ _
  have hX : TXM S := hI.1
  have hW : WYM S := hI.2.1
  have hM : LXM S := hI.2.2.1
  have hLC : LCN S := hI.2.2.2.1
  have hB : ABV S := hI.2.2.2.2.1
  have hC : DCM S := hI.2.2.2.2.2.1
  have hV : VTM S := hI.2.2.2.2.2.2.1
  have hVC : VCN S := hI.2.2.2.2.2.2.2.1
  have hWD : WYD S := hI.2.2.2.2.2.2.2.2.1
  have hRD : RDT S := hI.2.2.2.2.2.2.2.2.2.1
  have hAK : AKR S := hI.2.2.2.2.2.2.2.2.2.2.1
  have hd6 : Xi S 904 60 < Xi S 904 19 := hI.2.2.2.2.2.2.2.2.2.2.2.1
  have h16 : 2 ≤ Xi S 904 16 := hI.2.2.2.2.2.2.2.2.2.2.2.2
  have h32 : 1 ≤ Xi S 904 32 := hAK.2.2.2.2.2.2.2
  have hn5 := hT.1
  have hc69 : 0 ≤ Xi S 904 69 ∧ Xi S 904 69 ≤ 2600 := hH.c _ _
  have hc70 : 0 ≤ Xi S 904 70 ∧ Xi S 904 70 ≤ 20 := hH.c _ _
  have hc16 : 0 ≤ Xi S 904 16 ∧ Xi S 904 16 ≤ 16 := hH.c _ _
  have hc18 : 0 ≤ Xi S 904 18 ∧ Xi S 904 18 ≤ 8 := hH.c _ _
  have hc19 : 0 ≤ Xi S 904 19 ∧ Xi S 904 19 ≤ 24 := hH.c _ _
  have hc23 : 0 ≤ Xi S 904 23 ∧ Xi S 904 23 ≤ 24 := hH.c _ _
  have hc30 : 0 ≤ Xi S 904 30 ∧ Xi S 904 30 ≤ 64 := hH.c _ _
  have hc32 : 0 ≤ Xi S 904 32 ∧ Xi S 904 32 ≤ 12 := hH.c _ _
  have hc41 : 0 ≤ Xi S 904 41 ∧ Xi S 904 41 ≤ 6 := hH.c _ _
  have hc47 : 0 ≤ Xi S 904 47 ∧ Xi S 904 47 ≤ 8 := hH.c _ _
  have hc49 : 0 ≤ Xi S 904 49 ∧ Xi S 904 49 ≤ 12 := hH.c _ _
  have hc15 : 0 ≤ Xi S 904 15 ∧ Xi S 904 15 ≤ 300 := hH.c _ _
  have hc117 : 0 ≤ Xi S 904 117 ∧ Xi S 904 117 ≤ 480 := hH.c _ _
  have hc125 : 0 ≤ Xi S 904 125 ∧ Xi S 904 125 ≤ 192 := hH.c _ _
  have hc130 : 0 ≤ Xi S 904 130 ∧ Xi S 904 130 ≤ 24 := hH.c _ _
  have hl9 := lcn_le hH hLC
  intro w444
  refine l_iconst rfl ?_
  have d298 := hk.2.2.2.2.2.2.2.1 (by omega)
  have s298 := hq.2.2.2.2.2.1 (by omega)
  have x298 := hq.2.2.2.2.2.2.1 (by omega)
  have a298 := d298.1
  refine l_istore_n rfl rfl rfl ?_
  have w445 : 0 ≤ Xi S 904 117 ∧ Xi S 904 117 ≤ 480 := hH.c _ _
  have w446 : 0 ≤ Xi S 904 15 ∧ Xi S 904 15 ≤ 300 := hH.c _ _
  have w447 : 0 ≤ Xi S 904 16 ∧ Xi S 904 16 ≤ 16 := hH.c _ _
  have w448 : 0 ≤ Xi S 904 19 ∧ Xi S 904 19 ≤ 24 := hH.c _ _
  have w449 : 0 ≤ Xi S 904 23 ∧ Xi S 904 23 ≤ 24 := hH.c _ _
  have w450 : 0 ≤ Xi S 904 49 ∧ Xi S 904 49 ≤ 12 := hH.c _ _
  have w451 : -1 ≤ Xi S 904 60 ∧ Xi S 904 60 ≤ 23 := hH.c _ _
  have w452 : 0 ≤ Xi S 904 69 ∧ Xi S 904 69 ≤ 2600 := hH.c _ _
  have w453 : 0 ≤ Xi S 904 71 ∧ Xi S 904 71 ≤ 2600 := hH.c _ _
  have w454 : 0 ≤ Xi S 904 72 ∧ Xi S 904 72 ≤ 2600 := hH.c _ _
  have w455 : -2 ≤ Xi S 904 78 ∧ Xi S 904 78 ≤ 5010 := hH.c _ _
  exact Rl_weak (C300 _ S hH hF (0) (by omega) (by omega) (by omega) (by omega) (by omega) (by omega) (by omega) (by omega) (by omega) (by omega) (by omega) (by omega) (by omega) (by first | assumption | exact (by assumption : LXM S)) (by first | assumption | exact (by assumption : LCN S)) (by first | exact GR.rf | exact G300.tr g342) (by first | exact LXK.rf | exact K300.tr x342 (by omega)) (by omega) (by first | assumption | exact (by assumption : TXM S)) (by first | assumption | exact (by assumption : WYM S)) (by first | assumption | exact (by assumption : ABV S)) (by first | assumption | exact (by assumption : DCM S)) (by first | assumption | exact (by assumption : VTM S)) (by first | assumption | exact (by assumption : VCN S)) (by first | assumption | exact (by assumption : WYD S)) rfl) (And.intro rfl (And.intro rfl (True.intro)))
set_option maxRecDepth 100000 in
set_option maxHeartbeats 1000000 in
theorem c354_mo_does {S : sS} (hH : HI S) (n : Nat) (first : Int) (hfirst : 0 ≤ first ∧ first ≤ 5001) (hT : TK S n) (hv : RNV S n) (hK : TXK S n) (hI : TIX S) (hq : SNQ S n) (hk : DOK S) (h11 : Xi S 904 70 = 11 → -1 ≤ Xi S 904 78) (d : Nat) : (12 ≤ Xi S 904 70 ∧ Xi S 904 70 ≤ 13) → Rl lay0 (d + 7) m_mo_does 354 [(0, .ref 904)] [] S (Q_mo_does S n first) := by
  have hF : FR md_mo_does S S := FR.rf
  have w1 : 0 ≤ Xi S 904 117 ∧ Xi S 904 117 ≤ 480 := hH.c _ _
  have w2 : 0 ≤ Xi S 904 15 ∧ Xi S 904 15 ≤ 300 := hH.c _ _
  have w3 : 0 ≤ Xi S 904 16 ∧ Xi S 904 16 ≤ 16 := hH.c _ _
  have w4 : 0 ≤ Xi S 904 18 ∧ Xi S 904 18 ≤ 8 := hH.c _ _
  have w5 : 0 ≤ Xi S 904 19 ∧ Xi S 904 19 ≤ 24 := hH.c _ _
  have w6 : 0 ≤ Xi S 904 23 ∧ Xi S 904 23 ≤ 24 := hH.c _ _
  have w7 : 0 ≤ Xi S 904 30 ∧ Xi S 904 30 ≤ 64 := hH.c _ _
  have w8 : 0 ≤ Xi S 904 32 ∧ Xi S 904 32 ≤ 12 := hH.c _ _
  have w9 : 0 ≤ Xi S 904 41 ∧ Xi S 904 41 ≤ 6 := hH.c _ _
  have w10 : 0 ≤ Xi S 904 47 ∧ Xi S 904 47 ≤ 8 := hH.c _ _
  have w11 : 0 ≤ Xi S 904 49 ∧ Xi S 904 49 ≤ 12 := hH.c _ _
  have w12 : -1 ≤ Xi S 904 60 ∧ Xi S 904 60 ≤ 23 := hH.c _ _
  have w13 : 0 ≤ Xi S 904 69 ∧ Xi S 904 69 ≤ 2600 := hH.c _ _
  have w14 : 0 ≤ Xi S 904 70 ∧ Xi S 904 70 ≤ 20 := hH.c _ _
  have w15 : 0 ≤ Xi S 904 71 ∧ Xi S 904 71 ≤ 2600 := hH.c _ _
  have w16 : 0 ≤ Xi S 904 72 ∧ Xi S 904 72 ≤ 2600 := hH.c _ _
  have w17 : -2 ≤ Xi S 904 78 ∧ Xi S 904 78 ≤ 5010 := hH.c _ _
  have hX : TXM S := hI.1
  have hW : WYM S := hI.2.1
  have hM : LXM S := hI.2.2.1
  have hLC : LCN S := hI.2.2.2.1
  have hB : ABV S := hI.2.2.2.2.1
  have hC : DCM S := hI.2.2.2.2.2.1
  have hV : VTM S := hI.2.2.2.2.2.2.1
  have hVC : VCN S := hI.2.2.2.2.2.2.2.1
  have hWD : WYD S := hI.2.2.2.2.2.2.2.2.1
  have hRD : RDT S := hI.2.2.2.2.2.2.2.2.2.1
  have hAK : AKR S := hI.2.2.2.2.2.2.2.2.2.2.1
  have hd6 : Xi S 904 60 < Xi S 904 19 := hI.2.2.2.2.2.2.2.2.2.2.2.1
  have h16 : 2 ≤ Xi S 904 16 := hI.2.2.2.2.2.2.2.2.2.2.2.2
  have h32 : 1 ≤ Xi S 904 32 := hAK.2.2.2.2.2.2.2
  have hn5 := hT.1
  have hc69 : 0 ≤ Xi S 904 69 ∧ Xi S 904 69 ≤ 2600 := hH.c _ _
  have hc70 : 0 ≤ Xi S 904 70 ∧ Xi S 904 70 ≤ 20 := hH.c _ _
  have hc16 : 0 ≤ Xi S 904 16 ∧ Xi S 904 16 ≤ 16 := hH.c _ _
  have hc18 : 0 ≤ Xi S 904 18 ∧ Xi S 904 18 ≤ 8 := hH.c _ _
  have hc19 : 0 ≤ Xi S 904 19 ∧ Xi S 904 19 ≤ 24 := hH.c _ _
  have hc23 : 0 ≤ Xi S 904 23 ∧ Xi S 904 23 ≤ 24 := hH.c _ _
  have hc30 : 0 ≤ Xi S 904 30 ∧ Xi S 904 30 ≤ 64 := hH.c _ _
  have hc32 : 0 ≤ Xi S 904 32 ∧ Xi S 904 32 ≤ 12 := hH.c _ _
  have hc41 : 0 ≤ Xi S 904 41 ∧ Xi S 904 41 ≤ 6 := hH.c _ _
  have hc47 : 0 ≤ Xi S 904 47 ∧ Xi S 904 47 ≤ 8 := hH.c _ _
  have hc49 : 0 ≤ Xi S 904 49 ∧ Xi S 904 49 ≤ 12 := hH.c _ _
  have hc15 : 0 ≤ Xi S 904 15 ∧ Xi S 904 15 ≤ 300 := hH.c _ _
  have hc117 : 0 ≤ Xi S 904 117 ∧ Xi S 904 117 ≤ 480 := hH.c _ _
  have hc125 : 0 ≤ Xi S 904 125 ∧ Xi S 904 125 ≤ 192 := hH.c _ _
  have hc130 : 0 ≤ Xi S 904 130 ∧ Xi S 904 130 ≤ 24 := hH.c _ _
  have hl9 := lcn_le hH hLC
  intro w456
  refine l_aload_n rfl rfl ?_
  have d354 : ONA S ∧ (Xi S 904 70 ≠ 13 → Xi S 904 110 < Xi S 904 16 ∧ ∀ i : Nat, (i : Int) < Xi S 904 112 → ADM S (Xi S 967 i)) ∧ (0 < Xi S 904 73 → rnR S (Xi S 904 74) 4 ≠ -1) := by rcases (by omega : Xi S 904 70 = 12 ∨ Xi S 904 70 = 13) with e | e; (have t := hk.2.2.2.2.2.2.2.2.1 e; exact ⟨t.1, fun _ => t.2.1, t.2.2⟩); (have t := hk.2.2.2.2.2.2.2.2.2.1 e; exact ⟨t.1, fun y => absurd e y, t.2⟩)
  have s354 := hq.2.2.2.2.2.1 (by omega)
  have x354 : 0 < Xi S 904 73 → Xi S 904 74 < Xi S 904 69 := fun y => hq.2.2.2.2.2.2.2.2.1 (by omega)
  have w457 : 0 ≤ Xi S 904 110 ∧ Xi S 904 110 ≤ 15 := hH.c _ _
  have w458 : 0 ≤ Xi S 904 112 ∧ Xi S 904 112 ≤ 6 := hH.c _ _
  have w459 : 0 ≤ Xi S 904 117 ∧ Xi S 904 117 ≤ 480 := hH.c _ _
  have w460 : 0 ≤ Xi S 904 15 ∧ Xi S 904 15 ≤ 300 := hH.c _ _
  have w461 : 0 ≤ Xi S 904 16 ∧ Xi S 904 16 ≤ 16 := hH.c _ _
  have w462 : 0 ≤ Xi S 904 19 ∧ Xi S 904 19 ≤ 24 := hH.c _ _
  have w463 : 0 ≤ Xi S 904 23 ∧ Xi S 904 23 ≤ 24 := hH.c _ _
  have w464 : -1 ≤ Xi S 904 60 ∧ Xi S 904 60 ≤ 23 := hH.c _ _
  have w465 : 0 ≤ Xi S 904 69 ∧ Xi S 904 69 ≤ 2600 := hH.c _ _
  have w466 : 0 ≤ Xi S 904 70 ∧ Xi S 904 70 ≤ 20 := hH.c _ _
  have w467 : 0 ≤ Xi S 904 71 ∧ Xi S 904 71 ≤ 2600 := hH.c _ _
  have w468 : 0 ≤ Xi S 904 72 ∧ Xi S 904 72 ≤ 2600 := hH.c _ _
  have w469 : 0 ≤ Xi S 904 73 ∧ Xi S 904 73 ≤ 5 := hH.c _ _
  have w470 : 0 ≤ Xi S 904 74 ∧ Xi S 904 74 ≤ 2600 := hH.c _ _
  refine l_callV rfl rfl rfl (t_mo_doDescribed hH n (by first | assumption | exact (TK_FR hF rfl (by assumption : TK S _))) (by first | assumption | exact (RNV_FR hF rfl (by assumption : RNV S _))) (by first | assumption | exact (by assumption : LXM S)) (by first | assumption | exact (by assumption : TXM S)) (by first | assumption | exact (by assumption : WYM S)) (by first | assumption | exact (by assumption : LCN S)) (by first | assumption | exact (by assumption : ABV S)) (s354.1) (d354.1) (hd6) (by omega) (d354.2.1) (fun y => ⟨x354 y, d354.2.2 y⟩) _) ?_
  rintro _ T20 ⟨hHT20, w478, rfl, w471, w472, w473, w474, w475, w476⟩
  have hFT20 : FR md_mo_does S T20 := FR.tr hF w478 rfl
  show Rl _ _ _ _ _ [] _ _
  refine l_goto rfl rfl ?_
  refine l_return rfl rfl ?_
  have w479 : Xi T20 904 117 = Xi S 904 117 := (show Xi T20 904 117 = Xi S 904 117 from w478.x _ _ rfl)
  have w480 : 0 ≤ Xi S 904 117 ∧ Xi S 904 117 ≤ 480 := hH.c _ _
  have w481 : 0 ≤ Xi T20 904 15 ∧ Xi T20 904 15 ≤ 300 := hHT20.c _ _
  have w482 : Xi T20 904 16 = Xi S 904 16 := (show Xi T20 904 16 = Xi S 904 16 from w478.x _ _ rfl)
  have w483 : 0 ≤ Xi S 904 16 ∧ Xi S 904 16 ≤ 16 := hH.c _ _
  have w484 : 0 ≤ Xi T20 904 19 ∧ Xi T20 904 19 ≤ 24 := hHT20.c _ _
  have w485 : Xi T20 904 23 = Xi S 904 23 := (show Xi T20 904 23 = Xi S 904 23 from w478.x _ _ rfl)
  have w486 : 0 ≤ Xi S 904 23 ∧ Xi S 904 23 ≤ 24 := hH.c _ _
  have w487 : -1 ≤ Xi T20 904 60 ∧ Xi T20 904 60 ≤ 23 := hHT20.c _ _
  exact ⟨hHT20, hFT20, rfl, (⟨by first | assumption | exact (by assumption : TXM T20), by first | assumption | exact (by assumption : WYM T20), by first | assumption | exact (by assumption : LXM T20), by first | assumption | exact (by assumption : LCN T20), by first | assumption | exact (ABV_FR w478 rfl (by assumption : ABV S)), by first | assumption | exact (DCM_FR w478 rfl (by assumption : DCM S)), by first | assumption | exact (VTM_FR w478 rfl (by assumption : VTM S)), by first | assumption | exact (VCN_FR w478 rfl (by assumption : VCN S)), by first | assumption | exact (WYD_FR w478 rfl (by assumption : WYD S)), by first | assumption | exact (by assumption : RDT T20) | exact rdt_df hRD (GR.tr GR.rf (by assumption : GR T20 S)) df153 (by omega) (by omega) (by omega) (hFT20.x 904 125 rfl) (hFT20.x 904 130 rfl) (smk_q9 hFT20 rfl) dn153 | exact rdt_gr hRD (by first | assumption | exact (GR.tr GR.rf (by assumption : GR T20 S))) (by omega) (hFT20.x 904 125 rfl) (hFT20.x 904 130 rfl) (smk_q9 hFT20 rfl) (fun a x y => absurd y (by omega)), akr_gr hAK (by first | assumption | exact (GR.tr GR.rf (by assumption : GR T20 S))), by first | omega | (have g := (by first | assumption | exact (GR.tr GR.rf (by assumption : GR T20 S)) : GR T20 S); have t := g.1; omega), by first | omega | (have g := (by first | assumption | exact (GR.tr GR.rf (by assumption : GR T20 S)) : GR T20 S); have t := g.1; omega)⟩)⟩
set_option maxRecDepth 100000 in
set_option maxHeartbeats 1000000 in
theorem c361_mo_does {S : sS} (hH : HI S) (n : Nat) (first : Int) (hfirst : 0 ≤ first ∧ first ≤ 5001) (hT : TK S n) (hv : RNV S n) (hK : TXK S n) (hI : TIX S) (hq : SNQ S n) (hk : DOK S) (h11 : Xi S 904 70 = 11 → -1 ≤ Xi S 904 78) (d : Nat) : (Xi S 904 70 = 14) → Rl lay0 (d + 7) m_mo_does 361 [(0, .ref 904)] [] S (Q_mo_does S n first) := by
  have hF : FR md_mo_does S S := FR.rf
  have w1 : 0 ≤ Xi S 904 117 ∧ Xi S 904 117 ≤ 480 := hH.c _ _
  have w2 : 0 ≤ Xi S 904 15 ∧ Xi S 904 15 ≤ 300 := hH.c _ _
  have w3 : 0 ≤ Xi S 904 16 ∧ Xi S 904 16 ≤ 16 := hH.c _ _
  have w4 : 0 ≤ Xi S 904 18 ∧ Xi S 904 18 ≤ 8 := hH.c _ _
  have w5 : 0 ≤ Xi S 904 19 ∧ Xi S 904 19 ≤ 24 := hH.c _ _
  have w6 : 0 ≤ Xi S 904 23 ∧ Xi S 904 23 ≤ 24 := hH.c _ _
  have w7 : 0 ≤ Xi S 904 30 ∧ Xi S 904 30 ≤ 64 := hH.c _ _
  have w8 : 0 ≤ Xi S 904 32 ∧ Xi S 904 32 ≤ 12 := hH.c _ _
  have w9 : 0 ≤ Xi S 904 41 ∧ Xi S 904 41 ≤ 6 := hH.c _ _
  have w10 : 0 ≤ Xi S 904 47 ∧ Xi S 904 47 ≤ 8 := hH.c _ _
  have w11 : 0 ≤ Xi S 904 49 ∧ Xi S 904 49 ≤ 12 := hH.c _ _
  have w12 : -1 ≤ Xi S 904 60 ∧ Xi S 904 60 ≤ 23 := hH.c _ _
  have w13 : 0 ≤ Xi S 904 69 ∧ Xi S 904 69 ≤ 2600 := hH.c _ _
  have w14 : 0 ≤ Xi S 904 70 ∧ Xi S 904 70 ≤ 20 := hH.c _ _
  have w15 : 0 ≤ Xi S 904 71 ∧ Xi S 904 71 ≤ 2600 := hH.c _ _
  have w16 : 0 ≤ Xi S 904 72 ∧ Xi S 904 72 ≤ 2600 := hH.c _ _
  have w17 : -2 ≤ Xi S 904 78 ∧ Xi S 904 78 ≤ 5010 := hH.c _ _
  have hX : TXM S := hI.1
  have hW : WYM S := hI.2.1
  have hM : LXM S := hI.2.2.1
  have hLC : LCN S := hI.2.2.2.1
  have hB : ABV S := hI.2.2.2.2.1
  have hC : DCM S := hI.2.2.2.2.2.1
  have hV : VTM S := hI.2.2.2.2.2.2.1
  have hVC : VCN S := hI.2.2.2.2.2.2.2.1
  have hWD : WYD S := hI.2.2.2.2.2.2.2.2.1
  have hRD : RDT S := hI.2.2.2.2.2.2.2.2.2.1
  have hAK : AKR S := hI.2.2.2.2.2.2.2.2.2.2.1
  have hd6 : Xi S 904 60 < Xi S 904 19 := hI.2.2.2.2.2.2.2.2.2.2.2.1
  have h16 : 2 ≤ Xi S 904 16 := hI.2.2.2.2.2.2.2.2.2.2.2.2
  have h32 : 1 ≤ Xi S 904 32 := hAK.2.2.2.2.2.2.2
  have hn5 := hT.1
  have hc69 : 0 ≤ Xi S 904 69 ∧ Xi S 904 69 ≤ 2600 := hH.c _ _
  have hc70 : 0 ≤ Xi S 904 70 ∧ Xi S 904 70 ≤ 20 := hH.c _ _
  have hc16 : 0 ≤ Xi S 904 16 ∧ Xi S 904 16 ≤ 16 := hH.c _ _
  have hc18 : 0 ≤ Xi S 904 18 ∧ Xi S 904 18 ≤ 8 := hH.c _ _
  have hc19 : 0 ≤ Xi S 904 19 ∧ Xi S 904 19 ≤ 24 := hH.c _ _
  have hc23 : 0 ≤ Xi S 904 23 ∧ Xi S 904 23 ≤ 24 := hH.c _ _
  have hc30 : 0 ≤ Xi S 904 30 ∧ Xi S 904 30 ≤ 64 := hH.c _ _
  have hc32 : 0 ≤ Xi S 904 32 ∧ Xi S 904 32 ≤ 12 := hH.c _ _
  have hc41 : 0 ≤ Xi S 904 41 ∧ Xi S 904 41 ≤ 6 := hH.c _ _
  have hc47 : 0 ≤ Xi S 904 47 ∧ Xi S 904 47 ≤ 8 := hH.c _ _
  have hc49 : 0 ≤ Xi S 904 49 ∧ Xi S 904 49 ≤ 12 := hH.c _ _
  have hc15 : 0 ≤ Xi S 904 15 ∧ Xi S 904 15 ≤ 300 := hH.c _ _
  have hc117 : 0 ≤ Xi S 904 117 ∧ Xi S 904 117 ≤ 480 := hH.c _ _
  have hc125 : 0 ≤ Xi S 904 125 ∧ Xi S 904 125 ≤ 192 := hH.c _ _
  have hc130 : 0 ≤ Xi S 904 130 ∧ Xi S 904 130 ≤ 24 := hH.c _ _
  have hl9 := lcn_le hH hLC
  intro w488
  refine l_aload_n rfl rfl ?_
  have d361 := hk.2.2.2.2.2.2.2.2.2.2.1 (by omega)
  have s361 := hq.2.2.2.2.2.1 (by omega)
  have x361 := hq.2.2.2.2.2.2.1 (by omega)
  have y361 := hq.2.2.2.2.2.2.2.1 (by omega)
  have z361 := hq.2.2.2.2.2.2.2.2.1 (by omega)
  have w489 : 0 ≤ Xi S 904 117 ∧ Xi S 904 117 ≤ 480 := hH.c _ _
  have w490 : 0 ≤ Xi S 904 15 ∧ Xi S 904 15 ≤ 300 := hH.c _ _
  have w491 : 0 ≤ Xi S 904 16 ∧ Xi S 904 16 ≤ 16 := hH.c _ _
  have w492 : 0 ≤ Xi S 904 19 ∧ Xi S 904 19 ≤ 24 := hH.c _ _
  have w493 : 0 ≤ Xi S 904 23 ∧ Xi S 904 23 ≤ 24 := hH.c _ _
  have w494 : -1 ≤ Xi S 904 60 ∧ Xi S 904 60 ≤ 23 := hH.c _ _
  have w495 : 0 ≤ Xi S 904 69 ∧ Xi S 904 69 ≤ 2600 := hH.c _ _
  have w496 : 0 ≤ Xi S 904 71 ∧ Xi S 904 71 ≤ 2600 := hH.c _ _
  have w497 : 0 ≤ Xi S 904 72 ∧ Xi S 904 72 ≤ 2600 := hH.c _ _
  have w498 : 0 ≤ Xi S 904 74 ∧ Xi S 904 74 ≤ 2600 := hH.c _ _
  have w499 : -2 ≤ Xi S 904 78 ∧ Xi S 904 78 ≤ 5010 := hH.c _ _
  refine l_callV rfl rfl rfl (t_mo_doWay hH n (by first | assumption | exact (TK_FR hF rfl (by assumption : TK S _))) (by first | assumption | exact (RNV_FR hF rfl (by assumption : RNV S _))) (by first | assumption | exact (by assumption : LXM S)) (by first | assumption | exact (by assumption : TXM S)) (by first | assumption | exact (by assumption : WYM S)) (by first | assumption | exact (by assumption : LCN S)) (s361.1) (hWD) (s361.2) (h16) (⟨y361, x361⟩) (z361) (d361.1) (d361.2.1) (d361.2.2) _) ?_
  rintro _ T21 ⟨hHT21, w508, rfl, w500, w501, w502, w503, w504, w505, w506⟩
  have hFT21 : FR md_mo_does S T21 := FR.tr hF w508 rfl
  show Rl _ _ _ _ _ [] _ _
  refine l_goto rfl rfl ?_
  refine l_return rfl rfl ?_
  have w509 : Xi T21 904 117 = Xi S 904 117 := (show Xi T21 904 117 = Xi S 904 117 from w508.x _ _ rfl)
  have w510 : 0 ≤ Xi S 904 117 ∧ Xi S 904 117 ≤ 480 := hH.c _ _
  have w511 : 0 ≤ Xi T21 904 15 ∧ Xi T21 904 15 ≤ 300 := hHT21.c _ _
  have w512 : Xi T21 904 16 = Xi S 904 16 := (show Xi T21 904 16 = Xi S 904 16 from w508.x _ _ rfl)
  have w513 : 0 ≤ Xi S 904 16 ∧ Xi S 904 16 ≤ 16 := hH.c _ _
  have w514 : 0 ≤ Xi T21 904 19 ∧ Xi T21 904 19 ≤ 24 := hHT21.c _ _
  have w515 : Xi T21 904 23 = Xi S 904 23 := (show Xi T21 904 23 = Xi S 904 23 from w508.x _ _ rfl)
  have w516 : 0 ≤ Xi S 904 23 ∧ Xi S 904 23 ≤ 24 := hH.c _ _
  have w517 : -1 ≤ Xi T21 904 60 ∧ Xi T21 904 60 ≤ 23 := hHT21.c _ _
  exact ⟨hHT21, hFT21, rfl, (⟨by first | assumption | exact (by assumption : TXM T21), by first | assumption | exact (by assumption : WYM T21), by first | assumption | exact (by assumption : LXM T21), by first | assumption | exact (by assumption : LCN T21), by first | assumption | exact (ABV_FR w508 rfl (by assumption : ABV S)), by first | assumption | exact (DCM_FR w508 rfl (by assumption : DCM S)), by first | assumption | exact (VTM_FR w508 rfl (by assumption : VTM S)), by first | assumption | exact (VCN_FR w508 rfl (by assumption : VCN S)), by first | assumption | exact (by assumption : WYD T21), by first | assumption | exact (by assumption : RDT T21) | exact rdt_df hRD (GR.tr GR.rf (by assumption : GR T21 S)) df153 (by omega) (by omega) (by omega) (hFT21.x 904 125 rfl) (hFT21.x 904 130 rfl) (smk_q9 hFT21 rfl) dn153 | exact rdt_gr hRD (by first | assumption | exact (GR.tr GR.rf (by assumption : GR T21 S))) (by omega) (hFT21.x 904 125 rfl) (hFT21.x 904 130 rfl) (smk_q9 hFT21 rfl) (fun a x y => absurd y (by omega)), akr_gr hAK (by first | assumption | exact (GR.tr GR.rf (by assumption : GR T21 S))), by first | omega | (have g := (by first | assumption | exact (GR.tr GR.rf (by assumption : GR T21 S)) : GR T21 S); have t := g.1; omega), by first | omega | (have g := (by first | assumption | exact (GR.tr GR.rf (by assumption : GR T21 S)) : GR T21 S); have t := g.1; omega)⟩)⟩
set_option maxRecDepth 100000 in
set_option maxHeartbeats 1000000 in
theorem c368_mo_does {S : sS} (hH : HI S) (n : Nat) (first : Int) (hfirst : 0 ≤ first ∧ first ≤ 5001) (hT : TK S n) (hv : RNV S n) (hK : TXK S n) (hI : TIX S) (hq : SNQ S n) (hk : DOK S) (h11 : Xi S 904 70 = 11 → -1 ≤ Xi S 904 78) (d : Nat) : (15 ≤ Xi S 904 70 ∧ Xi S 904 70 ≤ 16) → Rl lay0 (d + 7) m_mo_does 368 [(0, .ref 904)] [] S (Q_mo_does S n first) := by
  have hF : FR md_mo_does S S := FR.rf
  have w1 : 0 ≤ Xi S 904 117 ∧ Xi S 904 117 ≤ 480 := hH.c _ _
  have w2 : 0 ≤ Xi S 904 15 ∧ Xi S 904 15 ≤ 300 := hH.c _ _
  have w3 : 0 ≤ Xi S 904 16 ∧ Xi S 904 16 ≤ 16 := hH.c _ _
  have w4 : 0 ≤ Xi S 904 18 ∧ Xi S 904 18 ≤ 8 := hH.c _ _
  have w5 : 0 ≤ Xi S 904 19 ∧ Xi S 904 19 ≤ 24 := hH.c _ _
  have w6 : 0 ≤ Xi S 904 23 ∧ Xi S 904 23 ≤ 24 := hH.c _ _
  have w7 : 0 ≤ Xi S 904 30 ∧ Xi S 904 30 ≤ 64 := hH.c _ _
  have w8 : 0 ≤ Xi S 904 32 ∧ Xi S 904 32 ≤ 12 := hH.c _ _
  have w9 : 0 ≤ Xi S 904 41 ∧ Xi S 904 41 ≤ 6 := hH.c _ _
  have w10 : 0 ≤ Xi S 904 47 ∧ Xi S 904 47 ≤ 8 := hH.c _ _
  have w11 : 0 ≤ Xi S 904 49 ∧ Xi S 904 49 ≤ 12 := hH.c _ _
  have w12 : -1 ≤ Xi S 904 60 ∧ Xi S 904 60 ≤ 23 := hH.c _ _
  have w13 : 0 ≤ Xi S 904 69 ∧ Xi S 904 69 ≤ 2600 := hH.c _ _
  have w14 : 0 ≤ Xi S 904 70 ∧ Xi S 904 70 ≤ 20 := hH.c _ _
  have w15 : 0 ≤ Xi S 904 71 ∧ Xi S 904 71 ≤ 2600 := hH.c _ _
  have w16 : 0 ≤ Xi S 904 72 ∧ Xi S 904 72 ≤ 2600 := hH.c _ _
  have w17 : -2 ≤ Xi S 904 78 ∧ Xi S 904 78 ≤ 5010 := hH.c _ _
  have hX : TXM S := hI.1
  have hW : WYM S := hI.2.1
  have hM : LXM S := hI.2.2.1
  have hLC : LCN S := hI.2.2.2.1
  have hB : ABV S := hI.2.2.2.2.1
  have hC : DCM S := hI.2.2.2.2.2.1
  have hV : VTM S := hI.2.2.2.2.2.2.1
  have hVC : VCN S := hI.2.2.2.2.2.2.2.1
  have hWD : WYD S := hI.2.2.2.2.2.2.2.2.1
  have hRD : RDT S := hI.2.2.2.2.2.2.2.2.2.1
  have hAK : AKR S := hI.2.2.2.2.2.2.2.2.2.2.1
  have hd6 : Xi S 904 60 < Xi S 904 19 := hI.2.2.2.2.2.2.2.2.2.2.2.1
  have h16 : 2 ≤ Xi S 904 16 := hI.2.2.2.2.2.2.2.2.2.2.2.2
  have h32 : 1 ≤ Xi S 904 32 := hAK.2.2.2.2.2.2.2
  have hn5 := hT.1
  have hc69 : 0 ≤ Xi S 904 69 ∧ Xi S 904 69 ≤ 2600 := hH.c _ _
  have hc70 : 0 ≤ Xi S 904 70 ∧ Xi S 904 70 ≤ 20 := hH.c _ _
  have hc16 : 0 ≤ Xi S 904 16 ∧ Xi S 904 16 ≤ 16 := hH.c _ _
  have hc18 : 0 ≤ Xi S 904 18 ∧ Xi S 904 18 ≤ 8 := hH.c _ _
  have hc19 : 0 ≤ Xi S 904 19 ∧ Xi S 904 19 ≤ 24 := hH.c _ _
  have hc23 : 0 ≤ Xi S 904 23 ∧ Xi S 904 23 ≤ 24 := hH.c _ _
  have hc30 : 0 ≤ Xi S 904 30 ∧ Xi S 904 30 ≤ 64 := hH.c _ _
  have hc32 : 0 ≤ Xi S 904 32 ∧ Xi S 904 32 ≤ 12 := hH.c _ _
  have hc41 : 0 ≤ Xi S 904 41 ∧ Xi S 904 41 ≤ 6 := hH.c _ _
  have hc47 : 0 ≤ Xi S 904 47 ∧ Xi S 904 47 ≤ 8 := hH.c _ _
  have hc49 : 0 ≤ Xi S 904 49 ∧ Xi S 904 49 ≤ 12 := hH.c _ _
  have hc15 : 0 ≤ Xi S 904 15 ∧ Xi S 904 15 ≤ 300 := hH.c _ _
  have hc117 : 0 ≤ Xi S 904 117 ∧ Xi S 904 117 ≤ 480 := hH.c _ _
  have hc125 : 0 ≤ Xi S 904 125 ∧ Xi S 904 125 ≤ 192 := hH.c _ _
  have hc130 : 0 ≤ Xi S 904 130 ∧ Xi S 904 130 ≤ 24 := hH.c _ _
  have hl9 := lcn_le hH hLC
  intro w518
  refine l_aload_n rfl rfl ?_
  have d368 := hk.2.2.2.2.2.2.2.2.2.2.2.1 (by omega)
  have s368 := hq.2.2.2.2.2.1 (by omega)
  have x368 := hq.2.2.2.2.2.2.1 (by omega)
  have y368 := hq.2.2.2.2.2.2.2.1 (by omega)
  have w519 : 0 ≤ Xi S 904 110 ∧ Xi S 904 110 ≤ 15 := hH.c _ _
  have w520 : 0 ≤ Xi S 904 112 ∧ Xi S 904 112 ≤ 6 := hH.c _ _
  have w521 : 0 ≤ Xi S 904 117 ∧ Xi S 904 117 ≤ 480 := hH.c _ _
  have w522 : 0 ≤ Xi S 904 142 ∧ Xi S 904 142 ≤ 4 := hH.c _ _
  have w523 : 0 ≤ Xi S 904 15 ∧ Xi S 904 15 ≤ 300 := hH.c _ _
  have w524 : 0 ≤ Xi S 904 16 ∧ Xi S 904 16 ≤ 16 := hH.c _ _
  have w525 : 0 ≤ Xi S 904 19 ∧ Xi S 904 19 ≤ 24 := hH.c _ _
  have w526 : 0 ≤ Xi S 904 23 ∧ Xi S 904 23 ≤ 24 := hH.c _ _
  have w527 : 0 ≤ Xi S 904 30 ∧ Xi S 904 30 ≤ 64 := hH.c _ _
  have w528 : -1 ≤ Xi S 904 60 ∧ Xi S 904 60 ≤ 23 := hH.c _ _
  have w529 : 0 ≤ Xi S 904 69 ∧ Xi S 904 69 ≤ 2600 := hH.c _ _
  have w530 : 0 ≤ Xi S 904 70 ∧ Xi S 904 70 ≤ 20 := hH.c _ _
  have w531 : 0 ≤ Xi S 904 71 ∧ Xi S 904 71 ≤ 2600 := hH.c _ _
  have w532 : 0 ≤ Xi S 904 72 ∧ Xi S 904 72 ≤ 2600 := hH.c _ _
  have w533 : -2 ≤ Xi S 904 78 ∧ Xi S 904 78 ≤ 5010 := hH.c _ _
  have w534 : -1 ≤ Xi S 967 0 ∧ Xi S 967 0 ≤ 6411 := hH.c _ _
  refine l_callV rfl rfl rfl (t_mo_doFifteen hH n (by first | assumption | exact (TK_FR hF rfl (by assumption : TK S _))) (by first | assumption | exact (RNV_FR hF rfl (by assumption : RNV S _))) (by first | assumption | exact (by assumption : LXM S)) (by first | assumption | exact (by assumption : TXM S)) (by first | assumption | exact (by assumption : WYM S)) (by first | assumption | exact (by assumption : LCN S)) (by first | assumption | exact (by assumption : ABV S)) (by first | assumption | exact (by assumption : DCM S)) (s368.1) (hV) (hVC) (hd6) (s368.2) (by omega) (by omega) (⟨y368, x368⟩) (d368.1) (d368.2.1) (d368.2.2.1) (d368.2.2.2) _) ?_
  rintro _ T22 ⟨hHT22, w544, rfl, w535, w536, w537, w538, w539, w540, w541, w542⟩
  have hFT22 : FR md_mo_does S T22 := FR.tr hF w544 rfl
  show Rl _ _ _ _ _ [] _ _
  refine l_goto rfl rfl ?_
  refine l_return rfl rfl ?_
  have w545 : Xi T22 904 117 = Xi S 904 117 := (show Xi T22 904 117 = Xi S 904 117 from w544.x _ _ rfl)
  have w546 : 0 ≤ Xi S 904 117 ∧ Xi S 904 117 ≤ 480 := hH.c _ _
  have w547 : 0 ≤ Xi T22 904 15 ∧ Xi T22 904 15 ≤ 300 := hHT22.c _ _
  have w548 : Xi T22 904 16 = Xi S 904 16 := (show Xi T22 904 16 = Xi S 904 16 from w544.x _ _ rfl)
  have w549 : 0 ≤ Xi S 904 16 ∧ Xi S 904 16 ≤ 16 := hH.c _ _
  have w550 : 0 ≤ Xi T22 904 19 ∧ Xi T22 904 19 ≤ 24 := hHT22.c _ _
  have w551 : Xi T22 904 23 = Xi S 904 23 := (show Xi T22 904 23 = Xi S 904 23 from w544.x _ _ rfl)
  have w552 : 0 ≤ Xi S 904 23 ∧ Xi S 904 23 ≤ 24 := hH.c _ _
  have w553 : -1 ≤ Xi T22 904 60 ∧ Xi T22 904 60 ≤ 23 := hHT22.c _ _
  exact ⟨hHT22, hFT22, rfl, (⟨by first | assumption | exact (by assumption : TXM T22), by first | assumption | exact (by assumption : WYM T22), by first | assumption | exact (by assumption : LXM T22), by first | assumption | exact (by assumption : LCN T22), by first | assumption | exact (ABV_FR w544 rfl (by assumption : ABV S)), by first | assumption | exact (DCM_FR w544 rfl (by assumption : DCM S)), by first | assumption | exact (by assumption : VTM T22), by first | assumption | exact (by assumption : VCN T22), by first | assumption | exact (WYD_FR w544 rfl (by assumption : WYD S)), by first | assumption | exact (by assumption : RDT T22) | exact rdt_df hRD (GR.tr GR.rf (by assumption : GR T22 S)) df153 (by omega) (by omega) (by omega) (hFT22.x 904 125 rfl) (hFT22.x 904 130 rfl) (smk_q9 hFT22 rfl) dn153 | exact rdt_gr hRD (by first | assumption | exact (GR.tr GR.rf (by assumption : GR T22 S))) (by omega) (hFT22.x 904 125 rfl) (hFT22.x 904 130 rfl) (smk_q9 hFT22 rfl) (fun a x y => absurd y (by omega)), akr_gr hAK (by first | assumption | exact (GR.tr GR.rf (by assumption : GR T22 S))), by first | omega | (have g := (by first | assumption | exact (GR.tr GR.rf (by assumption : GR T22 S)) : GR T22 S); have t := g.1; omega), by first | omega | (have g := (by first | assumption | exact (GR.tr GR.rf (by assumption : GR T22 S)) : GR T22 S); have t := g.1; omega)⟩)⟩
set_option maxRecDepth 100000 in
set_option maxHeartbeats 1000000 in
theorem c375_mo_does {S : sS} (hH : HI S) (n : Nat) (first : Int) (hfirst : 0 ≤ first ∧ first ≤ 5001) (hT : TK S n) (hv : RNV S n) (hK : TXK S n) (hI : TIX S) (hq : SNQ S n) (hk : DOK S) (h11 : Xi S 904 70 = 11 → -1 ≤ Xi S 904 78) (d : Nat) : (Xi S 904 70 = 17) → Rl lay0 (d + 7) m_mo_does 375 [(0, .ref 904)] [] S (Q_mo_does S n first) := by
  have hF : FR md_mo_does S S := FR.rf
  have w1 : 0 ≤ Xi S 904 117 ∧ Xi S 904 117 ≤ 480 := hH.c _ _
  have w2 : 0 ≤ Xi S 904 15 ∧ Xi S 904 15 ≤ 300 := hH.c _ _
  have w3 : 0 ≤ Xi S 904 16 ∧ Xi S 904 16 ≤ 16 := hH.c _ _
  have w4 : 0 ≤ Xi S 904 18 ∧ Xi S 904 18 ≤ 8 := hH.c _ _
  have w5 : 0 ≤ Xi S 904 19 ∧ Xi S 904 19 ≤ 24 := hH.c _ _
  have w6 : 0 ≤ Xi S 904 23 ∧ Xi S 904 23 ≤ 24 := hH.c _ _
  have w7 : 0 ≤ Xi S 904 30 ∧ Xi S 904 30 ≤ 64 := hH.c _ _
  have w8 : 0 ≤ Xi S 904 32 ∧ Xi S 904 32 ≤ 12 := hH.c _ _
  have w9 : 0 ≤ Xi S 904 41 ∧ Xi S 904 41 ≤ 6 := hH.c _ _
  have w10 : 0 ≤ Xi S 904 47 ∧ Xi S 904 47 ≤ 8 := hH.c _ _
  have w11 : 0 ≤ Xi S 904 49 ∧ Xi S 904 49 ≤ 12 := hH.c _ _
  have w12 : -1 ≤ Xi S 904 60 ∧ Xi S 904 60 ≤ 23 := hH.c _ _
  have w13 : 0 ≤ Xi S 904 69 ∧ Xi S 904 69 ≤ 2600 := hH.c _ _
  have w14 : 0 ≤ Xi S 904 70 ∧ Xi S 904 70 ≤ 20 := hH.c _ _
  have w15 : 0 ≤ Xi S 904 71 ∧ Xi S 904 71 ≤ 2600 := hH.c _ _
  have w16 : 0 ≤ Xi S 904 72 ∧ Xi S 904 72 ≤ 2600 := hH.c _ _
  have w17 : -2 ≤ Xi S 904 78 ∧ Xi S 904 78 ≤ 5010 := hH.c _ _
  have hX : TXM S := hI.1
  have hW : WYM S := hI.2.1
  have hM : LXM S := hI.2.2.1
  have hLC : LCN S := hI.2.2.2.1
  have hB : ABV S := hI.2.2.2.2.1
  have hC : DCM S := hI.2.2.2.2.2.1
  have hV : VTM S := hI.2.2.2.2.2.2.1
  have hVC : VCN S := hI.2.2.2.2.2.2.2.1
  have hWD : WYD S := hI.2.2.2.2.2.2.2.2.1
  have hRD : RDT S := hI.2.2.2.2.2.2.2.2.2.1
  have hAK : AKR S := hI.2.2.2.2.2.2.2.2.2.2.1
  have hd6 : Xi S 904 60 < Xi S 904 19 := hI.2.2.2.2.2.2.2.2.2.2.2.1
  have h16 : 2 ≤ Xi S 904 16 := hI.2.2.2.2.2.2.2.2.2.2.2.2
  have h32 : 1 ≤ Xi S 904 32 := hAK.2.2.2.2.2.2.2
  have hn5 := hT.1
  have hc69 : 0 ≤ Xi S 904 69 ∧ Xi S 904 69 ≤ 2600 := hH.c _ _
  have hc70 : 0 ≤ Xi S 904 70 ∧ Xi S 904 70 ≤ 20 := hH.c _ _
  have hc16 : 0 ≤ Xi S 904 16 ∧ Xi S 904 16 ≤ 16 := hH.c _ _
  have hc18 : 0 ≤ Xi S 904 18 ∧ Xi S 904 18 ≤ 8 := hH.c _ _
  have hc19 : 0 ≤ Xi S 904 19 ∧ Xi S 904 19 ≤ 24 := hH.c _ _
  have hc23 : 0 ≤ Xi S 904 23 ∧ Xi S 904 23 ≤ 24 := hH.c _ _
  have hc30 : 0 ≤ Xi S 904 30 ∧ Xi S 904 30 ≤ 64 := hH.c _ _
  have hc32 : 0 ≤ Xi S 904 32 ∧ Xi S 904 32 ≤ 12 := hH.c _ _
  have hc41 : 0 ≤ Xi S 904 41 ∧ Xi S 904 41 ≤ 6 := hH.c _ _
  have hc47 : 0 ≤ Xi S 904 47 ∧ Xi S 904 47 ≤ 8 := hH.c _ _
  have hc49 : 0 ≤ Xi S 904 49 ∧ Xi S 904 49 ≤ 12 := hH.c _ _
  have hc15 : 0 ≤ Xi S 904 15 ∧ Xi S 904 15 ≤ 300 := hH.c _ _
  have hc117 : 0 ≤ Xi S 904 117 ∧ Xi S 904 117 ≤ 480 := hH.c _ _
  have hc125 : 0 ≤ Xi S 904 125 ∧ Xi S 904 125 ≤ 192 := hH.c _ _
  have hc130 : 0 ≤ Xi S 904 130 ∧ Xi S 904 130 ≤ 24 := hH.c _ _
  have hl9 := lcn_le hH hLC
  intro w554
  refine l_aload_n rfl rfl ?_
  have d375 := hk.2.2.2.2.2.2.2.2.2.2.2.2.1 (by omega)
  have s375 := hq.2.2.2.2.2.2.2.2.2 (by omega)
  have w555 : 0 ≤ Xi S 904 117 ∧ Xi S 904 117 ≤ 480 := hH.c _ _
  have w556 : 0 ≤ Xi S 904 15 ∧ Xi S 904 15 ≤ 300 := hH.c _ _
  have w557 : 0 ≤ Xi S 904 16 ∧ Xi S 904 16 ≤ 16 := hH.c _ _
  have w558 : 0 ≤ Xi S 904 19 ∧ Xi S 904 19 ≤ 24 := hH.c _ _
  have w559 : 0 ≤ Xi S 904 23 ∧ Xi S 904 23 ≤ 24 := hH.c _ _
  have w560 : 0 ≤ Xi S 904 32 ∧ Xi S 904 32 ≤ 12 := hH.c _ _
  have w561 : -1 ≤ Xi S 904 60 ∧ Xi S 904 60 ≤ 23 := hH.c _ _
  have w562 : 0 ≤ Xi S 904 69 ∧ Xi S 904 69 ≤ 2600 := hH.c _ _
  have w563 : 0 ≤ Xi S 951 2 ∧ Xi S 951 2 ≤ 5010 := hH.c _ _
  refine l_callV rfl rfl rfl (t_mo_doHas hH n (by first | assumption | exact (TK_FR hF rfl (by assumption : TK S _))) (by first | assumption | exact (RNV_FR hF rfl (by assumption : RNV S _))) (by first | assumption | exact (by assumption : LXM S)) (by first | assumption | exact (by assumption : TXM S)) (by first | assumption | exact (by assumption : LCN S)) (s375) (d375.1) (d375.2.1) (d375.2.2) _) ?_
  rintro _ T23 ⟨hHT23, w569, rfl, w564, w565, w566, w567⟩
  have hFT23 : FR md_mo_does S T23 := FR.tr hF w569 rfl
  show Rl _ _ _ _ _ [] _ _
  refine l_goto rfl rfl ?_
  refine l_return rfl rfl ?_
  have w570 : Xi T23 904 117 = Xi S 904 117 := (show Xi T23 904 117 = Xi S 904 117 from w569.x _ _ rfl)
  have w571 : 0 ≤ Xi S 904 117 ∧ Xi S 904 117 ≤ 480 := hH.c _ _
  have w572 : 0 ≤ Xi T23 904 15 ∧ Xi T23 904 15 ≤ 300 := hHT23.c _ _
  have w573 : Xi T23 904 16 = Xi S 904 16 := (show Xi T23 904 16 = Xi S 904 16 from w569.x _ _ rfl)
  have w574 : 0 ≤ Xi S 904 16 ∧ Xi S 904 16 ≤ 16 := hH.c _ _
  have w575 : Xi T23 904 19 = Xi S 904 19 := (show Xi T23 904 19 = Xi S 904 19 from w569.x _ _ rfl)
  have w576 : 0 ≤ Xi S 904 19 ∧ Xi S 904 19 ≤ 24 := hH.c _ _
  have w577 : Xi T23 904 23 = Xi S 904 23 := (show Xi T23 904 23 = Xi S 904 23 from w569.x _ _ rfl)
  have w578 : 0 ≤ Xi S 904 23 ∧ Xi S 904 23 ≤ 24 := hH.c _ _
  have w579 : Xi T23 904 60 = Xi S 904 60 := (show Xi T23 904 60 = Xi S 904 60 from w569.x _ _ rfl)
  have w580 : -1 ≤ Xi S 904 60 ∧ Xi S 904 60 ≤ 23 := hH.c _ _
  exact ⟨hHT23, hFT23, rfl, (⟨by first | assumption | exact (by assumption : TXM T23), by first | assumption | exact (WYM_FR w569 rfl (by assumption : WYM S)), by first | assumption | exact (by assumption : LXM T23), by first | assumption | exact (by assumption : LCN T23), by first | assumption | exact (ABV_FR w569 rfl (by assumption : ABV S)), by first | assumption | exact (DCM_FR w569 rfl (by assumption : DCM S)), by first | assumption | exact (VTM_FR w569 rfl (by assumption : VTM S)), by first | assumption | exact (VCN_FR w569 rfl (by assumption : VCN S)), by first | assumption | exact (WYD_FR w569 rfl (by assumption : WYD S)), by first | assumption | exact (by assumption : RDT T23) | exact rdt_df hRD (GR.tr GR.rf (by assumption : GR T23 S)) df153 (by omega) (by omega) (by omega) (hFT23.x 904 125 rfl) (hFT23.x 904 130 rfl) (smk_q9 hFT23 rfl) dn153 | exact rdt_gr hRD (by first | assumption | exact (GR.tr GR.rf (by assumption : GR T23 S))) (by omega) (hFT23.x 904 125 rfl) (hFT23.x 904 130 rfl) (smk_q9 hFT23 rfl) (fun a x y => absurd y (by omega)), akr_gr hAK (by first | assumption | exact (GR.tr GR.rf (by assumption : GR T23 S))), by first | omega | (have g := (by first | assumption | exact (GR.tr GR.rf (by assumption : GR T23 S)) : GR T23 S); have t := g.1; omega), by first | omega | (have g := (by first | assumption | exact (GR.tr GR.rf (by assumption : GR T23 S)) : GR T23 S); have t := g.1; omega)⟩)⟩
set_option maxRecDepth 100000 in
set_option maxHeartbeats 1000000 in
theorem c406_mo_does {S : sS} (hH : HI S) (n : Nat) (first : Int) (hfirst : 0 ≤ first ∧ first ≤ 5001) (hT : TK S n) (hv : RNV S n) (hK : TXK S n) (hI : TIX S) (hq : SNQ S n) (hk : DOK S) (h11 : Xi S 904 70 = 11 → -1 ≤ Xi S 904 78) (d : Nat) : ∀  (T24 : sS) (_ : HI T24) (_ : FR md_mo_does S T24) (v2 : Int), (0 ≤ v2 ∧ v2 ≤ 23) → (Xi S 904 70 = 18) → (v2 = Xi S 904 23) → (Xi T24 904 23 = Xi S 904 23 + 1) → (Xi T24 904 15 = Xi S 904 15 + 1) → (Xi T24 904 16 = Xi S 904 16) → (Xi T24 904 18 = Xi S 904 18) → (Xi T24 904 19 = Xi S 904 19) → (Xi T24 904 30 = Xi S 904 30) → (Xi T24 904 32 = Xi S 904 32) → (Xi T24 904 41 = Xi S 904 41) → (Xi T24 904 47 = Xi S 904 47) → (Xi T24 904 49 = Xi S 904 49) → (Xi T24 904 60 = Xi S 904 60) → (Xi T24 904 117 = Xi S 904 117) → (LXM T24) → (LCN T24) → (GR T24 S) → (rnR T24 0 0 ≠ -1) → ((Xi T24 922 (Xi S 904 23).toNat = Xi S 904 23 + 1 ∧ Xi T24 924 (Xi S 904 23).toNat = 0)) → (LXK T24 S (Xi S 904 15)) → (TXM T24) → (WYM T24) → (ABV T24) → (VTM T24) → (VCN T24) → (WYD T24) → Rl lay0 (d + 7) m_mo_does 406 [(0, .ref 904), (2, iv v2)] [] T24 (Q_mo_does S n first) := by
  have hF : FR md_mo_does S S := FR.rf
  have w1 : 0 ≤ Xi S 904 117 ∧ Xi S 904 117 ≤ 480 := hH.c _ _
  have w2 : 0 ≤ Xi S 904 15 ∧ Xi S 904 15 ≤ 300 := hH.c _ _
  have w3 : 0 ≤ Xi S 904 16 ∧ Xi S 904 16 ≤ 16 := hH.c _ _
  have w4 : 0 ≤ Xi S 904 18 ∧ Xi S 904 18 ≤ 8 := hH.c _ _
  have w5 : 0 ≤ Xi S 904 19 ∧ Xi S 904 19 ≤ 24 := hH.c _ _
  have w6 : 0 ≤ Xi S 904 23 ∧ Xi S 904 23 ≤ 24 := hH.c _ _
  have w7 : 0 ≤ Xi S 904 30 ∧ Xi S 904 30 ≤ 64 := hH.c _ _
  have w8 : 0 ≤ Xi S 904 32 ∧ Xi S 904 32 ≤ 12 := hH.c _ _
  have w9 : 0 ≤ Xi S 904 41 ∧ Xi S 904 41 ≤ 6 := hH.c _ _
  have w10 : 0 ≤ Xi S 904 47 ∧ Xi S 904 47 ≤ 8 := hH.c _ _
  have w11 : 0 ≤ Xi S 904 49 ∧ Xi S 904 49 ≤ 12 := hH.c _ _
  have w12 : -1 ≤ Xi S 904 60 ∧ Xi S 904 60 ≤ 23 := hH.c _ _
  have w13 : 0 ≤ Xi S 904 69 ∧ Xi S 904 69 ≤ 2600 := hH.c _ _
  have w14 : 0 ≤ Xi S 904 70 ∧ Xi S 904 70 ≤ 20 := hH.c _ _
  have w15 : 0 ≤ Xi S 904 71 ∧ Xi S 904 71 ≤ 2600 := hH.c _ _
  have w16 : 0 ≤ Xi S 904 72 ∧ Xi S 904 72 ≤ 2600 := hH.c _ _
  have w17 : -2 ≤ Xi S 904 78 ∧ Xi S 904 78 ≤ 5010 := hH.c _ _
  have hX : TXM S := hI.1
  have hW : WYM S := hI.2.1
  have hM : LXM S := hI.2.2.1
  have hLC : LCN S := hI.2.2.2.1
  have hB : ABV S := hI.2.2.2.2.1
  have hC : DCM S := hI.2.2.2.2.2.1
  have hV : VTM S := hI.2.2.2.2.2.2.1
  have hVC : VCN S := hI.2.2.2.2.2.2.2.1
  have hWD : WYD S := hI.2.2.2.2.2.2.2.2.1
  have hRD : RDT S := hI.2.2.2.2.2.2.2.2.2.1
  have hAK : AKR S := hI.2.2.2.2.2.2.2.2.2.2.1
  have hd6 : Xi S 904 60 < Xi S 904 19 := hI.2.2.2.2.2.2.2.2.2.2.2.1
  have h16 : 2 ≤ Xi S 904 16 := hI.2.2.2.2.2.2.2.2.2.2.2.2
  have h32 : 1 ≤ Xi S 904 32 := hAK.2.2.2.2.2.2.2
  have hn5 := hT.1
  have hc69 : 0 ≤ Xi S 904 69 ∧ Xi S 904 69 ≤ 2600 := hH.c _ _
  have hc70 : 0 ≤ Xi S 904 70 ∧ Xi S 904 70 ≤ 20 := hH.c _ _
  have hc16 : 0 ≤ Xi S 904 16 ∧ Xi S 904 16 ≤ 16 := hH.c _ _
  have hc18 : 0 ≤ Xi S 904 18 ∧ Xi S 904 18 ≤ 8 := hH.c _ _
  have hc19 : 0 ≤ Xi S 904 19 ∧ Xi S 904 19 ≤ 24 := hH.c _ _
  have hc23 : 0 ≤ Xi S 904 23 ∧ Xi S 904 23 ≤ 24 := hH.c _ _
  have hc30 : 0 ≤ Xi S 904 30 ∧ Xi S 904 30 ≤ 64 := hH.c _ _
  have hc32 : 0 ≤ Xi S 904 32 ∧ Xi S 904 32 ≤ 12 := hH.c _ _
  have hc41 : 0 ≤ Xi S 904 41 ∧ Xi S 904 41 ≤ 6 := hH.c _ _
  have hc47 : 0 ≤ Xi S 904 47 ∧ Xi S 904 47 ≤ 8 := hH.c _ _
  have hc49 : 0 ≤ Xi S 904 49 ∧ Xi S 904 49 ≤ 12 := hH.c _ _
  have hc15 : 0 ≤ Xi S 904 15 ∧ Xi S 904 15 ≤ 300 := hH.c _ _
  have hc117 : 0 ≤ Xi S 904 117 ∧ Xi S 904 117 ≤ 480 := hH.c _ _
  have hc125 : 0 ≤ Xi S 904 125 ∧ Xi S 904 125 ≤ 192 := hH.c _ _
  have hc130 : 0 ≤ Xi S 904 130 ∧ Xi S 904 130 ≤ 24 := hH.c _ _
  have hl9 := lcn_le hH hLC
  intro T24 hHT24 hFT24 v2 w581 w582 w583 w584 w585 w586 w587 w588 w589 w590 w591 w592 w593 w594 w595 M403 L403 g403 w403 o403 x403 X406 W406 B406 V406 VC406 WD406
  have w596 : Xi T24 904 110 = Xi S 904 110 := hFT24.x _ _ rfl
  have w597 : Xi T24 904 112 = Xi S 904 112 := hFT24.x _ _ rfl
  have w598 : Xi T24 904 142 = Xi S 904 142 := hFT24.x _ _ rfl
  have w599 : Xi T24 904 69 = Xi S 904 69 := hFT24.x _ _ rfl
  have w600 : Xi T24 904 70 = Xi S 904 70 := hFT24.x _ _ rfl
  have w601 : Xi T24 904 71 = Xi S 904 71 := hFT24.x _ _ rfl
  have w602 : Xi T24 904 72 = Xi S 904 72 := hFT24.x _ _ rfl
  have w603 : Xi T24 904 74 = Xi S 904 74 := hFT24.x _ _ rfl
  have w604 : Xi T24 904 78 = Xi S 904 78 := hFT24.x _ _ rfl
  have w605 : Xi T24 904 94 = Xi S 904 94 := hFT24.x _ _ rfl
  have w606 : Xi T24 951 1 = Xi S 951 1 := hFT24.x _ _ rfl
  have w607 : Xi T24 951 2 = Xi S 951 2 := hFT24.x _ _ rfl
  have w608 : Xi T24 967 0 = Xi S 967 0 := hFT24.x _ _ rfl
  have w609 : 0 ≤ Xi T24 904 117 ∧ Xi T24 904 117 ≤ 480 := hHT24.c _ _
  have w610 : 0 ≤ Xi T24 904 15 ∧ Xi T24 904 15 ≤ 300 := hHT24.c _ _
  have w611 : 0 ≤ Xi T24 904 16 ∧ Xi T24 904 16 ≤ 16 := hHT24.c _ _
  have w612 : 0 ≤ Xi T24 904 18 ∧ Xi T24 904 18 ≤ 8 := hHT24.c _ _
  have w613 : 0 ≤ Xi T24 904 19 ∧ Xi T24 904 19 ≤ 24 := hHT24.c _ _
  have w614 : 0 ≤ Xi T24 904 23 ∧ Xi T24 904 23 ≤ 24 := hHT24.c _ _
  have w615 : 0 ≤ Xi T24 904 30 ∧ Xi T24 904 30 ≤ 64 := hHT24.c _ _
  have w616 : 0 ≤ Xi T24 904 32 ∧ Xi T24 904 32 ≤ 12 := hHT24.c _ _
  have w617 : 0 ≤ Xi T24 904 41 ∧ Xi T24 904 41 ≤ 6 := hHT24.c _ _
  have w618 : 0 ≤ Xi T24 904 47 ∧ Xi T24 904 47 ≤ 8 := hHT24.c _ _
  have w619 : 0 ≤ Xi T24 904 49 ∧ Xi T24 904 49 ≤ 12 := hHT24.c _ _
  have w620 : -1 ≤ Xi T24 904 60 ∧ Xi T24 904 60 ≤ 23 := hHT24.c _ _
  refine l_aload_n rfl rfl ?_
  have d382 := hk.2.2.2.2.2.2.2.2.2.2.2.2.2.1 (by omega)
  have s382 := hq.2.2.2.2.2.2.2.2.2 (by omega)
  have a382 := d382.2.1
  have l403 := lcn_le hHT24 L403
  refine l_iconst rfl ?_
  refine l_aload_n rfl rfl ?_
  refine l_aload_n rfl rfl ?_
  refine l_iconst rfl ?_
  refine l_iconst rfl ?_
  have w621 : 0 ≤ Xi T24 904 117 ∧ Xi T24 904 117 ≤ 480 := hHT24.c _ _
  have w622 : 0 ≤ Xi T24 904 15 ∧ Xi T24 904 15 ≤ 300 := hHT24.c _ _
  have w623 : 0 ≤ Xi T24 904 16 ∧ Xi T24 904 16 ≤ 16 := hHT24.c _ _
  have w624 : 0 ≤ Xi T24 904 19 ∧ Xi T24 904 19 ≤ 24 := hHT24.c _ _
  have w625 : 0 ≤ Xi T24 904 23 ∧ Xi T24 904 23 ≤ 24 := hHT24.c _ _
  have w626 : -1 ≤ Xi T24 904 60 ∧ Xi T24 904 60 ≤ 23 := hHT24.c _ _
  have w627 : 0 ≤ Xi T24 904 69 ∧ Xi T24 904 69 ≤ 2600 := hHT24.c _ _
  refine l_callV rfl rfl rfl (t_mo_meansRun__2 hHT24 n 0 0 ⟨by omega, by omega⟩ ⟨by omega, by omega⟩ (by first | assumption | exact (TK_FR hFT24 rfl (by assumption : TK S _))) (by first | assumption | exact (RNV_FR hFT24 rfl (by assumption : RNV S _))) (by first | assumption | omega) (by first | assumption | exact (by assumption : LXM T24)) _) ?_
  rintro _ _ ⟨rfl, z630, rfl, w630, w628, w629⟩
  show Rl _ _ _ _ _ [iv z630, .ref 904, iv 5, .ref 904] _ _
  have x412 : z630 ≠ -1 → z630 < 16 := fun q => by have t := (by assumption : z630 ≠ -1 → z630 < cM T24 0) q; rw [cM0] at t; have u : Xi T24 904 16 ≤ 16 := (hHT24.c 904 16).2; omega
  have r412 : z630 = rnR T24 0 0 := by assumption
  refine l_iload_n rfl rfl ?_
  have w631 : 0 ≤ Xi T24 904 117 ∧ Xi T24 904 117 ≤ 480 := hHT24.c _ _
  have w632 : 0 ≤ Xi T24 904 15 ∧ Xi T24 904 15 ≤ 300 := hHT24.c _ _
  have w633 : 0 ≤ Xi T24 904 16 ∧ Xi T24 904 16 ≤ 16 := hHT24.c _ _
  have w634 : 0 ≤ Xi T24 904 19 ∧ Xi T24 904 19 ≤ 24 := hHT24.c _ _
  have w635 : 0 ≤ Xi T24 904 23 ∧ Xi T24 904 23 ≤ 24 := hHT24.c _ _
  have w636 : -1 ≤ Xi T24 904 60 ∧ Xi T24 904 60 ≤ 23 := hHT24.c _ _
  refine l_callV rfl rfl rfl (t_mo_addAdjective hHT24 z630 v2 ⟨by omega, by omega⟩ ⟨by omega, by omega⟩ (by first | assumption | omega) _) ?_
  rintro _ T25 ⟨hHT25, w640, z639, rfl, w639, w637, w638, e416, k416⟩
  have hFT25 : FR md_mo_does S T25 := FR.tr hFT24 w640 rfl
  show Rl _ _ _ _ _ [iv z639, iv 5, .ref 904] _ _
  have g416 : GR T25 T24 := gr_m GR.rf (Int.le_of_eq ((by assumption : FR md_mo_addAdjective T24 T25).x 904 16 rfl).symm) (Int.le_of_eq ((by assumption : FR md_mo_addAdjective T24 T25).x 904 18 rfl).symm) (Int.le_of_eq ((by assumption : FR md_mo_addAdjective T24 T25).x 904 19 rfl).symm) (by omega) (Int.le_of_eq ((by assumption : FR md_mo_addAdjective T24 T25).x 904 30 rfl).symm) (Int.le_of_eq ((by assumption : FR md_mo_addAdjective T24 T25).x 904 32 rfl).symm) (Int.le_of_eq ((by assumption : FR md_mo_addAdjective T24 T25).x 904 41 rfl).symm) (Int.le_of_eq ((by assumption : FR md_mo_addAdjective T24 T25).x 904 47 rfl).symm) (Int.le_of_eq ((by assumption : FR md_mo_addAdjective T24 T25).x 904 49 rfl).symm) (fun i hi => ⟨(k416 i hi).2.1, ((by assumption : FR md_mo_addAdjective T24 T25).cx 923 rfl i).1, (k416 i hi).2.2⟩) (fun i _ => ((by assumption : FR md_mo_addAdjective T24 T25).cx 928 rfl i).1) (fun i _ => ((by assumption : FR md_mo_addAdjective T24 T25).cx 942 rfl i).1)
  have x416 : LXK T25 T24 (Xi T24 904 15) := LXK_FR (by assumption : FR md_mo_addAdjective T24 T25) rfl
  have c416 : Xi T25 904 15 = Xi T24 904 15 := (by assumption : FR md_mo_addAdjective T24 T25).x 904 15 rfl
  have o416 : (Xi T25 922 (Xi S 904 23).toNat = Xi S 904 23 + 1 ∧ Xi T25 924 (Xi S 904 23).toNat = 0) ∧ (Xi T25 922 (Xi T24 904 23).toNat = Xi S 904 23 ∧ Xi T25 924 (Xi T24 904 23).toNat = 0) := (by have t := k416 (Xi S 904 23).toNat (by omega); refine ⟨⟨t.2.1.trans o403.1, t.2.2.trans o403.2⟩, ?_, e416.2⟩; rw [e416.1]; omega)
  refine l_iconst rfl ?_
  have w641 : Xi T25 904 117 = Xi T24 904 117 := (show Xi T25 904 117 = Xi T24 904 117 from w640.x _ _ rfl)
  have w642 : 0 ≤ Xi T24 904 117 ∧ Xi T24 904 117 ≤ 480 := hHT24.c _ _
  have w643 : Xi T25 904 15 = Xi T24 904 15 := (show Xi T25 904 15 = Xi T24 904 15 from w640.x _ _ rfl)
  have w644 : 0 ≤ Xi T24 904 15 ∧ Xi T24 904 15 ≤ 300 := hHT24.c _ _
  have w645 : Xi T25 904 16 = Xi T24 904 16 := (show Xi T25 904 16 = Xi T24 904 16 from w640.x _ _ rfl)
  have w646 : 0 ≤ Xi T24 904 16 ∧ Xi T24 904 16 ≤ 16 := hHT24.c _ _
  have w647 : Xi T25 904 19 = Xi T24 904 19 := (show Xi T25 904 19 = Xi T24 904 19 from w640.x _ _ rfl)
  have w648 : 0 ≤ Xi T24 904 19 ∧ Xi T24 904 19 ≤ 24 := hHT24.c _ _
  have w649 : 0 ≤ Xi T25 904 23 ∧ Xi T25 904 23 ≤ 24 := hHT25.c _ _
  have w650 : Xi T25 904 60 = Xi T24 904 60 := (show Xi T25 904 60 = Xi T24 904 60 from w640.x _ _ rfl)
  have w651 : -1 ≤ Xi T24 904 60 ∧ Xi T24 904 60 ≤ 23 := hHT24.c _ _
  have w652 : Xi T25 904 69 = Xi T24 904 69 := (show Xi T25 904 69 = Xi T24 904 69 from w640.x _ _ rfl)
  have w653 : 0 ≤ Xi T24 904 69 ∧ Xi T24 904 69 ≤ 2600 := hHT24.c _ _
  refine l_callV rfl rfl rfl (t_mo_tellRun hHT25 n 5 z639 2 ⟨by omega, by omega⟩ ⟨by omega, by omega⟩ ⟨by omega, by omega⟩ (by first | assumption | exact (TK_FR hFT25 rfl (by assumption : TK S _))) (by first | assumption | exact (RNV_FR hFT25 rfl (by assumption : RNV S _))) (by first | assumption | omega) (by first | (rw [(hFT25.cx 951 rfl _).1]; exact d382.2.2.1) | (rw [(hFT25.cx 951 rfl _).1]; exact d382.2.2.2) | (rw [(hFT25.cx 951 rfl _).1]; exact d426.2.1) | (rw [(hFT25.cx 951 rfl _).1]; have t := d300.2.2 v2 (by omega) (by omega); rw [show Xi T24 904 71 = Xi S 904 71 by omega]; exact t)) (by first | omega | (have t := lcn_le hHT24 L300; omega)) _) ?_
  rintro _ T26 ⟨hHT26, w656, rfl, w654, e420, k420⟩
  have hFT26 : FR md_mo_does S T26 := FR.tr hFT25 w656 rfl
  show Rl _ _ _ _ _ [] _ _
  have y420_117 : Xi T26 904 117 = Xi T24 904 117 := ((show Xi T26 904 117 = Xi T25 904 117 from w656.x _ _ rfl).trans ((show Xi T25 904 117 = Xi T24 904 117 from w640.x _ _ rfl)))
  have g420 : GR T26 T24 := GR_FR (by assumption : FR md_mo_tellRun T25 T26) rfl g416
  have G420 : GR T26 S := g403.tr g420
  have x420 : LXK T26 T24 (Xi T24 904 15) := x416.tr k420 (by omega)
  have h420 : 0 ≤ Xi T24 904 15 := (hHT24.c 904 15).1
  have f420 : Xi T26 904 23 = Xi T24 904 23 + 1 := by have t : Xi T26 904 23 = Xi T25 904 23 := (by assumption : FR md_mo_tellRun T25 T26).x 904 23 rfl; omega
  have d420 : Xi T26 915 (Xi T24 904 15).toNat < cM T26 (Xi T26 914 (Xi T24 904 15).toNat) := by rw [← c416, e420.1, e420.2, cM5]; omega
  have M420 : LXM T26 := lxm_gr M403 x420 g420 (by omega) (Or.inr ⟨by omega, d420⟩)
  have y420_16 : Xi T26 904 16 = Xi T24 904 16 := ((show Xi T26 904 16 = Xi T25 904 16 from w656.x _ _ rfl).trans ((show Xi T25 904 16 = Xi T24 904 16 from w640.x _ _ rfl)))
  have y420_18 : Xi T26 904 18 = Xi T24 904 18 := ((show Xi T26 904 18 = Xi T25 904 18 from w656.x _ _ rfl).trans ((show Xi T25 904 18 = Xi T24 904 18 from w640.x _ _ rfl)))
  have y420_19 : Xi T26 904 19 = Xi T24 904 19 := ((show Xi T26 904 19 = Xi T25 904 19 from w656.x _ _ rfl).trans ((show Xi T25 904 19 = Xi T24 904 19 from w640.x _ _ rfl)))
  have y420_30 : Xi T26 904 30 = Xi T24 904 30 := ((show Xi T26 904 30 = Xi T25 904 30 from w656.x _ _ rfl).trans ((show Xi T25 904 30 = Xi T24 904 30 from w640.x _ _ rfl)))
  have y420_32 : Xi T26 904 32 = Xi T24 904 32 := ((show Xi T26 904 32 = Xi T25 904 32 from w656.x _ _ rfl).trans ((show Xi T25 904 32 = Xi T24 904 32 from w640.x _ _ rfl)))
  have y420_41 : Xi T26 904 41 = Xi T24 904 41 := ((show Xi T26 904 41 = Xi T25 904 41 from w656.x _ _ rfl).trans ((show Xi T25 904 41 = Xi T24 904 41 from w640.x _ _ rfl)))
  have y420_47 : Xi T26 904 47 = Xi T24 904 47 := ((show Xi T26 904 47 = Xi T25 904 47 from w656.x _ _ rfl).trans ((show Xi T25 904 47 = Xi T24 904 47 from w640.x _ _ rfl)))
  have y420_49 : Xi T26 904 49 = Xi T24 904 49 := ((show Xi T26 904 49 = Xi T25 904 49 from w656.x _ _ rfl).trans ((show Xi T25 904 49 = Xi T24 904 49 from w640.x _ _ rfl)))
  have L420 : LCN T26 := lcn_i L403 (pls_le x420 (by omega) (by omega) (by omega)) (by omega)
  have o420 : (Xi T26 922 (Xi S 904 23).toNat = Xi S 904 23 + 1 ∧ Xi T26 924 (Xi S 904 23).toNat = 0) ∧ (Xi T26 922 (Xi T24 904 23).toNat = Xi S 904 23 ∧ Xi T26 924 (Xi T24 904 23).toNat = 0) := ⟨⟨((by assumption : FR md_mo_tellRun T25 T26).cx 922 rfl _).1.trans o416.1.1, ((by assumption : FR md_mo_tellRun T25 T26).cx 924 rfl _).1.trans o416.1.2⟩, ((by assumption : FR md_mo_tellRun T25 T26).cx 922 rfl _).1.trans o416.2.1, ((by assumption : FR md_mo_tellRun T25 T26).cx 924 rfl _).1.trans o416.2.2⟩
  have N420 : ∀ a : Nat, Xi S 904 23 ≤ (a : Int) → (a : Int) < Xi T26 904 23 → Xi T26 924 a = 0 ∧ Xi T26 922 a ≠ -1 := nadj2 (by omega) (by omega) ⟨o420.1, by rw [show Xi S 904 23 + 1 = Xi T24 904 23 by omega]; exact o420.2⟩
  have C420 : DCM T26 := dcm_gr hC G420 (fun a x y _ => (N420 a x y).2)
  have R420 : RDT T26 := rdt_gr hRD G420 (by omega) (hFT26.x 904 125 rfl) (hFT26.x 904 130 rfl) (smk_q9 hFT26 rfl) (fun a x y => (N420 a x y).1)
  refine l_goto rfl rfl ?_
  refine l_return rfl rfl ?_
  have w657 : Xi T26 904 117 = Xi T24 904 117 := (show Xi T26 904 117 = Xi T25 904 117 from w656.x _ _ rfl).trans ((show Xi T25 904 117 = Xi T24 904 117 from w640.x _ _ rfl))
  have w658 : 0 ≤ Xi T24 904 117 ∧ Xi T24 904 117 ≤ 480 := hHT24.c _ _
  have w659 : 0 ≤ Xi T26 904 15 ∧ Xi T26 904 15 ≤ 300 := hHT26.c _ _
  have w660 : Xi T26 904 16 = Xi T24 904 16 := (show Xi T26 904 16 = Xi T25 904 16 from w656.x _ _ rfl).trans ((show Xi T25 904 16 = Xi T24 904 16 from w640.x _ _ rfl))
  have w661 : 0 ≤ Xi T24 904 16 ∧ Xi T24 904 16 ≤ 16 := hHT24.c _ _
  have w662 : Xi T26 904 19 = Xi T24 904 19 := (show Xi T26 904 19 = Xi T25 904 19 from w656.x _ _ rfl).trans ((show Xi T25 904 19 = Xi T24 904 19 from w640.x _ _ rfl))
  have w663 : 0 ≤ Xi T24 904 19 ∧ Xi T24 904 19 ≤ 24 := hHT24.c _ _
  have w664 : Xi T26 904 23 = Xi T25 904 23 := (show Xi T26 904 23 = Xi T25 904 23 from w656.x _ _ rfl)
  have w665 : 0 ≤ Xi T25 904 23 ∧ Xi T25 904 23 ≤ 24 := hHT25.c _ _
  have w666 : Xi T26 904 60 = Xi T24 904 60 := (show Xi T26 904 60 = Xi T25 904 60 from w656.x _ _ rfl).trans ((show Xi T25 904 60 = Xi T24 904 60 from w640.x _ _ rfl))
  have w667 : -1 ≤ Xi T24 904 60 ∧ Xi T24 904 60 ≤ 23 := hHT24.c _ _
  exact ⟨hHT26, hFT26, rfl, (⟨by first | assumption | exact (TXM_FR w656 rfl (TXM_FR w640 rfl (by assumption : TXM T24))), by first | assumption | exact (WYM_FR w656 rfl (WYM_FR w640 rfl (by assumption : WYM T24))), by first | assumption | exact (by assumption : LXM T26), by first | assumption | exact (by assumption : LCN T26), by first | assumption | exact (ABV_FR w656 rfl (ABV_FR w640 rfl (by assumption : ABV T24))), by first | assumption | exact (DCM_FR w656 rfl (by assumption : DCM T25)), by first | assumption | exact (VTM_FR w656 rfl (VTM_FR w640 rfl (by assumption : VTM T24))), by first | assumption | exact (VCN_FR w656 rfl (VCN_FR w640 rfl (by assumption : VCN T24))), by first | assumption | exact (WYD_FR w656 rfl (WYD_FR w640 rfl (by assumption : WYD T24))), by first | assumption | exact (RDT_FR hHT25 w656 rfl rfl rfl (by assumption : RDT T25)) | exact rdt_df hRD (GR_FR w656 rfl (GR.tr (by assumption : GR T24 S) (by assumption : GR T25 T24))) df153 (by omega) (by omega) (by omega) (hFT26.x 904 125 rfl) (hFT26.x 904 130 rfl) (smk_q9 hFT26 rfl) dn153 | exact rdt_gr hRD (by first | assumption | exact (GR_FR w656 rfl (GR.tr (by assumption : GR T24 S) (by assumption : GR T25 T24)))) (by omega) (hFT26.x 904 125 rfl) (hFT26.x 904 130 rfl) (smk_q9 hFT26 rfl) (fun a x y => absurd y (by omega)), akr_gr hAK (by first | assumption | exact (GR_FR w656 rfl (GR.tr (by assumption : GR T24 S) (by assumption : GR T25 T24)))), by first | omega | (have g := (by first | assumption | exact (GR_FR w656 rfl (GR.tr (by assumption : GR T24 S) (by assumption : GR T25 T24))) : GR T26 S); have t := g.1; omega), by first | omega | (have g := (by first | assumption | exact (GR_FR w656 rfl (GR.tr (by assumption : GR T24 S) (by assumption : GR T25 T24))) : GR T26 S); have t := g.1; omega)⟩)⟩


