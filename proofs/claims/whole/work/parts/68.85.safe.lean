/-! SAFETY of methods: printed by wip/safe (vc.py, decl.py) -/
def md_mo_askWay : List rec := [(904, 905, 104, 105), (904, 905, 105, 106), (904, 905, 106, 107), (904, 905, 108, 109), (966, 967, 0, 100000)]
abbrev Q_mo_askWay (S : sS) (n : Nat) : pst := fun r S1 => HI S1 ∧ FR md_mo_askWay S S1 ∧ (r = none ∧ (Xi S1 904 106 = 0 → (rnR S (Xi S 904 71) 4 = -1 → Xi S 904 19 < 24 ∧ Xi S 951 (Xi S 904 71).toNat ≤ 3) ∧ rnR S (Xi S 904 78) 12 ≠ -1 ∧ rnR S (Xi S 904 74) 4 ≠ -1))
set_option maxRecDepth 100000 in
set_option maxHeartbeats 4000000 in
theorem c69_mo_askWay {S : sS} (hH : HI S) (n : Nat) (hT : TK S n) (hv : RNV S n) (hM : LXM S) (hN : NWV S) (hB : ABV S) (hl : Xi S 904 71 + Xi S 904 72 ≤ Xi S 904 69) (h1 : 1 ≤ Xi S 904 72) (h9 : Xi S 904 108 = 0) (hw : 0 ≤ Xi S 904 78 ∧ Xi S 904 78 < Xi S 904 69) (hp : Xi S 904 74 < Xi S 904 69) (d : Nat) : ∀  (T1 : sS) (_ : HI T1) (_ : FR md_mo_askWay S T1) (v1 : Int), (0 ≤ v1 ∧ v1 ≤ 2600) → (v1 = Xi S 904 71) → (Xi T1 904 69 = Xi S 904 69) → (Xi T1 904 72 = Xi S 904 72) → (Xi T1 904 78 = Xi S 904 78) → (Xi T1 904 74 = Xi S 904 74) → (Xi T1 904 106 = 0 → (rnR S (Xi S 904 71) 4 = -1 → Xi S 904 19 < 24 ∧ Xi S 951 (Xi S 904 71).toNat ≤ 3)) → Rl lay0 (d + 4) m_mo_askWay 69 [(0, .ref 904), (1, iv v1)] [] T1 (Q_mo_askWay S n) := by
  have hF : FR md_mo_askWay S S := FR.rf
  have w1 : 0 ≤ Xi S 904 106 ∧ Xi S 904 106 ≤ 9 := hH.c _ _
  have w2 : 0 ≤ Xi S 904 108 ∧ Xi S 904 108 ≤ 2600 := hH.c _ _
  have w3 : 0 ≤ Xi S 904 19 ∧ Xi S 904 19 ≤ 24 := hH.c _ _
  have w4 : 0 ≤ Xi S 904 69 ∧ Xi S 904 69 ≤ 2600 := hH.c _ _
  have w5 : 0 ≤ Xi S 904 71 ∧ Xi S 904 71 ≤ 2600 := hH.c _ _
  have w6 : 0 ≤ Xi S 904 72 ∧ Xi S 904 72 ≤ 2600 := hH.c _ _
  have w7 : 0 ≤ Xi S 904 74 ∧ Xi S 904 74 ≤ 2600 := hH.c _ _
  have w8 : -2 ≤ Xi S 904 78 ∧ Xi S 904 78 ≤ 5010 := hH.c _ _
  have hn5 := hT.1
  have hc69 : 0 ≤ Xi S 904 69 ∧ Xi S 904 69 ≤ 2600 := hH.c _ _
  have hc71 : 0 ≤ Xi S 904 71 ∧ Xi S 904 71 ≤ 2600 := hH.c _ _
  have hc72 : 0 ≤ Xi S 904 72 ∧ Xi S 904 72 ≤ 2600 := hH.c _ _
  have hrf : ∀ r : Int, 0 ≤ r → r < Xi S 904 69 → Xi S 950 r.toNat ≤ n := fun r a b => by have := hv r.toNat (by omega); omega
  have hc19 : 0 ≤ Xi S 904 19 ∧ Xi S 904 19 ≤ 24 := hH.c _ _
  have hc74 : 0 ≤ Xi S 904 74 := (hH.c 904 74).1
  intro T1 hHT1 hFT1 v1 w9 w10 w11 w12 w13 w14 F69
  have w15 : Xi T1 904 19 = Xi S 904 19 := hFT1.x _ _ rfl
  have w16 : Xi T1 904 69 = Xi S 904 69 := hFT1.x _ _ rfl
  have w17 : Xi T1 904 71 = Xi S 904 71 := hFT1.x _ _ rfl
  have w18 : Xi T1 904 72 = Xi S 904 72 := hFT1.x _ _ rfl
  have w19 : Xi T1 904 74 = Xi S 904 74 := hFT1.x _ _ rfl
  have w20 : Xi T1 904 78 = Xi S 904 78 := hFT1.x _ _ rfl
  have w21 : 0 ≤ Xi T1 904 106 ∧ Xi T1 904 106 ≤ 9 := hHT1.c _ _
  have w22 : 0 ≤ Xi T1 904 69 ∧ Xi T1 904 69 ≤ 2600 := hHT1.c _ _
  have w23 : 0 ≤ Xi T1 904 72 ∧ Xi T1 904 72 ≤ 2600 := hHT1.c _ _
  have w24 : 0 ≤ Xi T1 904 74 ∧ Xi T1 904 74 ≤ 2600 := hHT1.c _ _
  have w25 : -2 ≤ Xi T1 904 78 ∧ Xi T1 904 78 ≤ 5010 := hHT1.c _ _
  refine l_aload_n rfl rfl ?_
  refine l_gfi rfl rfl rfl rfl rfl ?_
  refine l_iconst rfl ?_
  refine l_icmp_le rfl rfl (by unfold rg; omega) (by unfold rg; omega) (fun w26 => ?_) (fun w27 => ?_)
  · refine l_aload_n rfl rfl ?_
    refine l_aload_n rfl rfl ?_
    refine l_aload_n rfl rfl ?_
    refine l_gfi rfl rfl rfl rfl rfl ?_
    refine l_bipush rfl rfl ?_
    refine l_callV rfl rfl rfl (t_mo_meansRun__2 hHT1 n (Xi T1 904 78) 12 ⟨by omega, by omega⟩ ⟨by omega, by omega⟩ (by first | assumption | exact (TK_FR hFT1 rfl (by assumption : TK S _))) (by first | assumption | exact (RNV_FR hFT1 rfl (by assumption : RNV S _))) (by first | assumption | omega) (by first | assumption | exact (LXM_FR hFT1 rfl (by assumption : LXM S))) _) ?_
    rintro _ _ ⟨rfl, z37, rfl, w37, w35, w36⟩
    show Rl _ _ _ _ _ [iv z37, .ref 904] _ _
    have r98 : z37 = rnR S (Xi S 904 78) 12 := by have t := (by assumption : z37 = rnR T1 _ _).trans (rnR_FR hFT1 rfl rfl); first | exact t | (rw [t]; exact congrArg (fun x : Int => rnR S x 12) (by omega))
    refine l_iconst rfl ?_
    refine l_icmp_eq rfl rfl (by unfold rg; omega) (by unfold rg; omega) (fun w38 => ?_) (fun w39 => ?_)
    · refine l_iconst rfl ?_
      refine l_iconst rfl ?_
      refine l_aload_n rfl rfl ?_
      refine l_gfr rfl rfl rfl rfl rfl (hHT1.r 904 67 950 rfl) ?_
      refine l_aload_n rfl rfl ?_
      refine l_gfi rfl rfl rfl rfl rfl ?_
      refine l_iaload (n := 2600) rfl rfl (by omega) (by omega) (by unfold rg; omega) ?_
      have w40 : 0 ≤ (Xi T1 950 (((Xi T1 904 78)).toNat)) ∧ (Xi T1 950 (((Xi T1 904 78)).toNat)) ≤ 5010 := hHT1.c _ _
      have e119 : (Xi T1 950 (((Xi T1 904 78)).toNat)) = Xi S 950 (Xi S 904 78).toNat := by first | rfl | exact (hFT1.cx 950 rfl _).1 | (rw [(hFT1.cx 950 rfl _).1]; exact congrArg (fun t : Int => Xi S 950 t.toNat) (by omega))
      have f119 := hrf (Xi S 904 78) (by omega) (by omega)
      refine l_callV rfl rfl rfl (t_mo_need hHT1 0 4 (Xi T1 950 (((Xi T1 904 78)).toNat)) ⟨by omega, by omega⟩ ⟨by omega, by omega⟩ ⟨by omega, by omega⟩ _) ?_
      rintro _ T2 ⟨hHT2, w51, rfl, w48, w49⟩
      have hFT2 : FR md_mo_askWay S T2 := FR.tr hFT1 w51 rfl
      show Rl _ _ _ _ _ [] _ _
      refine l_aload_n rfl rfl ?_
      refine l_aload_n rfl rfl ?_
      refine l_gfi rfl rfl rfl rfl rfl ?_
      have w52 : (Xi T2 904 74) = (Xi T1 904 74) := (show Xi T2 904 74 = Xi T1 904 74 from w51.x _ _ rfl)
      rw [w52]
      refine l_iconst rfl ?_
      have w56 : Xi T2 904 69 = Xi T1 904 69 := (show Xi T2 904 69 = Xi T1 904 69 from w51.x _ _ rfl)
      have w62 : Xi T2 904 74 = Xi T1 904 74 := (show Xi T2 904 74 = Xi T1 904 74 from w51.x _ _ rfl)
      refine l_callV rfl rfl rfl (t_mo_meansRun__2 hHT2 n (Xi T1 904 74) 4 ⟨by omega, by omega⟩ ⟨by omega, by omega⟩ (by first | assumption | exact (TK_FR hFT2 rfl (by assumption : TK S _))) (by first | assumption | exact (RNV_FR hFT2 rfl (by assumption : RNV S _))) (by first | assumption | omega) (by first | assumption | exact (LXM_FR hFT2 rfl (by assumption : LXM S))) _) ?_
      rintro _ _ ⟨rfl, z68, rfl, w68, w66, w67⟩
      show Rl _ _ _ _ _ [iv z68] _ _
      have x129 : z68 ≠ -1 → z68 < Xi S 904 19 := fun q => by have t := (by assumption : z68 ≠ -1 → z68 < cM T2 4) q; rw [cM4, hFT2.x 904 19 rfl] at t; exact t
      have r129 : z68 = rnR S (Xi S 904 74) 4 := by have t := (by assumption : z68 = rnR T2 _ _).trans (rnR_FR hFT2 rfl rfl); first | exact t | (rw [t]; exact congrArg (fun x : Int => rnR S x 4) (by omega))
      refine l_istore_n rfl rfl rfl ?_
      refine l_aload_n rfl rfl ?_
      refine l_iload_n rfl rfl ?_
      refine l_iconst rfl ?_
      refine l_icmp_eq rfl rfl (by unfold rg; omega) (by unfold rg; omega) (fun w69 => ?_) (fun w70 => ?_)
      · refine l_iconst rfl ?_
        refine l_iconst rfl ?_
        refine l_aload_n rfl rfl ?_
        refine l_gfr rfl rfl rfl rfl rfl (hHT2.r 904 67 950 rfl) ?_
        refine l_aload_n rfl rfl ?_
        refine l_gfi rfl rfl rfl rfl rfl ?_
        have w71 : (Xi T2 904 74) = (Xi T1 904 74) := (show Xi T2 904 74 = Xi T1 904 74 from w51.x _ _ rfl)
        rw [w71]
        refine l_iaload (n := 2600) rfl rfl (by omega) (by omega) (by unfold rg; omega) ?_
        have w72 : 0 ≤ (Xi T2 950 (((Xi T1 904 74)).toNat)) ∧ (Xi T2 950 (((Xi T1 904 74)).toNat)) ≤ 5010 := hHT2.c _ _
        have e167 : (Xi T2 950 (((Xi T1 904 74)).toNat)) = Xi S 950 (Xi S 904 74).toNat := by first | rfl | exact (hFT2.cx 950 rfl _).1 | (rw [(hFT2.cx 950 rfl _).1]; exact congrArg (fun t : Int => Xi S 950 t.toNat) (by omega))
        have f167 := hrf (Xi S 904 74) (by omega) (by omega)
        have w73 : 0 ≤ Xi T2 904 106 ∧ Xi T2 904 106 ≤ 9 := hHT2.c _ _
        refine l_callV rfl rfl rfl (t_mo_need hHT2 0 4 (Xi T2 950 (((Xi T1 904 74)).toNat)) ⟨by omega, by omega⟩ ⟨by omega, by omega⟩ ⟨by omega, by omega⟩ _) ?_
        rintro _ T3 ⟨hHT3, w89, rfl, w86, w87⟩
        have hFT3 : FR md_mo_askWay S T3 := FR.tr hFT2 w89 rfl
        show Rl _ _ _ _ _ [] _ _
        refine l_return rfl rfl ?_
        have w90 : 0 ≤ Xi T3 904 106 ∧ Xi T3 904 106 ≤ 9 := hHT3.c _ _
        have w95 : Xi T3 904 71 = Xi T1 904 71 := (show Xi T3 904 71 = Xi T2 904 71 from w89.x _ _ rfl).trans ((show Xi T2 904 71 = Xi T1 904 71 from w51.x _ _ rfl))
        have w96 : 0 ≤ Xi T1 904 71 ∧ Xi T1 904 71 ≤ 2600 := hHT1.c _ _
        have w99 : Xi T3 904 74 = Xi T1 904 74 := (show Xi T3 904 74 = Xi T2 904 74 from w89.x _ _ rfl).trans ((show Xi T2 904 74 = Xi T1 904 74 from w51.x _ _ rfl))
        have w101 : Xi T3 904 78 = Xi T1 904 78 := (show Xi T3 904 78 = Xi T2 904 78 from w89.x _ _ rfl).trans ((show Xi T2 904 78 = Xi T1 904 78 from w51.x _ _ rfl))
        exact ⟨hHT3, hFT3, rfl, (fun q => ⟨F69 (by omega), by omega, by omega⟩)⟩
      · refine l_aload_n rfl rfl ?_
        refine l_aload_n rfl rfl ?_
        refine l_gfr rfl rfl rfl rfl rfl (hHT2.r 904 20 918 rfl) ?_
        refine l_iload_n rfl rfl ?_
        refine l_iaload (n := 24) rfl rfl (by omega) (by omega) (by unfold rg; omega) ?_
        have w103 : 0 ≤ (Xi T2 918 ((z68).toNat)) ∧ (Xi T2 918 ((z68).toNat)) ≤ 15 := hHT2.c _ _
        refine l_iconst rfl ?_
        refine l_callV rfl rfl rfl (t_mo_isBelow hHT2 (Xi T2 918 ((z68).toNat)) 1 ⟨by omega, by omega⟩ ⟨by omega, by omega⟩ (by first | assumption | exact (ABV_FR hFT2 rfl (by assumption : ABV S))) _) ?_
        rintro _ _ ⟨rfl, z118, rfl, w118, w117⟩
        show Rl _ _ _ _ _ [iv z118, .ref 904] _ _
        refine l_if_eq rfl rfl (by unfold rg; omega) (fun w119 => ?_) (fun w120 => ?_)
        · refine l_iconst rfl ?_
          refine l_iconst rfl ?_
          refine l_aload_n rfl rfl ?_
          refine l_gfr rfl rfl rfl rfl rfl (hHT2.r 904 67 950 rfl) ?_
          refine l_aload_n rfl rfl ?_
          refine l_gfi rfl rfl rfl rfl rfl ?_
          have w121 : (Xi T2 904 74) = (Xi T1 904 74) := (show Xi T2 904 74 = Xi T1 904 74 from w51.x _ _ rfl)
          rw [w121]
          refine l_iaload (n := 2600) rfl rfl (by omega) (by omega) (by unfold rg; omega) ?_
          have w122 : 0 ≤ (Xi T2 950 (((Xi T1 904 74)).toNat)) ∧ (Xi T2 950 (((Xi T1 904 74)).toNat)) ≤ 5010 := hHT2.c _ _
          have e167 : (Xi T2 950 (((Xi T1 904 74)).toNat)) = Xi S 950 (Xi S 904 74).toNat := by first | rfl | exact (hFT2.cx 950 rfl _).1 | (rw [(hFT2.cx 950 rfl _).1]; exact congrArg (fun t : Int => Xi S 950 t.toNat) (by omega))
          have f167 := hrf (Xi S 904 74) (by omega) (by omega)
          have w123 : 0 ≤ Xi T2 904 106 ∧ Xi T2 904 106 ≤ 9 := hHT2.c _ _
          refine l_callV rfl rfl rfl (t_mo_need hHT2 0 4 (Xi T2 950 (((Xi T1 904 74)).toNat)) ⟨by omega, by omega⟩ ⟨by omega, by omega⟩ ⟨by omega, by omega⟩ _) ?_
          rintro _ T4 ⟨hHT4, w139, rfl, w136, w137⟩
          have hFT4 : FR md_mo_askWay S T4 := FR.tr hFT2 w139 rfl
          show Rl _ _ _ _ _ [] _ _
          refine l_return rfl rfl ?_
          have w140 : 0 ≤ Xi T4 904 106 ∧ Xi T4 904 106 ≤ 9 := hHT4.c _ _
          have w145 : Xi T4 904 71 = Xi T1 904 71 := (show Xi T4 904 71 = Xi T2 904 71 from w139.x _ _ rfl).trans ((show Xi T2 904 71 = Xi T1 904 71 from w51.x _ _ rfl))
          have w146 : 0 ≤ Xi T1 904 71 ∧ Xi T1 904 71 ≤ 2600 := hHT1.c _ _
          have w149 : Xi T4 904 74 = Xi T1 904 74 := (show Xi T4 904 74 = Xi T2 904 74 from w139.x _ _ rfl).trans ((show Xi T2 904 74 = Xi T1 904 74 from w51.x _ _ rfl))
          have w151 : Xi T4 904 78 = Xi T1 904 78 := (show Xi T4 904 78 = Xi T2 904 78 from w139.x _ _ rfl).trans ((show Xi T2 904 78 = Xi T1 904 78 from w51.x _ _ rfl))
          exact ⟨hHT4, hFT4, rfl, (fun q => ⟨F69 (by omega), by omega, by omega⟩)⟩
        · refine l_iconst rfl ?_
          refine l_goto rfl rfl ?_
          refine l_iconst rfl ?_
          refine l_aload_n rfl rfl ?_
          refine l_gfr rfl rfl rfl rfl rfl (hHT2.r 904 67 950 rfl) ?_
          refine l_aload_n rfl rfl ?_
          refine l_gfi rfl rfl rfl rfl rfl ?_
          have w153 : (Xi T2 904 74) = (Xi T1 904 74) := (show Xi T2 904 74 = Xi T1 904 74 from w51.x _ _ rfl)
          rw [w153]
          refine l_iaload (n := 2600) rfl rfl (by omega) (by omega) (by unfold rg; omega) ?_
          have w154 : 0 ≤ (Xi T2 950 (((Xi T1 904 74)).toNat)) ∧ (Xi T2 950 (((Xi T1 904 74)).toNat)) ≤ 5010 := hHT2.c _ _
          have e167 : (Xi T2 950 (((Xi T1 904 74)).toNat)) = Xi S 950 (Xi S 904 74).toNat := by first | rfl | exact (hFT2.cx 950 rfl _).1 | (rw [(hFT2.cx 950 rfl _).1]; exact congrArg (fun t : Int => Xi S 950 t.toNat) (by omega))
          have f167 := hrf (Xi S 904 74) (by omega) (by omega)
          have w155 : 0 ≤ Xi T2 904 106 ∧ Xi T2 904 106 ≤ 9 := hHT2.c _ _
          refine l_callV rfl rfl rfl (t_mo_need hHT2 1 4 (Xi T2 950 (((Xi T1 904 74)).toNat)) ⟨by omega, by omega⟩ ⟨by omega, by omega⟩ ⟨by omega, by omega⟩ _) ?_
          rintro _ T5 ⟨hHT5, w171, rfl, w168, w169⟩
          have hFT5 : FR md_mo_askWay S T5 := FR.tr hFT2 w171 rfl
          show Rl _ _ _ _ _ [] _ _
          refine l_return rfl rfl ?_
          have w172 : 0 ≤ Xi T5 904 106 ∧ Xi T5 904 106 ≤ 9 := hHT5.c _ _
          have w177 : Xi T5 904 71 = Xi T1 904 71 := (show Xi T5 904 71 = Xi T2 904 71 from w171.x _ _ rfl).trans ((show Xi T2 904 71 = Xi T1 904 71 from w51.x _ _ rfl))
          have w178 : 0 ≤ Xi T1 904 71 ∧ Xi T1 904 71 ≤ 2600 := hHT1.c _ _
          have w181 : Xi T5 904 74 = Xi T1 904 74 := (show Xi T5 904 74 = Xi T2 904 74 from w171.x _ _ rfl).trans ((show Xi T2 904 74 = Xi T1 904 74 from w51.x _ _ rfl))
          have w183 : Xi T5 904 78 = Xi T1 904 78 := (show Xi T5 904 78 = Xi T2 904 78 from w171.x _ _ rfl).trans ((show Xi T2 904 78 = Xi T1 904 78 from w51.x _ _ rfl))
          exact ⟨hHT5, hFT5, rfl, (fun q => ⟨F69 (by omega), by omega, by omega⟩)⟩
    · refine l_iconst rfl ?_
      refine l_goto rfl rfl ?_
      refine l_iconst rfl ?_
      refine l_aload_n rfl rfl ?_
      refine l_gfr rfl rfl rfl rfl rfl (hHT1.r 904 67 950 rfl) ?_
      refine l_aload_n rfl rfl ?_
      refine l_gfi rfl rfl rfl rfl rfl ?_
      refine l_iaload (n := 2600) rfl rfl (by omega) (by omega) (by unfold rg; omega) ?_
      have w185 : 0 ≤ (Xi T1 950 (((Xi T1 904 78)).toNat)) ∧ (Xi T1 950 (((Xi T1 904 78)).toNat)) ≤ 5010 := hHT1.c _ _
      have e119 : (Xi T1 950 (((Xi T1 904 78)).toNat)) = Xi S 950 (Xi S 904 78).toNat := by first | rfl | exact (hFT1.cx 950 rfl _).1 | (rw [(hFT1.cx 950 rfl _).1]; exact congrArg (fun t : Int => Xi S 950 t.toNat) (by omega))
      have f119 := hrf (Xi S 904 78) (by omega) (by omega)
      refine l_callV rfl rfl rfl (t_mo_need hHT1 1 4 (Xi T1 950 (((Xi T1 904 78)).toNat)) ⟨by omega, by omega⟩ ⟨by omega, by omega⟩ ⟨by omega, by omega⟩ _) ?_
      rintro _ T6 ⟨hHT6, w196, rfl, w193, w194⟩
      have hFT6 : FR md_mo_askWay S T6 := FR.tr hFT1 w196 rfl
      show Rl _ _ _ _ _ [] _ _
      refine l_aload_n rfl rfl ?_
      refine l_aload_n rfl rfl ?_
      refine l_gfi rfl rfl rfl rfl rfl ?_
      have w197 : (Xi T6 904 74) = (Xi T1 904 74) := (show Xi T6 904 74 = Xi T1 904 74 from w196.x _ _ rfl)
      rw [w197]
      refine l_iconst rfl ?_
      have w201 : Xi T6 904 69 = Xi T1 904 69 := (show Xi T6 904 69 = Xi T1 904 69 from w196.x _ _ rfl)
      have w207 : Xi T6 904 74 = Xi T1 904 74 := (show Xi T6 904 74 = Xi T1 904 74 from w196.x _ _ rfl)
      refine l_callV rfl rfl rfl (t_mo_meansRun__2 hHT6 n (Xi T1 904 74) 4 ⟨by omega, by omega⟩ ⟨by omega, by omega⟩ (by first | assumption | exact (TK_FR hFT6 rfl (by assumption : TK S _))) (by first | assumption | exact (RNV_FR hFT6 rfl (by assumption : RNV S _))) (by first | assumption | omega) (by first | assumption | exact (LXM_FR hFT6 rfl (by assumption : LXM S))) _) ?_
      rintro _ _ ⟨rfl, z213, rfl, w213, w211, w212⟩
      show Rl _ _ _ _ _ [iv z213] _ _
      have x129 : z213 ≠ -1 → z213 < Xi S 904 19 := fun q => by have t := (by assumption : z213 ≠ -1 → z213 < cM T6 4) q; rw [cM4, hFT6.x 904 19 rfl] at t; exact t
      have r129 : z213 = rnR S (Xi S 904 74) 4 := by have t := (by assumption : z213 = rnR T6 _ _).trans (rnR_FR hFT6 rfl rfl); first | exact t | (rw [t]; exact congrArg (fun x : Int => rnR S x 4) (by omega))
      refine l_istore_n rfl rfl rfl ?_
      refine l_aload_n rfl rfl ?_
      refine l_iload_n rfl rfl ?_
      refine l_iconst rfl ?_
      refine l_icmp_eq rfl rfl (by unfold rg; omega) (by unfold rg; omega) (fun w214 => ?_) (fun w215 => ?_)
      · refine l_iconst rfl ?_
        refine l_iconst rfl ?_
        refine l_aload_n rfl rfl ?_
        refine l_gfr rfl rfl rfl rfl rfl (hHT6.r 904 67 950 rfl) ?_
        refine l_aload_n rfl rfl ?_
        refine l_gfi rfl rfl rfl rfl rfl ?_
        have w216 : (Xi T6 904 74) = (Xi T1 904 74) := (show Xi T6 904 74 = Xi T1 904 74 from w196.x _ _ rfl)
        rw [w216]
        refine l_iaload (n := 2600) rfl rfl (by omega) (by omega) (by unfold rg; omega) ?_
        have w217 : 0 ≤ (Xi T6 950 (((Xi T1 904 74)).toNat)) ∧ (Xi T6 950 (((Xi T1 904 74)).toNat)) ≤ 5010 := hHT6.c _ _
        have e167 : (Xi T6 950 (((Xi T1 904 74)).toNat)) = Xi S 950 (Xi S 904 74).toNat := by first | rfl | exact (hFT6.cx 950 rfl _).1 | (rw [(hFT6.cx 950 rfl _).1]; exact congrArg (fun t : Int => Xi S 950 t.toNat) (by omega))
        have f167 := hrf (Xi S 904 74) (by omega) (by omega)
        have w218 : 0 ≤ Xi T6 904 106 ∧ Xi T6 904 106 ≤ 9 := hHT6.c _ _
        refine l_callV rfl rfl rfl (t_mo_need hHT6 0 4 (Xi T6 950 (((Xi T1 904 74)).toNat)) ⟨by omega, by omega⟩ ⟨by omega, by omega⟩ ⟨by omega, by omega⟩ _) ?_
        rintro _ T7 ⟨hHT7, w234, rfl, w231, w232⟩
        have hFT7 : FR md_mo_askWay S T7 := FR.tr hFT6 w234 rfl
        show Rl _ _ _ _ _ [] _ _
        refine l_return rfl rfl ?_
        have w235 : 0 ≤ Xi T7 904 106 ∧ Xi T7 904 106 ≤ 9 := hHT7.c _ _
        have w240 : Xi T7 904 71 = Xi T1 904 71 := (show Xi T7 904 71 = Xi T6 904 71 from w234.x _ _ rfl).trans ((show Xi T6 904 71 = Xi T1 904 71 from w196.x _ _ rfl))
        have w241 : 0 ≤ Xi T1 904 71 ∧ Xi T1 904 71 ≤ 2600 := hHT1.c _ _
        have w244 : Xi T7 904 74 = Xi T1 904 74 := (show Xi T7 904 74 = Xi T6 904 74 from w234.x _ _ rfl).trans ((show Xi T6 904 74 = Xi T1 904 74 from w196.x _ _ rfl))
        have w246 : Xi T7 904 78 = Xi T1 904 78 := (show Xi T7 904 78 = Xi T6 904 78 from w234.x _ _ rfl).trans ((show Xi T6 904 78 = Xi T1 904 78 from w196.x _ _ rfl))
        exact ⟨hHT7, hFT7, rfl, (fun q => ⟨F69 (by omega), by omega, by omega⟩)⟩
      · refine l_aload_n rfl rfl ?_
        refine l_aload_n rfl rfl ?_
        refine l_gfr rfl rfl rfl rfl rfl (hHT6.r 904 20 918 rfl) ?_
        refine l_iload_n rfl rfl ?_
        refine l_iaload (n := 24) rfl rfl (by omega) (by omega) (by unfold rg; omega) ?_
        have w248 : 0 ≤ (Xi T6 918 ((z213).toNat)) ∧ (Xi T6 918 ((z213).toNat)) ≤ 15 := hHT6.c _ _
        refine l_iconst rfl ?_
        refine l_callV rfl rfl rfl (t_mo_isBelow hHT6 (Xi T6 918 ((z213).toNat)) 1 ⟨by omega, by omega⟩ ⟨by omega, by omega⟩ (by first | assumption | exact (ABV_FR hFT6 rfl (by assumption : ABV S))) _) ?_
        rintro _ _ ⟨rfl, z263, rfl, w263, w262⟩
        show Rl _ _ _ _ _ [iv z263, .ref 904] _ _
        refine l_if_eq rfl rfl (by unfold rg; omega) (fun w264 => ?_) (fun w265 => ?_)
        · refine l_iconst rfl ?_
          refine l_iconst rfl ?_
          refine l_aload_n rfl rfl ?_
          refine l_gfr rfl rfl rfl rfl rfl (hHT6.r 904 67 950 rfl) ?_
          refine l_aload_n rfl rfl ?_
          refine l_gfi rfl rfl rfl rfl rfl ?_
          have w266 : (Xi T6 904 74) = (Xi T1 904 74) := (show Xi T6 904 74 = Xi T1 904 74 from w196.x _ _ rfl)
          rw [w266]
          refine l_iaload (n := 2600) rfl rfl (by omega) (by omega) (by unfold rg; omega) ?_
          have w267 : 0 ≤ (Xi T6 950 (((Xi T1 904 74)).toNat)) ∧ (Xi T6 950 (((Xi T1 904 74)).toNat)) ≤ 5010 := hHT6.c _ _
          have e167 : (Xi T6 950 (((Xi T1 904 74)).toNat)) = Xi S 950 (Xi S 904 74).toNat := by first | rfl | exact (hFT6.cx 950 rfl _).1 | (rw [(hFT6.cx 950 rfl _).1]; exact congrArg (fun t : Int => Xi S 950 t.toNat) (by omega))
          have f167 := hrf (Xi S 904 74) (by omega) (by omega)
          have w268 : 0 ≤ Xi T6 904 106 ∧ Xi T6 904 106 ≤ 9 := hHT6.c _ _
          refine l_callV rfl rfl rfl (t_mo_need hHT6 0 4 (Xi T6 950 (((Xi T1 904 74)).toNat)) ⟨by omega, by omega⟩ ⟨by omega, by omega⟩ ⟨by omega, by omega⟩ _) ?_
          rintro _ T8 ⟨hHT8, w284, rfl, w281, w282⟩
          have hFT8 : FR md_mo_askWay S T8 := FR.tr hFT6 w284 rfl
          show Rl _ _ _ _ _ [] _ _
          refine l_return rfl rfl ?_
          have w285 : 0 ≤ Xi T8 904 106 ∧ Xi T8 904 106 ≤ 9 := hHT8.c _ _
          have w290 : Xi T8 904 71 = Xi T1 904 71 := (show Xi T8 904 71 = Xi T6 904 71 from w284.x _ _ rfl).trans ((show Xi T6 904 71 = Xi T1 904 71 from w196.x _ _ rfl))
          have w291 : 0 ≤ Xi T1 904 71 ∧ Xi T1 904 71 ≤ 2600 := hHT1.c _ _
          have w294 : Xi T8 904 74 = Xi T1 904 74 := (show Xi T8 904 74 = Xi T6 904 74 from w284.x _ _ rfl).trans ((show Xi T6 904 74 = Xi T1 904 74 from w196.x _ _ rfl))
          have w296 : Xi T8 904 78 = Xi T1 904 78 := (show Xi T8 904 78 = Xi T6 904 78 from w284.x _ _ rfl).trans ((show Xi T6 904 78 = Xi T1 904 78 from w196.x _ _ rfl))
          exact ⟨hHT8, hFT8, rfl, (fun q => ⟨F69 (by omega), by omega, by omega⟩)⟩
        · refine l_iconst rfl ?_
          refine l_goto rfl rfl ?_
          refine l_iconst rfl ?_
          refine l_aload_n rfl rfl ?_
          refine l_gfr rfl rfl rfl rfl rfl (hHT6.r 904 67 950 rfl) ?_
          refine l_aload_n rfl rfl ?_
          refine l_gfi rfl rfl rfl rfl rfl ?_
          have w298 : (Xi T6 904 74) = (Xi T1 904 74) := (show Xi T6 904 74 = Xi T1 904 74 from w196.x _ _ rfl)
          rw [w298]
          refine l_iaload (n := 2600) rfl rfl (by omega) (by omega) (by unfold rg; omega) ?_
          have w299 : 0 ≤ (Xi T6 950 (((Xi T1 904 74)).toNat)) ∧ (Xi T6 950 (((Xi T1 904 74)).toNat)) ≤ 5010 := hHT6.c _ _
          have e167 : (Xi T6 950 (((Xi T1 904 74)).toNat)) = Xi S 950 (Xi S 904 74).toNat := by first | rfl | exact (hFT6.cx 950 rfl _).1 | (rw [(hFT6.cx 950 rfl _).1]; exact congrArg (fun t : Int => Xi S 950 t.toNat) (by omega))
          have f167 := hrf (Xi S 904 74) (by omega) (by omega)
          have w300 : 0 ≤ Xi T6 904 106 ∧ Xi T6 904 106 ≤ 9 := hHT6.c _ _
          refine l_callV rfl rfl rfl (t_mo_need hHT6 1 4 (Xi T6 950 (((Xi T1 904 74)).toNat)) ⟨by omega, by omega⟩ ⟨by omega, by omega⟩ ⟨by omega, by omega⟩ _) ?_
          rintro _ T9 ⟨hHT9, w316, rfl, w313, w314⟩
          have hFT9 : FR md_mo_askWay S T9 := FR.tr hFT6 w316 rfl
          show Rl _ _ _ _ _ [] _ _
          refine l_return rfl rfl ?_
          have w317 : 0 ≤ Xi T9 904 106 ∧ Xi T9 904 106 ≤ 9 := hHT9.c _ _
          have w322 : Xi T9 904 71 = Xi T1 904 71 := (show Xi T9 904 71 = Xi T6 904 71 from w316.x _ _ rfl).trans ((show Xi T6 904 71 = Xi T1 904 71 from w196.x _ _ rfl))
          have w323 : 0 ≤ Xi T1 904 71 ∧ Xi T1 904 71 ≤ 2600 := hHT1.c _ _
          have w326 : Xi T9 904 74 = Xi T1 904 74 := (show Xi T9 904 74 = Xi T6 904 74 from w316.x _ _ rfl).trans ((show Xi T6 904 74 = Xi T1 904 74 from w196.x _ _ rfl))
          have w328 : Xi T9 904 78 = Xi T1 904 78 := (show Xi T9 904 78 = Xi T6 904 78 from w316.x _ _ rfl).trans ((show Xi T6 904 78 = Xi T1 904 78 from w196.x _ _ rfl))
          exact ⟨hHT9, hFT9, rfl, (fun q => ⟨F69 (by omega), by omega, by omega⟩)⟩
  · refine l_aload_n rfl rfl ?_
    refine l_iconst rfl ?_
    refine l_aload_n rfl rfl ?_
    refine l_gfr rfl rfl rfl rfl rfl (hHT1.r 904 67 950 rfl) ?_
    refine l_iload_n rfl rfl ?_
    refine l_iconst rfl ?_
    refine l_iadd rfl ?_
    refine l_iaload (n := 2600) rfl rfl (by omega) (by omega) (by unfold rg; omega) ?_
    have w330 : 0 ≤ (Xi T1 950 (((v1 + 1)).toNat)) ∧ (Xi T1 950 (((v1 + 1)).toNat)) ≤ 5010 := hHT1.c _ _
    have e86 : (Xi T1 950 (((v1 + 1)).toNat)) = Xi S 950 (Xi S 904 71 + 1).toNat := by first | rfl | exact (hFT1.cx 950 rfl _).1 | (rw [(hFT1.cx 950 rfl _).1]; exact congrArg (fun t : Int => Xi S 950 t.toNat) (by omega))
    have f86 := hrf (Xi S 904 71 + 1) (by omega) (by omega)
    refine l_callV rfl rfl rfl (t_mo_note hHT1 4 (Xi T1 950 (((v1 + 1)).toNat)) ⟨by omega, by omega⟩ ⟨by omega, by omega⟩ _) ?_
    rintro _ T10 ⟨hHT10, w340, rfl, w338⟩
    have hFT10 : FR md_mo_askWay S T10 := FR.tr hFT1 w340 rfl
    show Rl _ _ _ _ _ [] _ _
    refine l_aload_n rfl rfl ?_
    refine l_aload_n rfl rfl ?_
    refine l_aload_n rfl rfl ?_
    refine l_gfi rfl rfl rfl rfl rfl ?_
    have w341 : (Xi T10 904 78) = (Xi T1 904 78) := (show Xi T10 904 78 = Xi T1 904 78 from w340.x _ _ rfl)
    rw [w341]
    refine l_bipush rfl rfl ?_
    have w345 : Xi T10 904 69 = Xi T1 904 69 := (show Xi T10 904 69 = Xi T1 904 69 from w340.x _ _ rfl)
    have w353 : Xi T10 904 78 = Xi T1 904 78 := (show Xi T10 904 78 = Xi T1 904 78 from w340.x _ _ rfl)
    refine l_callV rfl rfl rfl (t_mo_meansRun__2 hHT10 n (Xi T1 904 78) 12 ⟨by omega, by omega⟩ ⟨by omega, by omega⟩ (by first | assumption | exact (TK_FR hFT10 rfl (by assumption : TK S _))) (by first | assumption | exact (RNV_FR hFT10 rfl (by assumption : RNV S _))) (by first | assumption | omega) (by first | assumption | exact (LXM_FR hFT10 rfl (by assumption : LXM S))) _) ?_
    rintro _ _ ⟨rfl, z357, rfl, w357, w355, w356⟩
    show Rl _ _ _ _ _ [iv z357, .ref 904] _ _
    have r98 : z357 = rnR S (Xi S 904 78) 12 := by have t := (by assumption : z357 = rnR T10 _ _).trans (rnR_FR hFT10 rfl rfl); first | exact t | (rw [t]; exact congrArg (fun x : Int => rnR S x 12) (by omega))
    refine l_iconst rfl ?_
    refine l_icmp_eq rfl rfl (by unfold rg; omega) (by unfold rg; omega) (fun w358 => ?_) (fun w359 => ?_)
    · refine l_iconst rfl ?_
      refine l_iconst rfl ?_
      refine l_aload_n rfl rfl ?_
      refine l_gfr rfl rfl rfl rfl rfl (hHT10.r 904 67 950 rfl) ?_
      refine l_aload_n rfl rfl ?_
      refine l_gfi rfl rfl rfl rfl rfl ?_
      have w360 : (Xi T10 904 78) = (Xi T1 904 78) := (show Xi T10 904 78 = Xi T1 904 78 from w340.x _ _ rfl)
      rw [w360]
      refine l_iaload (n := 2600) rfl rfl (by omega) (by omega) (by unfold rg; omega) ?_
      have w361 : 0 ≤ (Xi T10 950 (((Xi T1 904 78)).toNat)) ∧ (Xi T10 950 (((Xi T1 904 78)).toNat)) ≤ 5010 := hHT10.c _ _
      have e119 : (Xi T10 950 (((Xi T1 904 78)).toNat)) = Xi S 950 (Xi S 904 78).toNat := by first | rfl | exact (hFT10.cx 950 rfl _).1 | (rw [(hFT10.cx 950 rfl _).1]; exact congrArg (fun t : Int => Xi S 950 t.toNat) (by omega))
      have f119 := hrf (Xi S 904 78) (by omega) (by omega)
      have w362 : 0 ≤ Xi T10 904 106 ∧ Xi T10 904 106 ≤ 9 := hHT10.c _ _
      refine l_callV rfl rfl rfl (t_mo_need hHT10 0 4 (Xi T10 950 (((Xi T1 904 78)).toNat)) ⟨by omega, by omega⟩ ⟨by omega, by omega⟩ ⟨by omega, by omega⟩ _) ?_
      rintro _ T11 ⟨hHT11, w378, rfl, w375, w376⟩
      have hFT11 : FR md_mo_askWay S T11 := FR.tr hFT10 w378 rfl
      show Rl _ _ _ _ _ [] _ _
      refine l_aload_n rfl rfl ?_
      refine l_aload_n rfl rfl ?_
      refine l_gfi rfl rfl rfl rfl rfl ?_
      have w379 : (Xi T11 904 74) = (Xi T1 904 74) := (show Xi T11 904 74 = Xi T10 904 74 from w378.x _ _ rfl).trans ((show Xi T10 904 74 = Xi T1 904 74 from w340.x _ _ rfl))
      rw [w379]
      refine l_iconst rfl ?_
      have w383 : Xi T11 904 69 = Xi T1 904 69 := (show Xi T11 904 69 = Xi T10 904 69 from w378.x _ _ rfl).trans ((show Xi T10 904 69 = Xi T1 904 69 from w340.x _ _ rfl))
      have w389 : Xi T11 904 74 = Xi T1 904 74 := (show Xi T11 904 74 = Xi T10 904 74 from w378.x _ _ rfl).trans ((show Xi T10 904 74 = Xi T1 904 74 from w340.x _ _ rfl))
      refine l_callV rfl rfl rfl (t_mo_meansRun__2 hHT11 n (Xi T1 904 74) 4 ⟨by omega, by omega⟩ ⟨by omega, by omega⟩ (by first | assumption | exact (TK_FR hFT11 rfl (by assumption : TK S _))) (by first | assumption | exact (RNV_FR hFT11 rfl (by assumption : RNV S _))) (by first | assumption | omega) (by first | assumption | exact (LXM_FR hFT11 rfl (by assumption : LXM S))) _) ?_
      rintro _ _ ⟨rfl, z395, rfl, w395, w393, w394⟩
      show Rl _ _ _ _ _ [iv z395] _ _
      have x129 : z395 ≠ -1 → z395 < Xi S 904 19 := fun q => by have t := (by assumption : z395 ≠ -1 → z395 < cM T11 4) q; rw [cM4, hFT11.x 904 19 rfl] at t; exact t
      have r129 : z395 = rnR S (Xi S 904 74) 4 := by have t := (by assumption : z395 = rnR T11 _ _).trans (rnR_FR hFT11 rfl rfl); first | exact t | (rw [t]; exact congrArg (fun x : Int => rnR S x 4) (by omega))
      refine l_istore_n rfl rfl rfl ?_
      refine l_aload_n rfl rfl ?_
      refine l_iload_n rfl rfl ?_
      refine l_iconst rfl ?_
      refine l_icmp_eq rfl rfl (by unfold rg; omega) (by unfold rg; omega) (fun w396 => ?_) (fun w397 => ?_)
      · refine l_iconst rfl ?_
        refine l_iconst rfl ?_
        refine l_aload_n rfl rfl ?_
        refine l_gfr rfl rfl rfl rfl rfl (hHT11.r 904 67 950 rfl) ?_
        refine l_aload_n rfl rfl ?_
        refine l_gfi rfl rfl rfl rfl rfl ?_
        have w398 : (Xi T11 904 74) = (Xi T1 904 74) := (show Xi T11 904 74 = Xi T10 904 74 from w378.x _ _ rfl).trans ((show Xi T10 904 74 = Xi T1 904 74 from w340.x _ _ rfl))
        rw [w398]
        refine l_iaload (n := 2600) rfl rfl (by omega) (by omega) (by unfold rg; omega) ?_
        have w399 : 0 ≤ (Xi T11 950 (((Xi T1 904 74)).toNat)) ∧ (Xi T11 950 (((Xi T1 904 74)).toNat)) ≤ 5010 := hHT11.c _ _
        have e167 : (Xi T11 950 (((Xi T1 904 74)).toNat)) = Xi S 950 (Xi S 904 74).toNat := by first | rfl | exact (hFT11.cx 950 rfl _).1 | (rw [(hFT11.cx 950 rfl _).1]; exact congrArg (fun t : Int => Xi S 950 t.toNat) (by omega))
        have f167 := hrf (Xi S 904 74) (by omega) (by omega)
        have w400 : 0 ≤ Xi T11 904 106 ∧ Xi T11 904 106 ≤ 9 := hHT11.c _ _
        refine l_callV rfl rfl rfl (t_mo_need hHT11 0 4 (Xi T11 950 (((Xi T1 904 74)).toNat)) ⟨by omega, by omega⟩ ⟨by omega, by omega⟩ ⟨by omega, by omega⟩ _) ?_
        rintro _ T12 ⟨hHT12, w416, rfl, w413, w414⟩
        have hFT12 : FR md_mo_askWay S T12 := FR.tr hFT11 w416 rfl
        show Rl _ _ _ _ _ [] _ _
        refine l_return rfl rfl ?_
        have w417 : 0 ≤ Xi T12 904 106 ∧ Xi T12 904 106 ≤ 9 := hHT12.c _ _
        have w422 : Xi T12 904 71 = Xi T1 904 71 := (show Xi T12 904 71 = Xi T11 904 71 from w416.x _ _ rfl).trans ( (show Xi T11 904 71 = Xi T10 904 71 from w378.x _ _ rfl).trans ((show Xi T10 904 71 = Xi T1 904 71 from w340.x _ _ rfl)))
        have w423 : 0 ≤ Xi T1 904 71 ∧ Xi T1 904 71 ≤ 2600 := hHT1.c _ _
        have w426 : Xi T12 904 74 = Xi T1 904 74 := (show Xi T12 904 74 = Xi T11 904 74 from w416.x _ _ rfl).trans ( (show Xi T11 904 74 = Xi T10 904 74 from w378.x _ _ rfl).trans ((show Xi T10 904 74 = Xi T1 904 74 from w340.x _ _ rfl)))
        have w428 : Xi T12 904 78 = Xi T1 904 78 := (show Xi T12 904 78 = Xi T11 904 78 from w416.x _ _ rfl).trans ( (show Xi T11 904 78 = Xi T10 904 78 from w378.x _ _ rfl).trans ((show Xi T10 904 78 = Xi T1 904 78 from w340.x _ _ rfl)))
        exact ⟨hHT12, hFT12, rfl, (fun q => ⟨F69 (by omega), by omega, by omega⟩)⟩
      · refine l_aload_n rfl rfl ?_
        refine l_aload_n rfl rfl ?_
        refine l_gfr rfl rfl rfl rfl rfl (hHT11.r 904 20 918 rfl) ?_
        refine l_iload_n rfl rfl ?_
        refine l_iaload (n := 24) rfl rfl (by omega) (by omega) (by unfold rg; omega) ?_
        have w430 : 0 ≤ (Xi T11 918 ((z395).toNat)) ∧ (Xi T11 918 ((z395).toNat)) ≤ 15 := hHT11.c _ _
        refine l_iconst rfl ?_
        refine l_callV rfl rfl rfl (t_mo_isBelow hHT11 (Xi T11 918 ((z395).toNat)) 1 ⟨by omega, by omega⟩ ⟨by omega, by omega⟩ (by first | assumption | exact (ABV_FR hFT11 rfl (by assumption : ABV S))) _) ?_
        rintro _ _ ⟨rfl, z445, rfl, w445, w444⟩
        show Rl _ _ _ _ _ [iv z445, .ref 904] _ _
        refine l_if_eq rfl rfl (by unfold rg; omega) (fun w446 => ?_) (fun w447 => ?_)
        · refine l_iconst rfl ?_
          refine l_iconst rfl ?_
          refine l_aload_n rfl rfl ?_
          refine l_gfr rfl rfl rfl rfl rfl (hHT11.r 904 67 950 rfl) ?_
          refine l_aload_n rfl rfl ?_
          refine l_gfi rfl rfl rfl rfl rfl ?_
          have w448 : (Xi T11 904 74) = (Xi T1 904 74) := (show Xi T11 904 74 = Xi T10 904 74 from w378.x _ _ rfl).trans ((show Xi T10 904 74 = Xi T1 904 74 from w340.x _ _ rfl))
          rw [w448]
          refine l_iaload (n := 2600) rfl rfl (by omega) (by omega) (by unfold rg; omega) ?_
          have w449 : 0 ≤ (Xi T11 950 (((Xi T1 904 74)).toNat)) ∧ (Xi T11 950 (((Xi T1 904 74)).toNat)) ≤ 5010 := hHT11.c _ _
          have e167 : (Xi T11 950 (((Xi T1 904 74)).toNat)) = Xi S 950 (Xi S 904 74).toNat := by first | rfl | exact (hFT11.cx 950 rfl _).1 | (rw [(hFT11.cx 950 rfl _).1]; exact congrArg (fun t : Int => Xi S 950 t.toNat) (by omega))
          have f167 := hrf (Xi S 904 74) (by omega) (by omega)
          have w450 : 0 ≤ Xi T11 904 106 ∧ Xi T11 904 106 ≤ 9 := hHT11.c _ _
          refine l_callV rfl rfl rfl (t_mo_need hHT11 0 4 (Xi T11 950 (((Xi T1 904 74)).toNat)) ⟨by omega, by omega⟩ ⟨by omega, by omega⟩ ⟨by omega, by omega⟩ _) ?_
          rintro _ T13 ⟨hHT13, w466, rfl, w463, w464⟩
          have hFT13 : FR md_mo_askWay S T13 := FR.tr hFT11 w466 rfl
          show Rl _ _ _ _ _ [] _ _
          refine l_return rfl rfl ?_
          have w467 : 0 ≤ Xi T13 904 106 ∧ Xi T13 904 106 ≤ 9 := hHT13.c _ _
          have w472 : Xi T13 904 71 = Xi T1 904 71 := (show Xi T13 904 71 = Xi T11 904 71 from w466.x _ _ rfl).trans ( (show Xi T11 904 71 = Xi T10 904 71 from w378.x _ _ rfl).trans ((show Xi T10 904 71 = Xi T1 904 71 from w340.x _ _ rfl)))
          have w473 : 0 ≤ Xi T1 904 71 ∧ Xi T1 904 71 ≤ 2600 := hHT1.c _ _
          have w476 : Xi T13 904 74 = Xi T1 904 74 := (show Xi T13 904 74 = Xi T11 904 74 from w466.x _ _ rfl).trans ( (show Xi T11 904 74 = Xi T10 904 74 from w378.x _ _ rfl).trans ((show Xi T10 904 74 = Xi T1 904 74 from w340.x _ _ rfl)))
          have w478 : Xi T13 904 78 = Xi T1 904 78 := (show Xi T13 904 78 = Xi T11 904 78 from w466.x _ _ rfl).trans ( (show Xi T11 904 78 = Xi T10 904 78 from w378.x _ _ rfl).trans ((show Xi T10 904 78 = Xi T1 904 78 from w340.x _ _ rfl)))
          exact ⟨hHT13, hFT13, rfl, (fun q => ⟨F69 (by omega), by omega, by omega⟩)⟩
        · refine l_iconst rfl ?_
          refine l_goto rfl rfl ?_
          refine l_iconst rfl ?_
          refine l_aload_n rfl rfl ?_
          refine l_gfr rfl rfl rfl rfl rfl (hHT11.r 904 67 950 rfl) ?_
          refine l_aload_n rfl rfl ?_
          refine l_gfi rfl rfl rfl rfl rfl ?_
          have w480 : (Xi T11 904 74) = (Xi T1 904 74) := (show Xi T11 904 74 = Xi T10 904 74 from w378.x _ _ rfl).trans ((show Xi T10 904 74 = Xi T1 904 74 from w340.x _ _ rfl))
          rw [w480]
          refine l_iaload (n := 2600) rfl rfl (by omega) (by omega) (by unfold rg; omega) ?_
          have w481 : 0 ≤ (Xi T11 950 (((Xi T1 904 74)).toNat)) ∧ (Xi T11 950 (((Xi T1 904 74)).toNat)) ≤ 5010 := hHT11.c _ _
          have e167 : (Xi T11 950 (((Xi T1 904 74)).toNat)) = Xi S 950 (Xi S 904 74).toNat := by first | rfl | exact (hFT11.cx 950 rfl _).1 | (rw [(hFT11.cx 950 rfl _).1]; exact congrArg (fun t : Int => Xi S 950 t.toNat) (by omega))
          have f167 := hrf (Xi S 904 74) (by omega) (by omega)
          have w482 : 0 ≤ Xi T11 904 106 ∧ Xi T11 904 106 ≤ 9 := hHT11.c _ _
          refine l_callV rfl rfl rfl (t_mo_need hHT11 1 4 (Xi T11 950 (((Xi T1 904 74)).toNat)) ⟨by omega, by omega⟩ ⟨by omega, by omega⟩ ⟨by omega, by omega⟩ _) ?_
          rintro _ T14 ⟨hHT14, w498, rfl, w495, w496⟩
          have hFT14 : FR md_mo_askWay S T14 := FR.tr hFT11 w498 rfl
          show Rl _ _ _ _ _ [] _ _
          refine l_return rfl rfl ?_
          have w499 : 0 ≤ Xi T14 904 106 ∧ Xi T14 904 106 ≤ 9 := hHT14.c _ _
          have w504 : Xi T14 904 71 = Xi T1 904 71 := (show Xi T14 904 71 = Xi T11 904 71 from w498.x _ _ rfl).trans ( (show Xi T11 904 71 = Xi T10 904 71 from w378.x _ _ rfl).trans ((show Xi T10 904 71 = Xi T1 904 71 from w340.x _ _ rfl)))
          have w505 : 0 ≤ Xi T1 904 71 ∧ Xi T1 904 71 ≤ 2600 := hHT1.c _ _
          have w508 : Xi T14 904 74 = Xi T1 904 74 := (show Xi T14 904 74 = Xi T11 904 74 from w498.x _ _ rfl).trans ( (show Xi T11 904 74 = Xi T10 904 74 from w378.x _ _ rfl).trans ((show Xi T10 904 74 = Xi T1 904 74 from w340.x _ _ rfl)))
          have w510 : Xi T14 904 78 = Xi T1 904 78 := (show Xi T14 904 78 = Xi T11 904 78 from w498.x _ _ rfl).trans ( (show Xi T11 904 78 = Xi T10 904 78 from w378.x _ _ rfl).trans ((show Xi T10 904 78 = Xi T1 904 78 from w340.x _ _ rfl)))
          exact ⟨hHT14, hFT14, rfl, (fun q => ⟨F69 (by omega), by omega, by omega⟩)⟩
    · refine l_iconst rfl ?_
      refine l_goto rfl rfl ?_
      refine l_iconst rfl ?_
      refine l_aload_n rfl rfl ?_
      refine l_gfr rfl rfl rfl rfl rfl (hHT10.r 904 67 950 rfl) ?_
      refine l_aload_n rfl rfl ?_
      refine l_gfi rfl rfl rfl rfl rfl ?_
      have w512 : (Xi T10 904 78) = (Xi T1 904 78) := (show Xi T10 904 78 = Xi T1 904 78 from w340.x _ _ rfl)
      rw [w512]
      refine l_iaload (n := 2600) rfl rfl (by omega) (by omega) (by unfold rg; omega) ?_
      have w513 : 0 ≤ (Xi T10 950 (((Xi T1 904 78)).toNat)) ∧ (Xi T10 950 (((Xi T1 904 78)).toNat)) ≤ 5010 := hHT10.c _ _
      have e119 : (Xi T10 950 (((Xi T1 904 78)).toNat)) = Xi S 950 (Xi S 904 78).toNat := by first | rfl | exact (hFT10.cx 950 rfl _).1 | (rw [(hFT10.cx 950 rfl _).1]; exact congrArg (fun t : Int => Xi S 950 t.toNat) (by omega))
      have f119 := hrf (Xi S 904 78) (by omega) (by omega)
      have w514 : 0 ≤ Xi T10 904 106 ∧ Xi T10 904 106 ≤ 9 := hHT10.c _ _
      refine l_callV rfl rfl rfl (t_mo_need hHT10 1 4 (Xi T10 950 (((Xi T1 904 78)).toNat)) ⟨by omega, by omega⟩ ⟨by omega, by omega⟩ ⟨by omega, by omega⟩ _) ?_
      rintro _ T15 ⟨hHT15, w530, rfl, w527, w528⟩
      have hFT15 : FR md_mo_askWay S T15 := FR.tr hFT10 w530 rfl
      show Rl _ _ _ _ _ [] _ _
      refine l_aload_n rfl rfl ?_
      refine l_aload_n rfl rfl ?_
      refine l_gfi rfl rfl rfl rfl rfl ?_
      have w531 : (Xi T15 904 74) = (Xi T1 904 74) := (show Xi T15 904 74 = Xi T10 904 74 from w530.x _ _ rfl).trans ((show Xi T10 904 74 = Xi T1 904 74 from w340.x _ _ rfl))
      rw [w531]
      refine l_iconst rfl ?_
      have w535 : Xi T15 904 69 = Xi T1 904 69 := (show Xi T15 904 69 = Xi T10 904 69 from w530.x _ _ rfl).trans ((show Xi T10 904 69 = Xi T1 904 69 from w340.x _ _ rfl))
      have w541 : Xi T15 904 74 = Xi T1 904 74 := (show Xi T15 904 74 = Xi T10 904 74 from w530.x _ _ rfl).trans ((show Xi T10 904 74 = Xi T1 904 74 from w340.x _ _ rfl))
      refine l_callV rfl rfl rfl (t_mo_meansRun__2 hHT15 n (Xi T1 904 74) 4 ⟨by omega, by omega⟩ ⟨by omega, by omega⟩ (by first | assumption | exact (TK_FR hFT15 rfl (by assumption : TK S _))) (by first | assumption | exact (RNV_FR hFT15 rfl (by assumption : RNV S _))) (by first | assumption | omega) (by first | assumption | exact (LXM_FR hFT15 rfl (by assumption : LXM S))) _) ?_
      rintro _ _ ⟨rfl, z547, rfl, w547, w545, w546⟩
      show Rl _ _ _ _ _ [iv z547] _ _
      have x129 : z547 ≠ -1 → z547 < Xi S 904 19 := fun q => by have t := (by assumption : z547 ≠ -1 → z547 < cM T15 4) q; rw [cM4, hFT15.x 904 19 rfl] at t; exact t
      have r129 : z547 = rnR S (Xi S 904 74) 4 := by have t := (by assumption : z547 = rnR T15 _ _).trans (rnR_FR hFT15 rfl rfl); first | exact t | (rw [t]; exact congrArg (fun x : Int => rnR S x 4) (by omega))
      refine l_istore_n rfl rfl rfl ?_
      refine l_aload_n rfl rfl ?_
      refine l_iload_n rfl rfl ?_
      refine l_iconst rfl ?_
      refine l_icmp_eq rfl rfl (by unfold rg; omega) (by unfold rg; omega) (fun w548 => ?_) (fun w549 => ?_)
      · refine l_iconst rfl ?_
        refine l_iconst rfl ?_
        refine l_aload_n rfl rfl ?_
        refine l_gfr rfl rfl rfl rfl rfl (hHT15.r 904 67 950 rfl) ?_
        refine l_aload_n rfl rfl ?_
        refine l_gfi rfl rfl rfl rfl rfl ?_
        have w550 : (Xi T15 904 74) = (Xi T1 904 74) := (show Xi T15 904 74 = Xi T10 904 74 from w530.x _ _ rfl).trans ((show Xi T10 904 74 = Xi T1 904 74 from w340.x _ _ rfl))
        rw [w550]
        refine l_iaload (n := 2600) rfl rfl (by omega) (by omega) (by unfold rg; omega) ?_
        have w551 : 0 ≤ (Xi T15 950 (((Xi T1 904 74)).toNat)) ∧ (Xi T15 950 (((Xi T1 904 74)).toNat)) ≤ 5010 := hHT15.c _ _
        have e167 : (Xi T15 950 (((Xi T1 904 74)).toNat)) = Xi S 950 (Xi S 904 74).toNat := by first | rfl | exact (hFT15.cx 950 rfl _).1 | (rw [(hFT15.cx 950 rfl _).1]; exact congrArg (fun t : Int => Xi S 950 t.toNat) (by omega))
        have f167 := hrf (Xi S 904 74) (by omega) (by omega)
        have w552 : 0 ≤ Xi T15 904 106 ∧ Xi T15 904 106 ≤ 9 := hHT15.c _ _
        refine l_callV rfl rfl rfl (t_mo_need hHT15 0 4 (Xi T15 950 (((Xi T1 904 74)).toNat)) ⟨by omega, by omega⟩ ⟨by omega, by omega⟩ ⟨by omega, by omega⟩ _) ?_
        rintro _ T16 ⟨hHT16, w568, rfl, w565, w566⟩
        have hFT16 : FR md_mo_askWay S T16 := FR.tr hFT15 w568 rfl
        show Rl _ _ _ _ _ [] _ _
        refine l_return rfl rfl ?_
        have w569 : 0 ≤ Xi T16 904 106 ∧ Xi T16 904 106 ≤ 9 := hHT16.c _ _
        have w574 : Xi T16 904 71 = Xi T1 904 71 := (show Xi T16 904 71 = Xi T15 904 71 from w568.x _ _ rfl).trans ( (show Xi T15 904 71 = Xi T10 904 71 from w530.x _ _ rfl).trans ((show Xi T10 904 71 = Xi T1 904 71 from w340.x _ _ rfl)))
        have w575 : 0 ≤ Xi T1 904 71 ∧ Xi T1 904 71 ≤ 2600 := hHT1.c _ _
        have w578 : Xi T16 904 74 = Xi T1 904 74 := (show Xi T16 904 74 = Xi T15 904 74 from w568.x _ _ rfl).trans ( (show Xi T15 904 74 = Xi T10 904 74 from w530.x _ _ rfl).trans ((show Xi T10 904 74 = Xi T1 904 74 from w340.x _ _ rfl)))
        have w580 : Xi T16 904 78 = Xi T1 904 78 := (show Xi T16 904 78 = Xi T15 904 78 from w568.x _ _ rfl).trans ( (show Xi T15 904 78 = Xi T10 904 78 from w530.x _ _ rfl).trans ((show Xi T10 904 78 = Xi T1 904 78 from w340.x _ _ rfl)))
        exact ⟨hHT16, hFT16, rfl, (fun q => ⟨F69 (by omega), by omega, by omega⟩)⟩
      · refine l_aload_n rfl rfl ?_
        refine l_aload_n rfl rfl ?_
        refine l_gfr rfl rfl rfl rfl rfl (hHT15.r 904 20 918 rfl) ?_
        refine l_iload_n rfl rfl ?_
        refine l_iaload (n := 24) rfl rfl (by omega) (by omega) (by unfold rg; omega) ?_
        have w582 : 0 ≤ (Xi T15 918 ((z547).toNat)) ∧ (Xi T15 918 ((z547).toNat)) ≤ 15 := hHT15.c _ _
        refine l_iconst rfl ?_
        refine l_callV rfl rfl rfl (t_mo_isBelow hHT15 (Xi T15 918 ((z547).toNat)) 1 ⟨by omega, by omega⟩ ⟨by omega, by omega⟩ (by first | assumption | exact (ABV_FR hFT15 rfl (by assumption : ABV S))) _) ?_
        rintro _ _ ⟨rfl, z597, rfl, w597, w596⟩
        show Rl _ _ _ _ _ [iv z597, .ref 904] _ _
        refine l_if_eq rfl rfl (by unfold rg; omega) (fun w598 => ?_) (fun w599 => ?_)
        · refine l_iconst rfl ?_
          refine l_iconst rfl ?_
          refine l_aload_n rfl rfl ?_
          refine l_gfr rfl rfl rfl rfl rfl (hHT15.r 904 67 950 rfl) ?_
          refine l_aload_n rfl rfl ?_
          refine l_gfi rfl rfl rfl rfl rfl ?_
          have w600 : (Xi T15 904 74) = (Xi T1 904 74) := (show Xi T15 904 74 = Xi T10 904 74 from w530.x _ _ rfl).trans ((show Xi T10 904 74 = Xi T1 904 74 from w340.x _ _ rfl))
          rw [w600]
          refine l_iaload (n := 2600) rfl rfl (by omega) (by omega) (by unfold rg; omega) ?_
          have w601 : 0 ≤ (Xi T15 950 (((Xi T1 904 74)).toNat)) ∧ (Xi T15 950 (((Xi T1 904 74)).toNat)) ≤ 5010 := hHT15.c _ _
          have e167 : (Xi T15 950 (((Xi T1 904 74)).toNat)) = Xi S 950 (Xi S 904 74).toNat := by first | rfl | exact (hFT15.cx 950 rfl _).1 | (rw [(hFT15.cx 950 rfl _).1]; exact congrArg (fun t : Int => Xi S 950 t.toNat) (by omega))
          have f167 := hrf (Xi S 904 74) (by omega) (by omega)
          have w602 : 0 ≤ Xi T15 904 106 ∧ Xi T15 904 106 ≤ 9 := hHT15.c _ _
          refine l_callV rfl rfl rfl (t_mo_need hHT15 0 4 (Xi T15 950 (((Xi T1 904 74)).toNat)) ⟨by omega, by omega⟩ ⟨by omega, by omega⟩ ⟨by omega, by omega⟩ _) ?_
          rintro _ T17 ⟨hHT17, w618, rfl, w615, w616⟩
          have hFT17 : FR md_mo_askWay S T17 := FR.tr hFT15 w618 rfl
          show Rl _ _ _ _ _ [] _ _
          refine l_return rfl rfl ?_
          have w619 : 0 ≤ Xi T17 904 106 ∧ Xi T17 904 106 ≤ 9 := hHT17.c _ _
          have w624 : Xi T17 904 71 = Xi T1 904 71 := (show Xi T17 904 71 = Xi T15 904 71 from w618.x _ _ rfl).trans ( (show Xi T15 904 71 = Xi T10 904 71 from w530.x _ _ rfl).trans ((show Xi T10 904 71 = Xi T1 904 71 from w340.x _ _ rfl)))
          have w625 : 0 ≤ Xi T1 904 71 ∧ Xi T1 904 71 ≤ 2600 := hHT1.c _ _
          have w628 : Xi T17 904 74 = Xi T1 904 74 := (show Xi T17 904 74 = Xi T15 904 74 from w618.x _ _ rfl).trans ( (show Xi T15 904 74 = Xi T10 904 74 from w530.x _ _ rfl).trans ((show Xi T10 904 74 = Xi T1 904 74 from w340.x _ _ rfl)))
          have w630 : Xi T17 904 78 = Xi T1 904 78 := (show Xi T17 904 78 = Xi T15 904 78 from w618.x _ _ rfl).trans ( (show Xi T15 904 78 = Xi T10 904 78 from w530.x _ _ rfl).trans ((show Xi T10 904 78 = Xi T1 904 78 from w340.x _ _ rfl)))
          exact ⟨hHT17, hFT17, rfl, (fun q => ⟨F69 (by omega), by omega, by omega⟩)⟩
        · refine l_iconst rfl ?_
          refine l_goto rfl rfl ?_
          refine l_iconst rfl ?_
          refine l_aload_n rfl rfl ?_
          refine l_gfr rfl rfl rfl rfl rfl (hHT15.r 904 67 950 rfl) ?_
          refine l_aload_n rfl rfl ?_
          refine l_gfi rfl rfl rfl rfl rfl ?_
          have w632 : (Xi T15 904 74) = (Xi T1 904 74) := (show Xi T15 904 74 = Xi T10 904 74 from w530.x _ _ rfl).trans ((show Xi T10 904 74 = Xi T1 904 74 from w340.x _ _ rfl))
          rw [w632]
          refine l_iaload (n := 2600) rfl rfl (by omega) (by omega) (by unfold rg; omega) ?_
          have w633 : 0 ≤ (Xi T15 950 (((Xi T1 904 74)).toNat)) ∧ (Xi T15 950 (((Xi T1 904 74)).toNat)) ≤ 5010 := hHT15.c _ _
          have e167 : (Xi T15 950 (((Xi T1 904 74)).toNat)) = Xi S 950 (Xi S 904 74).toNat := by first | rfl | exact (hFT15.cx 950 rfl _).1 | (rw [(hFT15.cx 950 rfl _).1]; exact congrArg (fun t : Int => Xi S 950 t.toNat) (by omega))
          have f167 := hrf (Xi S 904 74) (by omega) (by omega)
          have w634 : 0 ≤ Xi T15 904 106 ∧ Xi T15 904 106 ≤ 9 := hHT15.c _ _
          refine l_callV rfl rfl rfl (t_mo_need hHT15 1 4 (Xi T15 950 (((Xi T1 904 74)).toNat)) ⟨by omega, by omega⟩ ⟨by omega, by omega⟩ ⟨by omega, by omega⟩ _) ?_
          rintro _ T18 ⟨hHT18, w650, rfl, w647, w648⟩
          have hFT18 : FR md_mo_askWay S T18 := FR.tr hFT15 w650 rfl
          show Rl _ _ _ _ _ [] _ _
          refine l_return rfl rfl ?_
          have w651 : 0 ≤ Xi T18 904 106 ∧ Xi T18 904 106 ≤ 9 := hHT18.c _ _
          have w656 : Xi T18 904 71 = Xi T1 904 71 := (show Xi T18 904 71 = Xi T15 904 71 from w650.x _ _ rfl).trans ( (show Xi T15 904 71 = Xi T10 904 71 from w530.x _ _ rfl).trans ((show Xi T10 904 71 = Xi T1 904 71 from w340.x _ _ rfl)))
          have w657 : 0 ≤ Xi T1 904 71 ∧ Xi T1 904 71 ≤ 2600 := hHT1.c _ _
          have w660 : Xi T18 904 74 = Xi T1 904 74 := (show Xi T18 904 74 = Xi T15 904 74 from w650.x _ _ rfl).trans ( (show Xi T15 904 74 = Xi T10 904 74 from w530.x _ _ rfl).trans ((show Xi T10 904 74 = Xi T1 904 74 from w340.x _ _ rfl)))
          have w662 : Xi T18 904 78 = Xi T1 904 78 := (show Xi T18 904 78 = Xi T15 904 78 from w650.x _ _ rfl).trans ( (show Xi T15 904 78 = Xi T10 904 78 from w530.x _ _ rfl).trans ((show Xi T10 904 78 = Xi T1 904 78 from w340.x _ _ rfl)))
          exact ⟨hHT18, hFT18, rfl, (fun q => ⟨F69 (by omega), by omega, by omega⟩)⟩
set_option maxRecDepth 100000 in
set_option maxHeartbeats 4000000 in
theorem t_mo_askWay {S : sS} (hH : HI S) (n : Nat) (hT : TK S n) (hv : RNV S n) (hM : LXM S) (hN : NWV S) (hB : ABV S) (hl : Xi S 904 71 + Xi S 904 72 ≤ Xi S 904 69) (h1 : 1 ≤ Xi S 904 72) (h9 : Xi S 904 108 = 0) (hw : 0 ≤ Xi S 904 78 ∧ Xi S 904 78 < Xi S 904 69) (hp : Xi S 904 74 < Xi S 904 69) (d : Nat) : Mt lay0 (d + 5) m_mo_askWay [.ref 904] S (Q_mo_askWay S n) := by
  refine Mt_R rfl rfl ?_
  have C69 := c69_mo_askWay hH n hT hv hM hN hB hl h1 h9 hw hp d 
  have hF : FR md_mo_askWay S S := FR.rf
  have w1 : 0 ≤ Xi S 904 106 ∧ Xi S 904 106 ≤ 9 := hH.c _ _
  have w2 : 0 ≤ Xi S 904 108 ∧ Xi S 904 108 ≤ 2600 := hH.c _ _
  have w3 : 0 ≤ Xi S 904 19 ∧ Xi S 904 19 ≤ 24 := hH.c _ _
  have w4 : 0 ≤ Xi S 904 69 ∧ Xi S 904 69 ≤ 2600 := hH.c _ _
  have w5 : 0 ≤ Xi S 904 71 ∧ Xi S 904 71 ≤ 2600 := hH.c _ _
  have w6 : 0 ≤ Xi S 904 72 ∧ Xi S 904 72 ≤ 2600 := hH.c _ _
  have w7 : 0 ≤ Xi S 904 74 ∧ Xi S 904 74 ≤ 2600 := hH.c _ _
  have w8 : -2 ≤ Xi S 904 78 ∧ Xi S 904 78 ≤ 5010 := hH.c _ _
  have hn5 := hT.1
  have hc69 : 0 ≤ Xi S 904 69 ∧ Xi S 904 69 ≤ 2600 := hH.c _ _
  have hc71 : 0 ≤ Xi S 904 71 ∧ Xi S 904 71 ≤ 2600 := hH.c _ _
  have hc72 : 0 ≤ Xi S 904 72 ∧ Xi S 904 72 ≤ 2600 := hH.c _ _
  have hrf : ∀ r : Int, 0 ≤ r → r < Xi S 904 69 → Xi S 950 r.toNat ≤ n := fun r a b => by have := hv r.toNat (by omega); omega
  have hc19 : 0 ≤ Xi S 904 19 ∧ Xi S 904 19 ≤ 24 := hH.c _ _
  have hc74 : 0 ≤ Xi S 904 74 := (hH.c 904 74).1
  refine l_aload_n rfl rfl ?_
  refine l_gfi rfl rfl rfl rfl rfl ?_
  refine l_istore_n rfl rfl rfl ?_
  refine l_aload_n rfl rfl ?_
  refine l_iload_n rfl rfl ?_
  refine l_callV rfl rfl rfl (t_mo_meansNothing__2 hH n (Xi S 904 71) ⟨by omega, by omega⟩ (by first | assumption | exact (TK_FR hF rfl (by assumption : TK S _))) (by first | assumption | exact (RNV_FR hF rfl (by assumption : RNV S _))) (by first | assumption | omega) _) ?_
  rintro _ _ ⟨rfl, z672, rfl, w672, w671⟩
  show Rl _ _ _ _ _ [iv z672] _ _
  refine l_if_eq rfl rfl (by unfold rg; omega) (fun w673 => ?_) (fun w674 => ?_)
  · refine l_aload_n rfl rfl ?_
    refine l_iload_n rfl rfl ?_
    refine l_iconst rfl ?_
    refine l_callV rfl rfl rfl (t_mo_meansRun__2 hH n (Xi S 904 71) 4 ⟨by omega, by omega⟩ ⟨by omega, by omega⟩ (by first | assumption | exact (TK_FR hF rfl (by assumption : TK S _))) (by first | assumption | exact (RNV_FR hF rfl (by assumption : RNV S _))) (by first | assumption | omega) (by first | assumption | exact (LXM_FR hF rfl (by assumption : LXM S))) _) ?_
    rintro _ _ ⟨rfl, z684, rfl, w684, w682, w683⟩
    show Rl _ _ _ _ _ [iv z684] _ _
    have x30 : z684 ≠ -1 → z684 < Xi S 904 19 := fun q => by have t := (by assumption : z684 ≠ -1 → z684 < cM S 4) q; rw [cM4, hF.x 904 19 rfl] at t; exact t
    have r30 : z684 = rnR S (Xi S 904 71) 4 := by have t := (by assumption : z684 = rnR S _ _).trans (rnR_FR hF rfl rfl); first | exact t | (rw [t]; exact congrArg (fun x : Int => rnR S x 4) (by omega))
    refine l_istore_n rfl rfl rfl ?_
    refine l_aload_n rfl rfl ?_
    refine l_iload_n rfl rfl ?_
    refine l_iconst rfl ?_
    refine l_icmp_eq rfl rfl (by unfold rg; omega) (by unfold rg; omega) (fun w685 => ?_) (fun w686 => ?_)
    · refine l_iconst rfl ?_
      refine l_iconst rfl ?_
      refine l_aload_n rfl rfl ?_
      refine l_gfr rfl rfl rfl rfl rfl (hH.r 904 67 950 rfl) ?_
      refine l_iload_n rfl rfl ?_
      refine l_iaload (n := 2600) rfl rfl (by omega) (by omega) (by unfold rg; omega) ?_
      have w687 : 0 ≤ (Xi S 950 (((Xi S 904 71)).toNat)) ∧ (Xi S 950 (((Xi S 904 71)).toNat)) ≤ 5010 := hH.c _ _
      have e65 : (Xi S 950 (((Xi S 904 71)).toNat)) = Xi S 950 (Xi S 904 71).toNat := by first | rfl | exact (hF.cx 950 rfl _).1 | (rw [(hF.cx 950 rfl _).1]; exact congrArg (fun t : Int => Xi S 950 t.toNat) (by omega))
      have f65 := hrf (Xi S 904 71) (by omega) (by omega)
      refine l_callV rfl rfl rfl (t_mo_need hH 0 4 (Xi S 950 (((Xi S 904 71)).toNat)) ⟨by omega, by omega⟩ ⟨by omega, by omega⟩ ⟨by omega, by omega⟩ _) ?_
      rintro _ T19 ⟨hHT19, w698, rfl, w695, w696⟩
      have hFT19 : FR md_mo_askWay S T19 := FR.tr hF w698 rfl
      show Rl _ _ _ _ _ [] _ _
      have w699 : 0 ≤ Xi T19 904 106 ∧ Xi T19 904 106 ≤ 9 := hHT19.c _ _
      have w700 : Xi T19 904 108 = Xi S 904 108 := (show Xi T19 904 108 = Xi S 904 108 from w698.x _ _ rfl)
      have w702 : Xi T19 904 69 = Xi S 904 69 := (show Xi T19 904 69 = Xi S 904 69 from w698.x _ _ rfl)
      have w704 : Xi T19 904 71 = Xi S 904 71 := (show Xi T19 904 71 = Xi S 904 71 from w698.x _ _ rfl)
      have w706 : Xi T19 904 72 = Xi S 904 72 := (show Xi T19 904 72 = Xi S 904 72 from w698.x _ _ rfl)
      have w708 : Xi T19 904 74 = Xi S 904 74 := (show Xi T19 904 74 = Xi S 904 74 from w698.x _ _ rfl)
      have w710 : Xi T19 904 78 = Xi S 904 78 := (show Xi T19 904 78 = Xi S 904 78 from w698.x _ _ rfl)
      exact Rl_weak (C69 T19 hHT19 hFT19 ((Xi S 904 71)) (by omega) (by omega) (by omega) (by omega) (by omega) (by omega) (by first | exact (fun _ => fun q _ => G21 q) G21 | exact fun q y => absurd y (by rw [← r30]; omega) | exact fun q => absurd q (by omega))) (And.intro rfl (And.intro rfl (True.intro)))
    · refine l_aload_n rfl rfl ?_
      refine l_aload_n rfl rfl ?_
      refine l_gfr rfl rfl rfl rfl rfl (hH.r 904 20 918 rfl) ?_
      refine l_iload_n rfl rfl ?_
      refine l_iaload (n := 24) rfl rfl (by omega) (by omega) (by unfold rg; omega) ?_
      have w712 : 0 ≤ (Xi S 918 ((z684).toNat)) ∧ (Xi S 918 ((z684).toNat)) ≤ 15 := hH.c _ _
      refine l_iconst rfl ?_
      refine l_callV rfl rfl rfl (t_mo_isBelow hH (Xi S 918 ((z684).toNat)) 1 ⟨by omega, by omega⟩ ⟨by omega, by omega⟩ (by first | assumption | exact (ABV_FR hF rfl (by assumption : ABV S))) _) ?_
      rintro _ _ ⟨rfl, z721, rfl, w721, w720⟩
      show Rl _ _ _ _ _ [iv z721, .ref 904] _ _
      refine l_if_eq rfl rfl (by unfold rg; omega) (fun w722 => ?_) (fun w723 => ?_)
      · refine l_iconst rfl ?_
        refine l_iconst rfl ?_
        refine l_aload_n rfl rfl ?_
        refine l_gfr rfl rfl rfl rfl rfl (hH.r 904 67 950 rfl) ?_
        refine l_iload_n rfl rfl ?_
        refine l_iaload (n := 2600) rfl rfl (by omega) (by omega) (by unfold rg; omega) ?_
        have w724 : 0 ≤ (Xi S 950 (((Xi S 904 71)).toNat)) ∧ (Xi S 950 (((Xi S 904 71)).toNat)) ≤ 5010 := hH.c _ _
        have e65 : (Xi S 950 (((Xi S 904 71)).toNat)) = Xi S 950 (Xi S 904 71).toNat := by first | rfl | exact (hF.cx 950 rfl _).1 | (rw [(hF.cx 950 rfl _).1]; exact congrArg (fun t : Int => Xi S 950 t.toNat) (by omega))
        have f65 := hrf (Xi S 904 71) (by omega) (by omega)
        refine l_callV rfl rfl rfl (t_mo_need hH 0 4 (Xi S 950 (((Xi S 904 71)).toNat)) ⟨by omega, by omega⟩ ⟨by omega, by omega⟩ ⟨by omega, by omega⟩ _) ?_
        rintro _ T20 ⟨hHT20, w735, rfl, w732, w733⟩
        have hFT20 : FR md_mo_askWay S T20 := FR.tr hF w735 rfl
        show Rl _ _ _ _ _ [] _ _
        have w736 : 0 ≤ Xi T20 904 106 ∧ Xi T20 904 106 ≤ 9 := hHT20.c _ _
        have w737 : Xi T20 904 108 = Xi S 904 108 := (show Xi T20 904 108 = Xi S 904 108 from w735.x _ _ rfl)
        have w739 : Xi T20 904 69 = Xi S 904 69 := (show Xi T20 904 69 = Xi S 904 69 from w735.x _ _ rfl)
        have w741 : Xi T20 904 71 = Xi S 904 71 := (show Xi T20 904 71 = Xi S 904 71 from w735.x _ _ rfl)
        have w743 : Xi T20 904 72 = Xi S 904 72 := (show Xi T20 904 72 = Xi S 904 72 from w735.x _ _ rfl)
        have w745 : Xi T20 904 74 = Xi S 904 74 := (show Xi T20 904 74 = Xi S 904 74 from w735.x _ _ rfl)
        have w747 : Xi T20 904 78 = Xi S 904 78 := (show Xi T20 904 78 = Xi S 904 78 from w735.x _ _ rfl)
        exact Rl_weak (C69 T20 hHT20 hFT20 ((Xi S 904 71)) (by omega) (by omega) (by omega) (by omega) (by omega) (by omega) (by first | exact (fun _ => fun q _ => G21 q) G21 | exact fun q y => absurd y (by rw [← r30]; omega) | exact fun q => absurd q (by omega))) (And.intro rfl (And.intro rfl (True.intro)))
      · refine l_iconst rfl ?_
        refine l_goto rfl rfl ?_
        refine l_iconst rfl ?_
        refine l_aload_n rfl rfl ?_
        refine l_gfr rfl rfl rfl rfl rfl (hH.r 904 67 950 rfl) ?_
        refine l_iload_n rfl rfl ?_
        refine l_iaload (n := 2600) rfl rfl (by omega) (by omega) (by unfold rg; omega) ?_
        have w749 : 0 ≤ (Xi S 950 (((Xi S 904 71)).toNat)) ∧ (Xi S 950 (((Xi S 904 71)).toNat)) ≤ 5010 := hH.c _ _
        have e65 : (Xi S 950 (((Xi S 904 71)).toNat)) = Xi S 950 (Xi S 904 71).toNat := by first | rfl | exact (hF.cx 950 rfl _).1 | (rw [(hF.cx 950 rfl _).1]; exact congrArg (fun t : Int => Xi S 950 t.toNat) (by omega))
        have f65 := hrf (Xi S 904 71) (by omega) (by omega)
        refine l_callV rfl rfl rfl (t_mo_need hH 1 4 (Xi S 950 (((Xi S 904 71)).toNat)) ⟨by omega, by omega⟩ ⟨by omega, by omega⟩ ⟨by omega, by omega⟩ _) ?_
        rintro _ T21 ⟨hHT21, w760, rfl, w757, w758⟩
        have hFT21 : FR md_mo_askWay S T21 := FR.tr hF w760 rfl
        show Rl _ _ _ _ _ [] _ _
        have w761 : 0 ≤ Xi T21 904 106 ∧ Xi T21 904 106 ≤ 9 := hHT21.c _ _
        have w762 : Xi T21 904 108 = Xi S 904 108 := (show Xi T21 904 108 = Xi S 904 108 from w760.x _ _ rfl)
        have w764 : Xi T21 904 69 = Xi S 904 69 := (show Xi T21 904 69 = Xi S 904 69 from w760.x _ _ rfl)
        have w766 : Xi T21 904 71 = Xi S 904 71 := (show Xi T21 904 71 = Xi S 904 71 from w760.x _ _ rfl)
        have w768 : Xi T21 904 72 = Xi S 904 72 := (show Xi T21 904 72 = Xi S 904 72 from w760.x _ _ rfl)
        have w770 : Xi T21 904 74 = Xi S 904 74 := (show Xi T21 904 74 = Xi S 904 74 from w760.x _ _ rfl)
        have w772 : Xi T21 904 78 = Xi S 904 78 := (show Xi T21 904 78 = Xi S 904 78 from w760.x _ _ rfl)
        exact Rl_weak (C69 T21 hHT21 hFT21 ((Xi S 904 71)) (by omega) (by omega) (by omega) (by omega) (by omega) (by omega) (by first | exact (fun _ => fun q _ => G21 q) G21 | exact fun q y => absurd y (by rw [← r30]; omega) | exact fun q => absurd q (by omega))) (And.intro rfl (And.intro rfl (True.intro)))
  · refine l_aload_n rfl rfl ?_
    refine l_iload_n rfl rfl ?_
    refine l_aload_n rfl rfl ?_
    refine l_gfi rfl rfl rfl rfl rfl ?_
    refine l_bipush rfl rfl ?_
    refine l_callV rfl rfl rfl (t_mo_mustBeNew hH n (Xi S 904 71) (Xi S 904 19) 24 ⟨by omega, by omega⟩ ⟨by omega, by omega⟩ ⟨by omega, by omega⟩ (by first | assumption | exact (TK_FR hF rfl (by assumption : TK S _))) (by first | assumption | exact (RNV_FR hF rfl (by assumption : RNV S _))) (by first | assumption | omega) (by first | assumption | exact (by assumption : NWV S)) (by first | assumption | omega) _) ?_
    rintro _ T22 ⟨hHT22, w785, rfl, w781, g21, w782, w783⟩
    have hFT22 : FR md_mo_askWay S T22 := FR.tr hF w785 rfl
    show Rl _ _ _ _ _ [] _ _
    have G21 : Xi T22 904 106 = 0 → Xi S 904 19 < 24 ∧ Xi S 951 (Xi S 904 71).toNat ≤ 3 := fun q => ⟨(g21 q).1, (g21 q).2.1⟩
    refine l_goto rfl rfl ?_
    have w786 : 0 ≤ Xi T22 904 106 ∧ Xi T22 904 106 ≤ 9 := hHT22.c _ _
    have w787 : 0 ≤ Xi T22 904 108 ∧ Xi T22 904 108 ≤ 2600 := hHT22.c _ _
    have w788 : Xi T22 904 69 = Xi S 904 69 := (show Xi T22 904 69 = Xi S 904 69 from w785.x _ _ rfl)
    have w790 : Xi T22 904 71 = Xi S 904 71 := (show Xi T22 904 71 = Xi S 904 71 from w785.x _ _ rfl)
    have w792 : Xi T22 904 72 = Xi S 904 72 := (show Xi T22 904 72 = Xi S 904 72 from w785.x _ _ rfl)
    have w794 : Xi T22 904 74 = Xi S 904 74 := (show Xi T22 904 74 = Xi S 904 74 from w785.x _ _ rfl)
    have w796 : Xi T22 904 78 = Xi S 904 78 := (show Xi T22 904 78 = Xi S 904 78 from w785.x _ _ rfl)
    exact Rl_weak (C69 T22 hHT22 hFT22 ((Xi S 904 71)) (by omega) (by omega) (by omega) (by omega) (by omega) (by omega) (by first | exact (fun _ => fun q _ => G21 q) G21 | exact fun q y => absurd y (by rw [← r30]; omega) | exact fun q => absurd q (by omega))) (And.intro rfl (And.intro rfl (True.intro)))
