/-! SAFETY of methods: printed by wip/safe (vc.py, decl.py) -/
def md_mo_askProperty : List rec := [(904, 905, 104, 105), (904, 905, 105, 106), (904, 905, 106, 107), (973, 974, 0, 100000), (974, 975, 0, 100000)]
abbrev Q_mo_askProperty (S : sS) (n : Nat) : pst := fun r S1 => HI S1 ∧ FR md_mo_askProperty S S1 ∧ (r = none ∧ (Xi S1 904 106 = 0 → rnR S 0 7 ≠ -1 ∧ (rnR S 1 4 ≠ -1 ∨ rnR S 1 0 ≠ -1) ∧ OKT (Xi S1 973 (Xi S 904 117).toNat) (Xi S1 974 (Xi S 904 117).toNat)) ∧ (KQ S1 S (Xi S 904 117)))
set_option maxRecDepth 100000 in
theorem t_mo_askProperty {S : sS} (hH : HI S) (n : Nat) (hT : TK S n) (hv : RNV S n) (hM : LXM S) (hB : ABV S) (hX : TXM S) (hK : TXK S n) (h2 : 2 ≤ Xi S 904 69) (hw : 0 ≤ Xi S 904 78 ∧ Xi S 904 78 ≤ n) (hw2 : Xi S 907 (Xi S 904 78).toNat ≠ 4 → Xi S 907 (Xi S 904 78).toNat ≠ 5 → 3 ≤ Xi S 904 69) (d : Nat) : Mt lay0 (d + 6) m_mo_askProperty [.ref 904] S (Q_mo_askProperty S n) := by
  refine Mt_R rfl rfl ?_
  have hF : FR md_mo_askProperty S S := FR.rf
  have w1 : 0 ≤ Xi S 904 106 ∧ Xi S 904 106 ≤ 9 := hH.c _ _
  have w2 : 0 ≤ Xi S 904 117 ∧ Xi S 904 117 ≤ 480 := hH.c _ _
  have w3 : 0 ≤ Xi S 904 32 ∧ Xi S 904 32 ≤ 12 := hH.c _ _
  have w4 : 0 ≤ Xi S 904 69 ∧ Xi S 904 69 ≤ 2600 := hH.c _ _
  have w5 : -2 ≤ Xi S 904 78 ∧ Xi S 904 78 ≤ 5010 := hH.c _ _
  have hn5 := hT.1
  have hc69 : 0 ≤ Xi S 904 69 ∧ Xi S 904 69 ≤ 2600 := hH.c _ _
  have q0 := hv 0 (by omega)
  have q1 := hv 1 (by omega)
  have g0 : 0 ≤ Xi S 950 0 ∧ Xi S 950 0 ≤ 5010 := hH.c 950 0
  have g1 : 0 ≤ Xi S 950 1 ∧ Xi S 950 1 ≤ 5010 := hH.c 950 1
  have hc32 : 0 ≤ Xi S 904 32 ∧ Xi S 904 32 ≤ 12 := hH.c _ _
  have hc16 : 0 ≤ Xi S 904 16 ∧ Xi S 904 16 ≤ 16 := hH.c _ _
  have hc19 : 0 ≤ Xi S 904 19 ∧ Xi S 904 19 ≤ 24 := hH.c _ _
  have C28 : ∀  (v2 : Int), (-1 ≤ v2 ∧ v2 ≤ 15) → (rnR S 1 4 ≠ -1 ∨ v2 = rnR S 1 0) → Rl lay0 (d + 5) m_mo_askProperty 28 [(0, .ref 904), (2, iv v2)] [] S (Q_mo_askProperty S n) := by
    intro v2 w6 w7
    have C83 : ∀  (T1 : sS) (_ : HI T1) (_ : FR md_mo_askProperty S T1) (v3 : Int) (v4 : Int), (-1 ≤ v3 ∧ v3 ≤ 11) → (0 ≤ v4 ∧ v4 ≤ 1) → (Xi T1 904 78 = Xi S 904 78) → (Xi T1 904 117 = Xi S 904 117) → (Xi T1 904 69 = Xi S 904 69) → (v3 = rnR S 0 7) → (v3 ≠ -1 → v3 < Xi S 904 32) → (Xi T1 904 106 = 0 → rnR S 1 4 ≠ -1 ∨ rnR S 1 0 ≠ -1) → (v4 = 1 → v3 ≠ -1) → (KQ T1 S (Xi S 904 117)) → Rl lay0 (d + 5) m_mo_askProperty 83 [(0, .ref 904), (3, iv v3), (4, iv v4)] [] T1 (Q_mo_askProperty S n) := by
      intro T1 hHT1 hFT1 v3 v4 w8 w9 w10 w11 w12 w13 w14 w15 w16 K83
      have w17 : Xi T1 904 117 = Xi S 904 117 := hFT1.x _ _ rfl
      have w18 : Xi T1 904 32 = Xi S 904 32 := hFT1.x _ _ rfl
      have w19 : Xi T1 904 69 = Xi S 904 69 := hFT1.x _ _ rfl
      have w20 : Xi T1 904 78 = Xi S 904 78 := hFT1.x _ _ rfl
      have w21 : 0 ≤ Xi T1 904 106 ∧ Xi T1 904 106 ≤ 9 := hHT1.c _ _
      have w22 : 0 ≤ Xi T1 904 117 ∧ Xi T1 904 117 ≤ 480 := hHT1.c _ _
      have w23 : 0 ≤ Xi T1 904 69 ∧ Xi T1 904 69 ≤ 2600 := hHT1.c _ _
      have w24 : -2 ≤ Xi T1 904 78 ∧ Xi T1 904 78 ≤ 5010 := hHT1.c _ _
      refine l_aload_n rfl rfl ?_
      refine l_iload rfl rfl ?_
      refine l_iconst rfl ?_
      refine l_aload_n rfl rfl ?_
      refine l_gfr rfl rfl rfl rfl rfl (hHT1.r 904 67 950 rfl) ?_
      refine l_iconst rfl ?_
      refine l_iaload (n := 2600) rfl rfl (by omega) (by omega) (by unfold rg; omega) ?_
      have w25 : 0 ≤ (Xi T1 950 ((0 : Int).toNat)) ∧ (Xi T1 950 ((0 : Int).toNat)) ≤ 5010 := hHT1.c _ _
      have w26 : (Xi T1 950 ((0 : Int).toNat)) = Xi T1 950 0 := rfl
      have e92 : (Xi T1 950 ((0 : Int).toNat)) = Xi S 950 0 := by first | rfl | exact (hFT1.cx 950 rfl _).1
      have w27 : 0 ≤ Xi T1 904 106 ∧ Xi T1 904 106 ≤ 9 := hHT1.c _ _
      have w28 : 0 ≤ Xi T1 904 108 ∧ Xi T1 904 108 ≤ 2600 := hHT1.c _ _
      have w29 : 0 ≤ Xi T1 904 117 ∧ Xi T1 904 117 ≤ 480 := hHT1.c _ _
      have w30 : 0 ≤ Xi T1 904 69 ∧ Xi T1 904 69 ≤ 2600 := hHT1.c _ _
      have w31 : -2 ≤ Xi T1 904 78 ∧ Xi T1 904 78 ≤ 5010 := hHT1.c _ _
      refine l_callV rfl rfl rfl (t_mo_need hHT1 v4 4 (Xi T1 950 ((0 : Int).toNat)) ⟨by omega, by omega⟩ ⟨by omega, by omega⟩ ⟨by omega, by omega⟩ _) ?_
      rintro _ T2 ⟨hHT2, w35, rfl, w32, w33⟩
      have hFT2 : FR md_mo_askProperty S T2 := FR.tr hFT1 w35 rfl
      show Rl _ _ _ _ _ [] _ _
      have K93 : KQ T2 S (Xi S 904 117) := KQ_FR (by assumption : FR md_mo_need T1 T2) rfl K83
      refine l_iload_n rfl rfl ?_
      refine l_iconst rfl ?_
      refine l_icmp_eq rfl rfl (by unfold rg; omega) (by unfold rg; omega) (fun w36 => ?_) (fun w37 => ?_)
      · refine l_return rfl rfl ?_
        have w38 : 0 ≤ Xi T2 904 106 ∧ Xi T2 904 106 ≤ 9 := hHT2.c _ _
        have w39 : Xi T2 904 108 = Xi T1 904 108 := (show Xi T2 904 108 = Xi T1 904 108 from w35.x _ _ rfl)
        have w40 : 0 ≤ Xi T1 904 108 ∧ Xi T1 904 108 ≤ 2600 := hHT1.c _ _
        have w41 : Xi T2 904 117 = Xi T1 904 117 := (show Xi T2 904 117 = Xi T1 904 117 from w35.x _ _ rfl)
        have w42 : 0 ≤ Xi T1 904 117 ∧ Xi T1 904 117 ≤ 480 := hHT1.c _ _
        have w43 : Xi T2 904 69 = Xi T1 904 69 := (show Xi T2 904 69 = Xi T1 904 69 from w35.x _ _ rfl)
        have w44 : 0 ≤ Xi T1 904 69 ∧ Xi T1 904 69 ≤ 2600 := hHT1.c _ _
        have w45 : Xi T2 904 78 = Xi T1 904 78 := (show Xi T2 904 78 = Xi T1 904 78 from w35.x _ _ rfl)
        have w46 : -2 ≤ Xi T1 904 78 ∧ Xi T1 904 78 ≤ 5010 := hHT1.c _ _
        exact ⟨hHT2, hFT2, rfl, (fun q => (by first | (refine ⟨by omega, by omega, ?_⟩; rw [show (Xi S 904 117).toNat = (Xi T1 904 117).toNat by omega]; exact o117) | (exfalso; omega))), (by first | exact KQ.tr K93 (by rw [show Xi S 904 117 = Xi T1 904 117 by omega]; assumption) | exact K93)⟩
      · refine l_aload_n rfl rfl ?_
        refine l_aload_n rfl rfl ?_
        refine l_gfi rfl rfl rfl rfl rfl ?_
        have w47 : (Xi T2 904 78) = (Xi T1 904 78) := (show Xi T2 904 78 = Xi T1 904 78 from w35.x _ _ rfl)
        rw [w47]
        refine l_iconst rfl ?_
        refine l_aload_n rfl rfl ?_
        refine l_gfr rfl rfl rfl rfl rfl (hHT2.r 904 33 928 rfl) ?_
        refine l_iload_n rfl rfl ?_
        refine l_iaload (n := 12) rfl rfl (by omega) (by omega) (by unfold rg; omega) ?_
        have w48 : 0 ≤ (Xi T2 928 ((v3).toNat)) ∧ (Xi T2 928 ((v3).toNat)) ≤ 7 := hHT2.c _ _
        have e112 : (Xi T2 928 ((v3).toNat)) = Xi S 928 (v3).toNat := by first | rfl | exact (hFT2.cx 928 rfl _).1
        refine l_aload_n rfl rfl ?_
        refine l_gfi rfl rfl rfl rfl rfl ?_
        have w49 : (Xi T2 904 117) = (Xi T1 904 117) := (show Xi T2 904 117 = Xi T1 904 117 from w35.x _ _ rfl)
        rw [w49]
        have w50 : 0 ≤ Xi T2 904 106 ∧ Xi T2 904 106 ≤ 9 := hHT2.c _ _
        have w51 : Xi T2 904 108 = Xi T1 904 108 := (show Xi T2 904 108 = Xi T1 904 108 from w35.x _ _ rfl)
        have w52 : 0 ≤ Xi T1 904 108 ∧ Xi T1 904 108 ≤ 2600 := hHT1.c _ _
        have w53 : Xi T2 904 117 = Xi T1 904 117 := (show Xi T2 904 117 = Xi T1 904 117 from w35.x _ _ rfl)
        have w54 : 0 ≤ Xi T1 904 117 ∧ Xi T1 904 117 ≤ 480 := hHT1.c _ _
        have w55 : Xi T2 904 69 = Xi T1 904 69 := (show Xi T2 904 69 = Xi T1 904 69 from w35.x _ _ rfl)
        have w56 : 0 ≤ Xi T1 904 69 ∧ Xi T1 904 69 ≤ 2600 := hHT1.c _ _
        have w57 : Xi T2 904 78 = Xi T1 904 78 := (show Xi T2 904 78 = Xi T1 904 78 from w35.x _ _ rfl)
        have w58 : -2 ≤ Xi T1 904 78 ∧ Xi T1 904 78 ≤ 5010 := hHT1.c _ _
        refine l_callV rfl rfl rfl (t_mo_whatMeant hHT2 n (Xi T1 904 78) 2 (Xi T2 928 ((v3).toNat)) (Xi T1 904 117) ⟨by omega, by omega⟩ ⟨by omega, by omega⟩ ⟨by omega, by omega⟩ ⟨by omega, by omega⟩ (by first | assumption | exact (TK_FR hFT2 rfl (by assumption : TK S _))) (by first | assumption | exact (RNV_FR hFT2 rfl (by assumption : RNV S _))) (by first | assumption | exact (LXM_FR hFT2 rfl (by assumption : LXM S))) (by first | assumption | exact (TXK_FR hFT2 rfl (by assumption : TXK S _))) (by first | assumption | omega) (fun a b => by rw [(hFT2.cx 907 rfl _).1, show Xi T1 904 78 = Xi S 904 78 by omega] at a b; have t := hw2 a b; omega) _) ?_
        rintro _ T3 ⟨hHT3, w62, rfl, w59, o117, w60⟩
        have hFT3 : FR md_mo_askProperty S T3 := FR.tr hFT2 w62 rfl
        show Rl _ _ _ _ _ [] _ _
        refine l_return rfl rfl ?_
        have w63 : 0 ≤ Xi T3 904 106 ∧ Xi T3 904 106 ≤ 9 := hHT3.c _ _
        have w64 : Xi T3 904 108 = Xi T1 904 108 := (show Xi T3 904 108 = Xi T2 904 108 from w62.x _ _ rfl).trans ((show Xi T2 904 108 = Xi T1 904 108 from w35.x _ _ rfl))
        have w65 : 0 ≤ Xi T1 904 108 ∧ Xi T1 904 108 ≤ 2600 := hHT1.c _ _
        have w66 : Xi T3 904 117 = Xi T1 904 117 := (show Xi T3 904 117 = Xi T2 904 117 from w62.x _ _ rfl).trans ((show Xi T2 904 117 = Xi T1 904 117 from w35.x _ _ rfl))
        have w67 : 0 ≤ Xi T1 904 117 ∧ Xi T1 904 117 ≤ 480 := hHT1.c _ _
        have w68 : Xi T3 904 69 = Xi T1 904 69 := (show Xi T3 904 69 = Xi T2 904 69 from w62.x _ _ rfl).trans ((show Xi T2 904 69 = Xi T1 904 69 from w35.x _ _ rfl))
        have w69 : 0 ≤ Xi T1 904 69 ∧ Xi T1 904 69 ≤ 2600 := hHT1.c _ _
        have w70 : Xi T3 904 78 = Xi T1 904 78 := (show Xi T3 904 78 = Xi T2 904 78 from w62.x _ _ rfl).trans ((show Xi T2 904 78 = Xi T1 904 78 from w35.x _ _ rfl))
        have w71 : -2 ≤ Xi T1 904 78 ∧ Xi T1 904 78 ≤ 5010 := hHT1.c _ _
        exact ⟨hHT3, hFT3, rfl, (fun q => (by first | (refine ⟨by omega, by omega, ?_⟩; rw [show (Xi S 904 117).toNat = (Xi T1 904 117).toNat by omega]; exact o117) | (exfalso; omega))), (by first | exact KQ.tr K93 (by rw [show Xi S 904 117 = Xi T1 904 117 by omega]; assumption) | exact K93)⟩
    refine l_aload_n rfl rfl ?_
    refine l_iconst rfl ?_
    refine l_bipush rfl rfl ?_
    have w72 : 0 ≤ Xi S 904 106 ∧ Xi S 904 106 ≤ 9 := hH.c _ _
    have w73 : 0 ≤ Xi S 904 108 ∧ Xi S 904 108 ≤ 2600 := hH.c _ _
    have w74 : 0 ≤ Xi S 904 117 ∧ Xi S 904 117 ≤ 480 := hH.c _ _
    have w75 : 0 ≤ Xi S 904 69 ∧ Xi S 904 69 ≤ 2600 := hH.c _ _
    have w76 : -2 ≤ Xi S 904 78 ∧ Xi S 904 78 ≤ 5010 := hH.c _ _
    refine l_callV rfl rfl rfl (t_mo_meansRun__2 hH n 0 7 ⟨by omega, by omega⟩ ⟨by omega, by omega⟩ (by first | assumption | exact (TK_FR hF rfl (by assumption : TK S _))) (by first | assumption | exact (RNV_FR hF rfl (by assumption : RNV S _))) (by first | assumption | omega) (by first | assumption | exact (LXM_FR hF rfl (by assumption : LXM S))) _) ?_
    rintro _ _ ⟨rfl, z79, rfl, w79, w77, w78⟩
    show Rl _ _ _ _ _ [iv z79] _ _
    have x32 : z79 ≠ -1 → z79 < Xi S 904 32 := fun q => by have t := (by assumption : z79 ≠ -1 → z79 < cM S 7) q; rw [cM7] at t; exact t
    have r32 : z79 = rnR S 0 7 := (by assumption : z79 = rnR S _ _).trans (rnR_FR hF rfl rfl)
    refine l_istore_n rfl rfl rfl ?_
    refine l_aload_n rfl rfl ?_
    refine l_iload_n rfl rfl ?_
    refine l_iconst rfl ?_
    refine l_icmp_eq rfl rfl (by unfold rg; omega) (by unfold rg; omega) (fun w80 => ?_) (fun w81 => ?_)
    · refine l_iconst rfl ?_
      refine l_iconst rfl ?_
      refine l_aload_n rfl rfl ?_
      refine l_gfr rfl rfl rfl rfl rfl (hH.r 904 67 950 rfl) ?_
      refine l_iconst rfl ?_
      refine l_iaload (n := 2600) rfl rfl (by omega) (by omega) (by unfold rg; omega) ?_
      have w82 : 0 ≤ (Xi S 950 ((1 : Int).toNat)) ∧ (Xi S 950 ((1 : Int).toNat)) ≤ 5010 := hH.c _ _
      have w83 : (Xi S 950 ((1 : Int).toNat)) = Xi S 950 1 := rfl
      have w84 : 0 ≤ Xi S 904 106 ∧ Xi S 904 106 ≤ 9 := hH.c _ _
      have w85 : 0 ≤ Xi S 904 108 ∧ Xi S 904 108 ≤ 2600 := hH.c _ _
      have w86 : 0 ≤ Xi S 904 117 ∧ Xi S 904 117 ≤ 480 := hH.c _ _
      have w87 : 0 ≤ Xi S 904 69 ∧ Xi S 904 69 ≤ 2600 := hH.c _ _
      have w88 : -2 ≤ Xi S 904 78 ∧ Xi S 904 78 ≤ 5010 := hH.c _ _
      refine l_callV rfl rfl rfl (t_mo_need hH 0 4 (Xi S 950 ((1 : Int).toNat)) ⟨by omega, by omega⟩ ⟨by omega, by omega⟩ ⟨by omega, by omega⟩ _) ?_
      rintro _ T4 ⟨hHT4, w92, rfl, w89, w90⟩
      have hFT4 : FR md_mo_askProperty S T4 := FR.tr hF w92 rfl
      show Rl _ _ _ _ _ [] _ _
      refine l_iload_n rfl rfl ?_
      refine l_iconst rfl ?_
      refine l_icmp_eq rfl rfl (by unfold rg; omega) (by unfold rg; omega) (fun w93 => ?_) (fun w94 => ?_)
      · refine l_iconst rfl ?_
        refine l_istore rfl rfl rfl ?_
        have w95 : 0 ≤ Xi T4 904 106 ∧ Xi T4 904 106 ≤ 9 := hHT4.c _ _
        have w96 : Xi T4 904 108 = Xi S 904 108 := (show Xi T4 904 108 = Xi S 904 108 from w92.x _ _ rfl)
        have w97 : 0 ≤ Xi S 904 108 ∧ Xi S 904 108 ≤ 2600 := hH.c _ _
        have w98 : Xi T4 904 117 = Xi S 904 117 := (show Xi T4 904 117 = Xi S 904 117 from w92.x _ _ rfl)
        have w99 : 0 ≤ Xi S 904 117 ∧ Xi S 904 117 ≤ 480 := hH.c _ _
        have w100 : Xi T4 904 69 = Xi S 904 69 := (show Xi T4 904 69 = Xi S 904 69 from w92.x _ _ rfl)
        have w101 : 0 ≤ Xi S 904 69 ∧ Xi S 904 69 ≤ 2600 := hH.c _ _
        have w102 : Xi T4 904 78 = Xi S 904 78 := (show Xi T4 904 78 = Xi S 904 78 from w92.x _ _ rfl)
        have w103 : -2 ≤ Xi S 904 78 ∧ Xi S 904 78 ≤ 5010 := hH.c _ _
        exact Rl_weak (C83 T4 hHT4 hFT4 (z79) (0) (by omega) (by omega) (by omega) (by omega) (by omega) (by omega) (by omega) (by omega) (by omega) (KQ_FR (by assumption : FR md_mo_need S T4) rfl KQ.rf)) (And.intro rfl (And.intro rfl (And.intro rfl (True.intro))))
      · refine l_iload_n rfl rfl ?_
        refine l_iconst rfl ?_
        refine l_icmp_eq rfl rfl (by unfold rg; omega) (by unfold rg; omega) (fun w104 => ?_) (fun w105 => ?_)
        · refine l_iconst rfl ?_
          refine l_goto rfl rfl ?_
          refine l_istore rfl rfl rfl ?_
          have w106 : 0 ≤ Xi T4 904 106 ∧ Xi T4 904 106 ≤ 9 := hHT4.c _ _
          have w107 : Xi T4 904 108 = Xi S 904 108 := (show Xi T4 904 108 = Xi S 904 108 from w92.x _ _ rfl)
          have w108 : 0 ≤ Xi S 904 108 ∧ Xi S 904 108 ≤ 2600 := hH.c _ _
          have w109 : Xi T4 904 117 = Xi S 904 117 := (show Xi T4 904 117 = Xi S 904 117 from w92.x _ _ rfl)
          have w110 : 0 ≤ Xi S 904 117 ∧ Xi S 904 117 ≤ 480 := hH.c _ _
          have w111 : Xi T4 904 69 = Xi S 904 69 := (show Xi T4 904 69 = Xi S 904 69 from w92.x _ _ rfl)
          have w112 : 0 ≤ Xi S 904 69 ∧ Xi S 904 69 ≤ 2600 := hH.c _ _
          have w113 : Xi T4 904 78 = Xi S 904 78 := (show Xi T4 904 78 = Xi S 904 78 from w92.x _ _ rfl)
          have w114 : -2 ≤ Xi S 904 78 ∧ Xi S 904 78 ≤ 5010 := hH.c _ _
          exact Rl_weak (C83 T4 hHT4 hFT4 (z79) (1) (by omega) (by omega) (by omega) (by omega) (by omega) (by omega) (by omega) (by omega) (by omega) (KQ_FR (by assumption : FR md_mo_need S T4) rfl KQ.rf)) (And.intro rfl (And.intro rfl (And.intro rfl (True.intro))))
        · refine l_aload_n rfl rfl ?_
          refine l_iload_n rfl rfl ?_
          refine l_iload_n rfl rfl ?_
          have w115 : 0 ≤ Xi T4 904 106 ∧ Xi T4 904 106 ≤ 9 := hHT4.c _ _
          have w116 : Xi T4 904 108 = Xi S 904 108 := (show Xi T4 904 108 = Xi S 904 108 from w92.x _ _ rfl)
          have w117 : 0 ≤ Xi S 904 108 ∧ Xi S 904 108 ≤ 2600 := hH.c _ _
          have w118 : Xi T4 904 117 = Xi S 904 117 := (show Xi T4 904 117 = Xi S 904 117 from w92.x _ _ rfl)
          have w119 : 0 ≤ Xi S 904 117 ∧ Xi S 904 117 ≤ 480 := hH.c _ _
          have w120 : Xi T4 904 69 = Xi S 904 69 := (show Xi T4 904 69 = Xi S 904 69 from w92.x _ _ rfl)
          have w121 : 0 ≤ Xi S 904 69 ∧ Xi S 904 69 ≤ 2600 := hH.c _ _
          have w122 : Xi T4 904 78 = Xi S 904 78 := (show Xi T4 904 78 = Xi S 904 78 from w92.x _ _ rfl)
          have w123 : -2 ≤ Xi S 904 78 ∧ Xi S 904 78 ≤ 5010 := hH.c _ _
          refine l_callV rfl rfl rfl (t_mo_has hHT4 v2 z79 ⟨by omega, by omega⟩ ⟨by omega, by omega⟩ (by first | assumption | exact (ABV_FR hFT4 rfl (by assumption : ABV S))) _) ?_
          rintro _ _ ⟨rfl, z125, rfl, w125, w124⟩
          show Rl _ _ _ _ _ [iv z125] _ _
          refine l_if_eq rfl rfl (by unfold rg; omega) (fun w126 => ?_) (fun w127 => ?_)
          · refine l_iconst rfl ?_
            refine l_istore rfl rfl rfl ?_
            have w128 : 0 ≤ Xi T4 904 106 ∧ Xi T4 904 106 ≤ 9 := hHT4.c _ _
            have w129 : Xi T4 904 108 = Xi S 904 108 := (show Xi T4 904 108 = Xi S 904 108 from w92.x _ _ rfl)
            have w130 : 0 ≤ Xi S 904 108 ∧ Xi S 904 108 ≤ 2600 := hH.c _ _
            have w131 : Xi T4 904 117 = Xi S 904 117 := (show Xi T4 904 117 = Xi S 904 117 from w92.x _ _ rfl)
            have w132 : 0 ≤ Xi S 904 117 ∧ Xi S 904 117 ≤ 480 := hH.c _ _
            have w133 : Xi T4 904 69 = Xi S 904 69 := (show Xi T4 904 69 = Xi S 904 69 from w92.x _ _ rfl)
            have w134 : 0 ≤ Xi S 904 69 ∧ Xi S 904 69 ≤ 2600 := hH.c _ _
            have w135 : Xi T4 904 78 = Xi S 904 78 := (show Xi T4 904 78 = Xi S 904 78 from w92.x _ _ rfl)
            have w136 : -2 ≤ Xi S 904 78 ∧ Xi S 904 78 ≤ 5010 := hH.c _ _
            exact Rl_weak (C83 T4 hHT4 hFT4 (z79) (0) (by omega) (by omega) (by omega) (by omega) (by omega) (by omega) (by omega) (by omega) (by omega) (KQ_FR (by assumption : FR md_mo_need S T4) rfl KQ.rf)) (And.intro rfl (And.intro rfl (And.intro rfl (True.intro))))
          · refine l_iconst rfl ?_
            refine l_goto rfl rfl ?_
            refine l_istore rfl rfl rfl ?_
            have w137 : 0 ≤ Xi T4 904 106 ∧ Xi T4 904 106 ≤ 9 := hHT4.c _ _
            have w138 : Xi T4 904 108 = Xi S 904 108 := (show Xi T4 904 108 = Xi S 904 108 from w92.x _ _ rfl)
            have w139 : 0 ≤ Xi S 904 108 ∧ Xi S 904 108 ≤ 2600 := hH.c _ _
            have w140 : Xi T4 904 117 = Xi S 904 117 := (show Xi T4 904 117 = Xi S 904 117 from w92.x _ _ rfl)
            have w141 : 0 ≤ Xi S 904 117 ∧ Xi S 904 117 ≤ 480 := hH.c _ _
            have w142 : Xi T4 904 69 = Xi S 904 69 := (show Xi T4 904 69 = Xi S 904 69 from w92.x _ _ rfl)
            have w143 : 0 ≤ Xi S 904 69 ∧ Xi S 904 69 ≤ 2600 := hH.c _ _
            have w144 : Xi T4 904 78 = Xi S 904 78 := (show Xi T4 904 78 = Xi S 904 78 from w92.x _ _ rfl)
            have w145 : -2 ≤ Xi S 904 78 ∧ Xi S 904 78 ≤ 5010 := hH.c _ _
            exact Rl_weak (C83 T4 hHT4 hFT4 (z79) (1) (by omega) (by omega) (by omega) (by omega) (by omega) (by omega) (by omega) (by omega) (by omega) (KQ_FR (by assumption : FR md_mo_need S T4) rfl KQ.rf)) (And.intro rfl (And.intro rfl (And.intro rfl (True.intro))))
    · refine l_iconst rfl ?_
      refine l_goto rfl rfl ?_
      refine l_iconst rfl ?_
      refine l_aload_n rfl rfl ?_
      refine l_gfr rfl rfl rfl rfl rfl (hH.r 904 67 950 rfl) ?_
      refine l_iconst rfl ?_
      refine l_iaload (n := 2600) rfl rfl (by omega) (by omega) (by unfold rg; omega) ?_
      have w146 : 0 ≤ (Xi S 950 ((1 : Int).toNat)) ∧ (Xi S 950 ((1 : Int).toNat)) ≤ 5010 := hH.c _ _
      have w147 : (Xi S 950 ((1 : Int).toNat)) = Xi S 950 1 := rfl
      have w148 : 0 ≤ Xi S 904 106 ∧ Xi S 904 106 ≤ 9 := hH.c _ _
      have w149 : 0 ≤ Xi S 904 108 ∧ Xi S 904 108 ≤ 2600 := hH.c _ _
      have w150 : 0 ≤ Xi S 904 117 ∧ Xi S 904 117 ≤ 480 := hH.c _ _
      have w151 : 0 ≤ Xi S 904 69 ∧ Xi S 904 69 ≤ 2600 := hH.c _ _
      have w152 : -2 ≤ Xi S 904 78 ∧ Xi S 904 78 ≤ 5010 := hH.c _ _
      refine l_callV rfl rfl rfl (t_mo_need hH 1 4 (Xi S 950 ((1 : Int).toNat)) ⟨by omega, by omega⟩ ⟨by omega, by omega⟩ ⟨by omega, by omega⟩ _) ?_
      rintro _ T5 ⟨hHT5, w156, rfl, w153, w154⟩
      have hFT5 : FR md_mo_askProperty S T5 := FR.tr hF w156 rfl
      show Rl _ _ _ _ _ [] _ _
      refine l_iload_n rfl rfl ?_
      refine l_iconst rfl ?_
      refine l_icmp_eq rfl rfl (by unfold rg; omega) (by unfold rg; omega) (fun w157 => ?_) (fun w158 => ?_)
      · refine l_iconst rfl ?_
        refine l_istore rfl rfl rfl ?_
        have w159 : 0 ≤ Xi T5 904 106 ∧ Xi T5 904 106 ≤ 9 := hHT5.c _ _
        have w160 : Xi T5 904 108 = Xi S 904 108 := (show Xi T5 904 108 = Xi S 904 108 from w156.x _ _ rfl)
        have w161 : 0 ≤ Xi S 904 108 ∧ Xi S 904 108 ≤ 2600 := hH.c _ _
        have w162 : Xi T5 904 117 = Xi S 904 117 := (show Xi T5 904 117 = Xi S 904 117 from w156.x _ _ rfl)
        have w163 : 0 ≤ Xi S 904 117 ∧ Xi S 904 117 ≤ 480 := hH.c _ _
        have w164 : Xi T5 904 69 = Xi S 904 69 := (show Xi T5 904 69 = Xi S 904 69 from w156.x _ _ rfl)
        have w165 : 0 ≤ Xi S 904 69 ∧ Xi S 904 69 ≤ 2600 := hH.c _ _
        have w166 : Xi T5 904 78 = Xi S 904 78 := (show Xi T5 904 78 = Xi S 904 78 from w156.x _ _ rfl)
        have w167 : -2 ≤ Xi S 904 78 ∧ Xi S 904 78 ≤ 5010 := hH.c _ _
        exact Rl_weak (C83 T5 hHT5 hFT5 (z79) (0) (by omega) (by omega) (by omega) (by omega) (by omega) (by omega) (by omega) (by omega) (by omega) (KQ_FR (by assumption : FR md_mo_need S T5) rfl KQ.rf)) (And.intro rfl (And.intro rfl (And.intro rfl (True.intro))))
      · refine l_iload_n rfl rfl ?_
        refine l_iconst rfl ?_
        refine l_icmp_eq rfl rfl (by unfold rg; omega) (by unfold rg; omega) (fun w168 => ?_) (fun w169 => ?_)
        · refine l_iconst rfl ?_
          refine l_goto rfl rfl ?_
          refine l_istore rfl rfl rfl ?_
          have w170 : 0 ≤ Xi T5 904 106 ∧ Xi T5 904 106 ≤ 9 := hHT5.c _ _
          have w171 : Xi T5 904 108 = Xi S 904 108 := (show Xi T5 904 108 = Xi S 904 108 from w156.x _ _ rfl)
          have w172 : 0 ≤ Xi S 904 108 ∧ Xi S 904 108 ≤ 2600 := hH.c _ _
          have w173 : Xi T5 904 117 = Xi S 904 117 := (show Xi T5 904 117 = Xi S 904 117 from w156.x _ _ rfl)
          have w174 : 0 ≤ Xi S 904 117 ∧ Xi S 904 117 ≤ 480 := hH.c _ _
          have w175 : Xi T5 904 69 = Xi S 904 69 := (show Xi T5 904 69 = Xi S 904 69 from w156.x _ _ rfl)
          have w176 : 0 ≤ Xi S 904 69 ∧ Xi S 904 69 ≤ 2600 := hH.c _ _
          have w177 : Xi T5 904 78 = Xi S 904 78 := (show Xi T5 904 78 = Xi S 904 78 from w156.x _ _ rfl)
          have w178 : -2 ≤ Xi S 904 78 ∧ Xi S 904 78 ≤ 5010 := hH.c _ _
          exact Rl_weak (C83 T5 hHT5 hFT5 (z79) (1) (by omega) (by omega) (by omega) (by omega) (by omega) (by omega) (by omega) (by omega) (by omega) (KQ_FR (by assumption : FR md_mo_need S T5) rfl KQ.rf)) (And.intro rfl (And.intro rfl (And.intro rfl (True.intro))))
        · refine l_aload_n rfl rfl ?_
          refine l_iload_n rfl rfl ?_
          refine l_iload_n rfl rfl ?_
          have w179 : 0 ≤ Xi T5 904 106 ∧ Xi T5 904 106 ≤ 9 := hHT5.c _ _
          have w180 : Xi T5 904 108 = Xi S 904 108 := (show Xi T5 904 108 = Xi S 904 108 from w156.x _ _ rfl)
          have w181 : 0 ≤ Xi S 904 108 ∧ Xi S 904 108 ≤ 2600 := hH.c _ _
          have w182 : Xi T5 904 117 = Xi S 904 117 := (show Xi T5 904 117 = Xi S 904 117 from w156.x _ _ rfl)
          have w183 : 0 ≤ Xi S 904 117 ∧ Xi S 904 117 ≤ 480 := hH.c _ _
          have w184 : Xi T5 904 69 = Xi S 904 69 := (show Xi T5 904 69 = Xi S 904 69 from w156.x _ _ rfl)
          have w185 : 0 ≤ Xi S 904 69 ∧ Xi S 904 69 ≤ 2600 := hH.c _ _
          have w186 : Xi T5 904 78 = Xi S 904 78 := (show Xi T5 904 78 = Xi S 904 78 from w156.x _ _ rfl)
          have w187 : -2 ≤ Xi S 904 78 ∧ Xi S 904 78 ≤ 5010 := hH.c _ _
          refine l_callV rfl rfl rfl (t_mo_has hHT5 v2 z79 ⟨by omega, by omega⟩ ⟨by omega, by omega⟩ (by first | assumption | exact (ABV_FR hFT5 rfl (by assumption : ABV S))) _) ?_
          rintro _ _ ⟨rfl, z189, rfl, w189, w188⟩
          show Rl _ _ _ _ _ [iv z189] _ _
          refine l_if_eq rfl rfl (by unfold rg; omega) (fun w190 => ?_) (fun w191 => ?_)
          · refine l_iconst rfl ?_
            refine l_istore rfl rfl rfl ?_
            have w192 : 0 ≤ Xi T5 904 106 ∧ Xi T5 904 106 ≤ 9 := hHT5.c _ _
            have w193 : Xi T5 904 108 = Xi S 904 108 := (show Xi T5 904 108 = Xi S 904 108 from w156.x _ _ rfl)
            have w194 : 0 ≤ Xi S 904 108 ∧ Xi S 904 108 ≤ 2600 := hH.c _ _
            have w195 : Xi T5 904 117 = Xi S 904 117 := (show Xi T5 904 117 = Xi S 904 117 from w156.x _ _ rfl)
            have w196 : 0 ≤ Xi S 904 117 ∧ Xi S 904 117 ≤ 480 := hH.c _ _
            have w197 : Xi T5 904 69 = Xi S 904 69 := (show Xi T5 904 69 = Xi S 904 69 from w156.x _ _ rfl)
            have w198 : 0 ≤ Xi S 904 69 ∧ Xi S 904 69 ≤ 2600 := hH.c _ _
            have w199 : Xi T5 904 78 = Xi S 904 78 := (show Xi T5 904 78 = Xi S 904 78 from w156.x _ _ rfl)
            have w200 : -2 ≤ Xi S 904 78 ∧ Xi S 904 78 ≤ 5010 := hH.c _ _
            exact Rl_weak (C83 T5 hHT5 hFT5 (z79) (0) (by omega) (by omega) (by omega) (by omega) (by omega) (by omega) (by omega) (by omega) (by omega) (KQ_FR (by assumption : FR md_mo_need S T5) rfl KQ.rf)) (And.intro rfl (And.intro rfl (And.intro rfl (True.intro))))
          · refine l_iconst rfl ?_
            refine l_goto rfl rfl ?_
            refine l_istore rfl rfl rfl ?_
            have w201 : 0 ≤ Xi T5 904 106 ∧ Xi T5 904 106 ≤ 9 := hHT5.c _ _
            have w202 : Xi T5 904 108 = Xi S 904 108 := (show Xi T5 904 108 = Xi S 904 108 from w156.x _ _ rfl)
            have w203 : 0 ≤ Xi S 904 108 ∧ Xi S 904 108 ≤ 2600 := hH.c _ _
            have w204 : Xi T5 904 117 = Xi S 904 117 := (show Xi T5 904 117 = Xi S 904 117 from w156.x _ _ rfl)
            have w205 : 0 ≤ Xi S 904 117 ∧ Xi S 904 117 ≤ 480 := hH.c _ _
            have w206 : Xi T5 904 69 = Xi S 904 69 := (show Xi T5 904 69 = Xi S 904 69 from w156.x _ _ rfl)
            have w207 : 0 ≤ Xi S 904 69 ∧ Xi S 904 69 ≤ 2600 := hH.c _ _
            have w208 : Xi T5 904 78 = Xi S 904 78 := (show Xi T5 904 78 = Xi S 904 78 from w156.x _ _ rfl)
            have w209 : -2 ≤ Xi S 904 78 ∧ Xi S 904 78 ≤ 5010 := hH.c _ _
            exact Rl_weak (C83 T5 hHT5 hFT5 (z79) (1) (by omega) (by omega) (by omega) (by omega) (by omega) (by omega) (by omega) (by omega) (by omega) (KQ_FR (by assumption : FR md_mo_need S T5) rfl KQ.rf)) (And.intro rfl (And.intro rfl (And.intro rfl (True.intro))))
  refine l_aload_n rfl rfl ?_
  refine l_iconst rfl ?_
  refine l_iconst rfl ?_
  have w210 : 0 ≤ Xi S 904 106 ∧ Xi S 904 106 ≤ 9 := hH.c _ _
  have w211 : 0 ≤ Xi S 904 108 ∧ Xi S 904 108 ≤ 2600 := hH.c _ _
  have w212 : 0 ≤ Xi S 904 117 ∧ Xi S 904 117 ≤ 480 := hH.c _ _
  have w213 : 0 ≤ Xi S 904 69 ∧ Xi S 904 69 ≤ 2600 := hH.c _ _
  have w214 : -2 ≤ Xi S 904 78 ∧ Xi S 904 78 ≤ 5010 := hH.c _ _
  refine l_callV rfl rfl rfl (t_mo_meansRun__2 hH n 1 4 ⟨by omega, by omega⟩ ⟨by omega, by omega⟩ (by first | assumption | exact (TK_FR hF rfl (by assumption : TK S _))) (by first | assumption | exact (RNV_FR hF rfl (by assumption : RNV S _))) (by first | assumption | omega) (by first | assumption | exact (LXM_FR hF rfl (by assumption : LXM S))) _) ?_
  rintro _ _ ⟨rfl, z217, rfl, w217, w215, w216⟩
  show Rl _ _ _ _ _ [iv z217] _ _
  have x3 : z217 ≠ -1 → z217 < Xi S 904 19 := fun q => by have t := (by assumption : z217 ≠ -1 → z217 < cM S 4) q; rw [cM4] at t; exact t
  have r3 : z217 = rnR S 1 4 := (by assumption : z217 = rnR S _ _).trans (rnR_FR hF rfl rfl)
  refine l_istore_n rfl rfl rfl ?_
  refine l_iload_n rfl rfl ?_
  refine l_iconst rfl ?_
  refine l_icmp_eq rfl rfl (by unfold rg; omega) (by unfold rg; omega) (fun w218 => ?_) (fun w219 => ?_)
  · refine l_aload_n rfl rfl ?_
    refine l_iconst rfl ?_
    refine l_iconst rfl ?_
    have w220 : 0 ≤ Xi S 904 106 ∧ Xi S 904 106 ≤ 9 := hH.c _ _
    have w221 : 0 ≤ Xi S 904 108 ∧ Xi S 904 108 ≤ 2600 := hH.c _ _
    have w222 : 0 ≤ Xi S 904 117 ∧ Xi S 904 117 ≤ 480 := hH.c _ _
    have w223 : 0 ≤ Xi S 904 69 ∧ Xi S 904 69 ≤ 2600 := hH.c _ _
    have w224 : -2 ≤ Xi S 904 78 ∧ Xi S 904 78 ≤ 5010 := hH.c _ _
    refine l_callV rfl rfl rfl (t_mo_meansRun__2 hH n 1 0 ⟨by omega, by omega⟩ ⟨by omega, by omega⟩ (by first | assumption | exact (TK_FR hF rfl (by assumption : TK S _))) (by first | assumption | exact (RNV_FR hF rfl (by assumption : RNV S _))) (by first | assumption | omega) (by first | assumption | exact (LXM_FR hF rfl (by assumption : LXM S))) _) ?_
    rintro _ _ ⟨rfl, z227, rfl, w227, w225, w226⟩
    show Rl _ _ _ _ _ [iv z227] _ _
    have x24 : z227 ≠ -1 → z227 < Xi S 904 16 := fun q => by have t := (by assumption : z227 ≠ -1 → z227 < cM S 0) q; rw [cM0] at t; exact t
    have r24 : z227 = rnR S 1 0 := (by assumption : z227 = rnR S _ _).trans (rnR_FR hF rfl rfl)
    refine l_istore_n rfl rfl rfl ?_
    have w228 : 0 ≤ Xi S 904 106 ∧ Xi S 904 106 ≤ 9 := hH.c _ _
    have w229 : 0 ≤ Xi S 904 108 ∧ Xi S 904 108 ≤ 2600 := hH.c _ _
    have w230 : 0 ≤ Xi S 904 117 ∧ Xi S 904 117 ≤ 480 := hH.c _ _
    have w231 : 0 ≤ Xi S 904 69 ∧ Xi S 904 69 ≤ 2600 := hH.c _ _
    have w232 : -2 ≤ Xi S 904 78 ∧ Xi S 904 78 ≤ 5010 := hH.c _ _
    exact Rl_weak (C28 (z227) (by omega) (by omega)) (And.intro rfl (And.intro rfl (True.intro)))
  · refine l_aload_n rfl rfl ?_
    refine l_gfr rfl rfl rfl rfl rfl (hH.r 904 20 918 rfl) ?_
    refine l_iload_n rfl rfl ?_
    refine l_iaload (n := 24) rfl rfl (by omega) (by omega) (by unfold rg; omega) ?_
    have w233 : 0 ≤ (Xi S 918 ((z217).toNat)) ∧ (Xi S 918 ((z217).toNat)) ≤ 15 := hH.c _ _
    refine l_goto rfl rfl ?_
    refine l_istore_n rfl rfl rfl ?_
    have w234 : 0 ≤ Xi S 904 106 ∧ Xi S 904 106 ≤ 9 := hH.c _ _
    have w235 : 0 ≤ Xi S 904 108 ∧ Xi S 904 108 ≤ 2600 := hH.c _ _
    have w236 : 0 ≤ Xi S 904 117 ∧ Xi S 904 117 ≤ 480 := hH.c _ _
    have w237 : 0 ≤ Xi S 904 69 ∧ Xi S 904 69 ≤ 2600 := hH.c _ _
    have w238 : -2 ≤ Xi S 904 78 ∧ Xi S 904 78 ≤ 5010 := hH.c _ _
    exact Rl_weak (C28 ((Xi S 918 ((z217).toNat))) (by omega) (by omega)) (And.intro rfl (And.intro rfl (True.intro)))
