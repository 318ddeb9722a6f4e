/-! SAFETY of methods: printed by wip/safe (vc.py, decl.py) -/
def md_mo_askProperty : List rec := [(904, 905, 104, 105), (904, 905, 105, 106), (904, 905, 106, 107), (973, 974, 0, 100000), (974, 975, 0, 100000)]
abbrev Q_mo_askProperty (S : sS) (n : Nat) : pst := fun r S1 => HI S1 ∧ FR md_mo_askProperty S S1 ∧ (r = none ∧ (Xi S1 904 106 = 0 → rnR S 0 7 ≠ -1 ∧ (rnR S 1 4 ≠ -1 ∨ rnR S 1 0 ≠ -1) ∧ OKT (Xi S1 973 (Xi S 904 117).toNat) (Xi S1 974 (Xi S 904 117).toNat)) ∧ (KQ S1 S (Xi S 904 117)))
set_option maxRecDepth 100000 in
theorem t_mo_askProperty {S : sS} (hH : HI S) (n : Nat) (hT : TK S n) (hv : RNV S n) (hM : LXM S) (hB : ABV S) (hX : TXM S) (hK : TXK S n) (h2 : 2 ≤ Xi S 904 69) (hw : 0 ≤ Xi S 904 78 ∧ Xi S 904 78 ≤ n) (hw2 : Xi S 907 (Xi S 904 78).toNat ≠ 4 → Xi S 907 (Xi S 904 78).toNat ≠ 5 → 3 ≤ Xi S 904 69) (d : Nat) : Mt lay0 (d + 6) m_mo_askProperty [.ref 904] S (Q_mo_askProperty S n) := by
  refine Mt_R rfl rfl ?_
  have hF : FR md_mo_askProperty S S := FR.rf
  have w1 : 0 ≤ Xi S 904 106 ∧ Xi S 904 106 ≤ 9 := hH.c _ _
  have w2 : 0 ≤ Xi S 904 117 ∧ Xi S 904 117 ≤ 480 := hH.c _ _
  have w3 : 0 ≤ Xi S 904 32 ∧ Xi S 904 32 ≤ 12 := hH.c _ _
  have w4 : 0 ≤ Xi S 904 69 ∧ Xi S 904 69 ≤ 2600 := hH.c _ _
  have w5 : -2 ≤ Xi S 904 78 ∧ Xi S 904 78 ≤ 5010 := hH.c _ _
  have hn5 := hT.1
  have hc69 : 0 ≤ Xi S 904 69 ∧ Xi S 904 69 ≤ 2600 := hH.c _ _
  have q0 := hv 0 (by omega)
  have q1 := hv 1 (by omega)
  have g0 : 0 ≤ Xi S 950 0 ∧ Xi S 950 0 ≤ 5010 := hH.c 950 0
  have g1 : 0 ≤ Xi S 950 1 ∧ Xi S 950 1 ≤ 5010 := hH.c 950 1
  have hc32 : 0 ≤ Xi S 904 32 ∧ Xi S 904 32 ≤ 12 := hH.c _ _
  have hc16 : 0 ≤ Xi S 904 16 ∧ Xi S 904 16 ≤ 16 := hH.c _ _
  have hc19 : 0 ≤ Xi S 904 19 ∧ Xi S 904 19 ≤ 24 := hH.c _ _
  have C28 : ∀  (v2 : Int), (-1 ≤ v2 ∧ v2 ≤ 15) → (rnR S 1 4 ≠ -1 ∨ v2 = rnR S 1 0) → Rl lay0 (d + 5) m_mo_askProperty 28 [(0, .ref 904), (2, iv v2)] [] S (Q_mo_askProperty S n) := by
    intro v2 w6 w7
    have C83 : ∀  (T1 : sS) (_ : HI T1) (_ : FR md_mo_askProperty S T1) (v3 : Int) (v4 : Int), (-1 ≤ v3 ∧ v3 ≤ 11) → (0 ≤ v4 ∧ v4 ≤ 1) → (Xi T1 904 78 = Xi S 904 78) → (Xi T1 904 117 = Xi S 904 117) → (Xi T1 904 69 = Xi S 904 69) → (v3 = rnR S 0 7) → (v3 ≠ -1 → v3 < Xi S 904 32) → (Xi T1 904 106 = 0 → rnR S 1 4 ≠ -1 ∨ rnR S 1 0 ≠ -1) → (v4 = 1 → v3 ≠ -1) → (KQ T1 S (Xi S 904 117)) → Rl lay0 (d + 5) m_mo_askProperty 83 [(0, .ref 904), (3, iv v3), (4, iv v4)] [] T1 (Q_mo_askProperty S n) := by
      intro T1 hHT1 hFT1 v3 v4 w8 w9 w10 w11 w12 w13 w14 w15 w16 K83
      have w17 : Xi T1 904 117 = Xi S 904 117 := hFT1.x _ _ rfl
      have w18 : Xi T1 904 32 = Xi S 904 32 := hFT1.x _ _ rfl
      have w19 : Xi T1 904 69 = Xi S 904 69 := hFT1.x _ _ rfl
      have w20 : Xi T1 904 78 = Xi S 904 78 := hFT1.x _ _ rfl
      have w21 : 0 ≤ Xi T1 904 106 ∧ Xi T1 904 106 ≤ 9 := hHT1.c _ _
      have w22 : 0 ≤ Xi T1 904 117 ∧ Xi T1 904 117 ≤ 480 := hHT1.c _ _
      have w23 : 0 ≤ Xi T1 904 69 ∧ Xi T1 904 69 ≤ 2600 := hHT1.c _ _
      have w24 : -2 ≤ Xi T1 904 78 ∧ Xi T1 904 78 ≤ 5010 := hHT1.c _ _
      refine l_aload_n rfl rfl ?_
      refine l_iload rfl rfl ?_
      refine l_iconst rfl ?_
      refine l_aload_n rfl rfl ?_
      refine l_gfr rfl rfl rfl rfl rfl (hHT1.r 904 67 950 rfl) ?_
      refine l_iconst rfl ?_
      refine l_iaload (n := 2600) rfl rfl (by omega) (by omega) (by unfold rg; omega) ?_
      have w25 : 0 ≤ (Xi T1 950 ((0 : Int).toNat)) ∧ (Xi T1 950 ((0 : Int).toNat)) ≤ 5010 := hHT1.c _ _
      have w26 : (Xi T1 950 ((0 : Int).toNat)) = Xi T1 950 0 := rfl
      have e92 : (Xi T1 950 ((0 : Int).toNat)) = Xi S 950 0 := by first | rfl | exact (hFT1.cx 950 rfl _).1
      have w27 : 0 ≤ Xi T1 904 106 ∧ Xi T1 904 106 ≤ 9 := hHT1.c _ _
      have w28 : 0 ≤ Xi T1 904 108 ∧ Xi T1 904 108 ≤ 2600 := hHT1.c _ _
      have w29 : 0 ≤ Xi T1 904 117 ∧ Xi T1 904 117 ≤ 480 := hHT1.c _ _
      have w30 : 0 ≤ Xi T1 904 69 ∧ Xi T1 904 69 ≤ 2600 := hHT1.c _ _
      have w31 : -2 ≤ Xi T1 904 78 ∧ Xi T1 904 78 ≤ 5010 := hHT1.c _ _
      refine l_callV rfl rfl rfl (t_mo_need hHT1 v4 4 (Xi T1 950 ((0 : Int).toNat)) ⟨by omega, by omega⟩ ⟨by omega, by omega⟩ ⟨by omega, by omega⟩ _) ?_
      rintro _ T2 ⟨hHT2, w35, rfl, w32, w33⟩
      have hFT2 : FR md_mo_askProperty S T2 := FR.tr hFT1 w35 rfl
      show Rl _ _ _ _ _ [] _ _
      have K93 : KQ T2 S (Xi S 904 117) := KQ_FR (by assumption : FR md_mo_need T1 T2) rfl K83
      refine l_iload_n rfl rfl ?_
      refine l_iconst rfl ?_
      refine l_icmp_eq rfl rfl (by unfold rg; omega) (by unfold rg; omega) (fun w36 => ?_) (fun w37 => ?_)
      · refine l_return rfl rfl ?_
        have w38 : 0 ≤ Xi T2 904 106 ∧ Xi T2 904 106 ≤ 9 := hHT2.c _ _
        have w39 : Xi T2 904 108 = Xi T1 904 108 := (show Xi T2 904 108 = Xi T1 904 108 from w35.x _ _ rfl)
        have w40 : 0 ≤ Xi T1 904 108 ∧ Xi T1 904 108 ≤ 2600 := hHT1.c _ _
        have w41 : Xi T2 904 117 = Xi T1 904 117 := (show Xi T2 904 117 = Xi T1 904 117 from w35.x _ _ rfl)
        have w42 : 0 ≤ Xi T1 904 117 ∧ Xi T1 904 117 ≤ 480 := hHT1.c _ _
        have w43 : Xi T2 904 69 = Xi T1 904 69 := (show Xi T2 904 69 = Xi T1 904 69 from w35.x _ _ rfl)
        have w44 : 0 ≤ Xi T1 904 69 ∧ Xi T1 904 69 ≤ 2600 := hHT1.c _ _
        have w45 : Xi T2 904 78 = Xi T1 904 78 := (show Xi T2 904 78 = Xi T1 904 78 from w35.x _ _ rfl)
        have w46 : -2 ≤ Xi T1 904 78 ∧ Xi T1 904 78 ≤ 5010 := hHT1.c _ _
        exact ⟨hHT2, hFT2, rfl, (fun q => (by first | (refine ⟨by omega, by omega, ?_⟩; rw [show (Xi S 904 117).toNat = (Xi T1 904 117).toNat by omega]; exact o117) | (exfalso; omega))), (by first | exact KQ.tr K93 (by rw [show Xi S 904 117 = Xi T1 904 117 by omega]; assumption) | exact K93)⟩
      · refine l_aload_n rfl rfl ?_
        refine l_aload_n rfl rfl ?_
        refine l_gfi rfl rfl rfl rfl rfl ?_
        have w47 : (Xi T2 904 78) = (Xi T1 904 78) := (show Xi T2 904 78 = Xi T1 904 78 from w35.x _ _ rfl)
        rw [w47]
        refine l_iconst rfl ?_
        refine l_aload_n rfl rfl ?_
        refine l_gfr rfl rfl rfl rfl rfl (hHT2.r 904 33 928 rfl) ?_
        refine l_iload_n rfl rfl ?_
        refine l_iaload (n := 12) rfl rfl (by omega) (by omega) (by unfold rg; omega) ?_
        have w48 : 0 ≤ (Xi T2 928 ((v3).toNat)) ∧ (Xi T2 928 ((v3).toNat)) ≤ 7 := hHT2.c _ _
        have e112 : (Xi T2 928 ((v3).toNat)) = Xi S 928 (v3).toNat := by first | rfl | exact (hFT2.cx 928 rfl _).1
        refine l_aload_n rfl rfl ?_
        refine l_gfi rfl rfl rfl rfl rfl ?_
        have w49 : (Xi T2 904 117) = (Xi T1 904 117) := (show Xi T2 904 117 = Xi T1 904 117 from w35.x _ _ rfl)
        rw [w49]
        have w50 : 0 ≤ Xi T2 904 106 ∧ Xi T2 904 106 ≤ 9 := hHT2.c _ _
        have w51 : Xi T2 904 108 = Xi T1 904 108 := (show Xi T2 904 108 = Xi T1 904 108 from w35.x _ _ rfl)
        have w52 : 0 ≤ Xi T1 904 108 ∧ Xi T1 904 108 ≤ 2600 := hHT1.c _ _
        have w53 : Xi T2 904 117 = Xi T1 904 117 := (show Xi T2 904 117 = Xi T1 904 117 from w35.x _ _ rfl)
        have w54 : 0 ≤ Xi T1 904 117 ∧ Xi T1 904 117 ≤ 480 := hHT1.c _ _
        have w55 : Xi T2 904 69 = Xi T1 904 69 := (show Xi T2 904 69 = Xi T1 904 69 from w35.x _ _ rfl)
        have w56 : 0 ≤ Xi T1 904 69 ∧ Xi T1 904 69 ≤ 2600 := hHT1.c _ _
        have w57 : Xi T2 904 78 = Xi T1 904 78 := (show Xi T2 904 78 = Xi T1 904 78 from w35.x _ _ rfl)
        have w58 : -2 ≤ Xi T1 904 78 ∧ Xi T1 904 78 ≤ 5010 := hHT1.c _ _
        refine l_callV rfl rfl rfl (t_mo_whatMeant hHT2 n (Xi T1 904 78) 2 (Xi T2 928 ((v3).toNat)) (Xi T1 904 117) ⟨by omega, by omega⟩ ⟨by omega, by omega⟩ ⟨by omega, by omega⟩ ⟨by omega, by omega⟩ (by first | assumption | exact (TK_FR hFT2 rfl (by assumption : TK S _))) (by first | assumption | exact (RNV_FR hFT2 rfl (by assumption : RNV S _))) (by first | assumption | exact (LXM_FR hFT2 rfl (by assumption : LXM S))) (by first | assumption | exact (TXK_FR hFT2 rfl (by assumption : TXK S _))) (by first | assumption | omega) (fun a b => by rw [(hFT2.cx 907 rfl _).1, show Xi T1 904 78 = Xi S 904 78 by omega] at a b; have t := hw2 a b; omega) _) ?_
        rintro _ T3 ⟨hHT3, w62, rfl, w59, o117, w60⟩
        have hFT3 : FR md_mo_askProperty S T3 := FR.tr hFT2 w62 rfl
        show Rl _ _ _ _ _ [] _ _
        refine l_return rfl rfl ?_
        have w63 : 0 ≤ Xi T3 904 106 ∧ Xi T3 904 106 ≤ 9 := hHT3.c _ _
        have w64 : Xi T3 904 108 = Xi T1 904 108 := (show Xi T3 904 108 = Xi T2 904 108 from w62.x _ _ rfl).trans ((show Xi T2 904 108 = Xi T1 904 108 from w35.x _ _ rfl))
        have w65 : 0 ≤ Xi T1 904 108 ∧ Xi T1 904 108 ≤ 2600 := hHT1.c _ _
        have w66 : Xi T3 904 117 = Xi T1 904 117 := (show Xi T3 904 117 = Xi T2 904 117 from w62.x _ _ rfl).trans ((show Xi T2 904 117 = Xi T1 904 117 from w35.x _ _ rfl))
        have w67 : 0 ≤ Xi T1 904 117 ∧ Xi T1 904 117 ≤ 480 := hHT1.c _ _
        have w68 : Xi T3 904 69 = Xi T1 904 69 := (show Xi T3 904 69 = Xi T2 904 69 from w62.x _ _ rfl).trans ((show Xi T2 904 69 = Xi T1 904 69 from w35.x _ _ rfl))
        have w69 : 0 ≤ Xi T1 904 69 ∧ Xi T1 904 69 ≤ 2600 := hHT1.c _ _
        have w70 : Xi T3 904 78 = Xi T1 904 78 := (show Xi T3 904 78 = Xi T2 904 78 from w62.x _ _ rfl).trans ((show Xi T2 904 78 = Xi T1 904 78 from w35.x _ _ rfl))
        have w71 : -2 ≤ Xi T1 904 78 ∧ Xi T1 904 78 ≤ 5010 := hHT1.c _ _
        exact ⟨hHT3, hFT3, rfl, (fun q => (by first | (refine ⟨by omega, by omega, ?_⟩; rw [show (Xi S 904 117).toNat = (Xi T1 904 117).toNat by omega]; exact o117) | (exfalso; omega))), (by first | exact KQ.tr K93 (by rw [show Xi S 904 117 = Xi T1 904 117 by omega]; assumption) | exact K93)⟩
    refine l_aload_n rfl rfl ?_
    refine l_iconst rfl ?_
    refine l_bipush rfl rfl ?_
    have w72 : 0 ≤ Xi S 904 106 ∧ Xi S 904 106 ≤ 9 := hH.c _ _
    have w73 : 0 ≤ Xi S 904 108 ∧ Xi S 904 108 ≤ 2600 := hH.c _ _
    have w74 : 0 ≤ Xi S 904 117 ∧ Xi S 904 117 ≤ 480 := hH.c _ _
    have w75 : 0 ≤ Xi S 904 69 ∧ Xi S 904 69 ≤ 2600 := hH.c _ _
    have w76 : -2 ≤ Xi S 904 78 ∧ Xi S 904 78 ≤ 5010 := hH.c _ _
    refine l_callV rfl rfl rfl (t_mo_meansRun__2 hH n 0 7 ⟨by omega, by omega⟩ ⟨by omega, by omega⟩ (by first | assumption | exact (TK_FR hF rfl (by assumption : TK S _))) (by first | assumption | exact (RNV_FR hF rfl (by assumption : RNV S _))) (by first | assumption | omega) (by first | assumption | exact (LXM_FR hF rfl (by assumption : LXM S))) _) ?_
    rintro _ _ ⟨rfl, z79, rfl, w79, w77, w78⟩
    show Rl _ _ _ _ _ [iv z79] _ _
    have x32 : z79 ≠ -1 → z79 < Xi S 904 32 := fun q => by have t := (by assumption : z79 ≠ -1 → z79 < cM S 7) q; rw [cM7] at t; exact t
    have r32 : z79 = rnR S 0 7 := (by assumption : z79 = rnR S _ _).trans (rnR_FR hF rfl rfl)
    refine l_istore_n rfl rfl rfl ?_
    refine l_aload_n rfl rfl ?_
    refine l_iload_n rfl rfl ?_
    refine l_iconst rfl ?_
    refine l_icmp_eq rfl rfl (by unfold rg; omega) (by unfold rg; omega) (fun w80 => ?_) (fun w81 => ?_)
    · refine l_iconst rfl ?_
      refine l_iconst rfl ?_
      refine l_aload_n rfl rfl ?_
      refine l_gfr rfl rfl rfl rfl rfl (hH.r 904 67 950 rfl) ?_
      refine l_iconst rfl ?_
      refine l_iaload (n := 2600) rfl rfl (by omega) (by omega) (by unfold rg; omega) ?_
      have w82 : 0 ≤ (Xi S 950 ((1 : Int).toNat)) ∧ (Xi S 950 ((1 : Int).toNat)) ≤ 5010 := hH.c _ _
      have w83 : (Xi S 950 ((1 : Int).toNat)) = Xi S 950 1 := rfl
      have w84 : 0 ≤ Xi S 904 106 ∧ Xi S 904 106 ≤ 9 := hH.c _ _
      have w85 : 0 ≤ Xi S 904 108 ∧ Xi S 904 108 ≤ 2600 := hH.c _ _
      have w86 : 0 ≤ Xi S 904 117 ∧ Xi S 904 117 ≤ 480 := hH.c _ _
      have w87 : 0 ≤ Xi S 904 69 ∧ Xi S 904 69 ≤ 2600 := hH.c _ _
      have w88 : -2 ≤ Xi S 904 78 ∧ Xi S 904 78 ≤ 5010 := hH.c _ _
      refine l_callV rfl rfl rfl (t_mo_need hH 0 4 (Xi S 950 ((1 : Int).toNat)) ⟨by omega, by omega⟩ ⟨by omega, by omega⟩ ⟨by omega, by omega⟩ _) ?_
      rintro _ T4 ⟨hHT4, w92, rfl, w89, w90⟩
      have hFT4 : FR md_mo_askProperty S T4 := FR.tr hF w92 rfl
      show Rl _ _ _ _ _ [] _ _
      refine l_iload_n rfl rfl ?_
      refine l_iconst rfl ?_
      refine l_icmp_eq rfl rfl (by unfold rg; omega) (by unfold rg; omega) (fun w93 => ?_) (fun w94 => ?_)
      · refine l_iconst rfl ?_
        refine l_istore rfl rfl rfl ?_
        have w95 : 0 ≤ Xi T4 904 106 ∧ Xi T4 904 106 ≤ 9 := hHT4.c _ _
        have w96 : Xi T4 904 108 = Xi S 904 108 := (show Xi T4 904 108 = Xi S 904 108 from w92.x _ _ rfl)
        have w97 : 0 ≤ Xi S 904 108 ∧ Xi S 904 108 ≤ 2600 := hH.c _ _
        have w98 : Xi T4 904 117 = Xi S 904 117 := (show Xi T4 904 117 = Xi S 904 117 from w92.x _ _ rfl)
        have w99 : 0 ≤ Xi S 904 117 ∧ Xi S 904 117 ≤ 480 := hH.c _ _
        have w100 : Xi T4 904 69 = Xi S 904 69 := (show Xi T4 904 69 = Xi S 904 69 from w92.x _ _ rfl)
        have w101 : 0 ≤ Xi S 904 69 ∧ Xi S 904 69 ≤ 2600 := hH.c _ _
        have w102 : Xi T4 904 78 = Xi S 904 78 := (show Xi T4 904 78 = Xi S 904 78 from w92.x _ _ rfl)
        have w103 : -2 ≤ Xi S 904 78 ∧ Xi S 904 78 ≤ 5010 := hH.c _ _
        exact Rl_weak (C83 T4 hHT4 hFT4 (z79) (0) (by omega) (by omega) (by omega) (by omega) (by omega) (by omega) (by omega) (by omega) (by omega) (KQ_FR (by assumption : FR md_mo_need S T4) rfl KQ.rf)) (And.intro rfl (And.intro rfl (And.intro rfl (True.intro))))
      · refine l_iload_n rfl rfl ?_
        refine l_iconst rfl ?_
        refine l_icmp_eq rfl rfl (by unfold rg; omega) (by unfold rg; omega) (fun w104 => ?_) (fun w105 => ?_)
        · refine l_iconst rfl ?_
          refine l_goto rfl rfl ?_
          refine l_istore rfl rfl rfl ?_
          have w106 : 0 ≤ Xi T4 904 106 ∧ Xi T4 904 106 ≤ 9 := hHT4.c _ _
          have w107 : Xi T4 904 108 = Xi S 904 108 := (show Xi T4 904 108 = Xi S 904 108 from w92.x _ _ rfl)
          have w108 : 0 ≤ Xi S 904 108 ∧ Xi S 904 108 ≤ 2600 := hH.c _ _
          have w109 : Xi T4 904 117 = Xi S 904 117 := (show Xi T4 904 117 = Xi S 904 117 from w92.x _ _ rfl)
          have w110 : 0 ≤ Xi S 904 117 ∧ Xi S 904 117 ≤ 480 := hH.c _ _
          have w111 : Xi T4 904 69 = Xi S 904 69 := (show Xi T4 904 69 = Xi S 904 69 from w92.x _ _ rfl)
          have w112 : 0 ≤ Xi S 904 69 ∧ Xi S 904 69 ≤ 2600 := hH.c _ _
          have w113 : Xi T4 904 78 = Xi S 904 78 := (show Xi T4 904 78 = Xi S 904 78 from w92.x _ _ rfl)
          have w114 : -2 ≤ Xi S 904 78 ∧ Xi S 904 78 ≤ 5010 := hH.c _ _
          exact Rl_weak (C83 T4 hHT4 hFT4 (z79) (1) (by omega) (by omega) (by omega) (by omega) (by omega) (by omega) (by omega) (by omega) (by omega) (KQ_FR (by assumption : FR md_mo_need S T4) rfl KQ.rf)) (And.intro rfl (And.intro rfl (And.intro rfl (True.intro))))
        · refine l_aload_n rfl rfl ?_
          refine l_iload_n rfl rfl ?_
          refine l_iload_n rfl rfl ?_
          have w115 : 0 ≤ Xi T4 904 106 ∧ Xi T4 904 106 ≤ 9 := hHT4.c _ _
          have w116 : Xi T4 904 108 = Xi S 904 108 := (show Xi T4 904 108 = Xi S 904 108 from w92.x _ _ rfl)
          have w117 : 0 ≤ Xi S 904 108 ∧ Xi S 904 108 ≤ 2600 := hH.c _ _
          have w118 : Xi T4 904 117 = Xi S 904 117 := (show Xi T4 904 117 = Xi S 904 117 from w92.x _ _ rfl)
          have w119 : 0 ≤ Xi S 904 117 ∧ Xi S 904 117 ≤ 480 := hH.c _ _
          have w120 : Xi T4 904 69 = Xi S 904 69 := (show Xi T4 904 69 = Xi S 904 69 from w92.x _ _ rfl)
          have w121 : 0 ≤ Xi S 904 69 ∧ Xi S 904 69 ≤ 2600 := hH.c _ _
          have w122 : Xi T4 904 78 = Xi S 904 78 := (show Xi T4 904 78 = Xi S 904 78 from w92.x _ _ rfl)
          have w123 : -2 ≤ Xi S 904 78 ∧ Xi S 904 78 ≤ 5010 := hH.c _ _
          refine l_callV rfl rfl rfl (t_mo_has hHT4 v2 z79 ⟨by omega, by omega⟩ ⟨by omega, by omega⟩ (by first | assumption | exact (ABV_FR hFT4 rfl (by assumption : ABV S))) _) ?_
          rintro _ _ ⟨rfl, z125, rfl, w125, w124⟩
          show Rl _ _ _ _ _ [iv z125] _ _
          refine l_if_eq rfl rfl (by unfold rg; omega) (fun w126 => ?_) (fun w127 => ?_)
          · refine l_iconst rfl ?_
            refine l_istore rfl rfl rfl ?_
            have w128 : 0 ≤ Xi T4 904 106 ∧ Xi T4 904 106 ≤ 9 := hHT4.c _ _
            have w129 : Xi T4 904 108 = Xi S 904 108 := (show Xi T4 904 108 = Xi S 904 108 from w92.x _ _ rfl)
            have w130 : 0 ≤ Xi S 904 108 ∧ Xi S 904 108 ≤ 2600 := hH.c _ _
            have w131 : Xi T4 904 117 = Xi S 904 117 := (show Xi T4 904 117 = Xi S 904 117 from w92.x _ _ rfl)
            have w132 : 0 ≤ Xi S 904 117 ∧ Xi S 904 117 ≤ 480 := hH.c _ _
            have w133 : Xi T4 904 69 = Xi S 904 69 := (show Xi T4 904 69 = Xi S 904 69 from w92.x _ _ rfl)
            have w134 : 0 ≤ Xi S 904 69 ∧ Xi S 904 69 ≤ 2600 := hH.c _ _
            have w135 : Xi T4 904 78 = Xi S 904 78 := (show Xi T4 904 78 = Xi S 904 78 from w92.x _ _ rfl)
            have w136 : -2 ≤ Xi S 904 78 ∧ Xi S 904 78 ≤ 5010 := hH.c _ _
            exact Rl_weak (C83 T4 hHT4 hFT4 (z79) (0) (by omega) (by omega) (by omega) (by omega) (by omega) (by omega) (by omega) (by omega) (by omega) (KQ_FR (by assumption : FR md_mo_need S T4) rfl KQ.rf)) (And.intro rfl (And.intro rfl (And.intro rfl (True.intro))))
          · refine l_iconst rfl ?_
            refine l_goto rfl rfl ?_
            refine l_istore rfl rfl rfl ?_
            have w137 : 0 ≤ Xi T4 904 106 ∧ Xi T4 904 106 ≤ 9 := hHT4.c _ _
            have w138 : Xi T4 904 108 = Xi S 904 108 := (show Xi T4 904 108 = Xi S 904 108 from w92.x _ _ rfl)
            have w139 : 0 ≤ Xi S 904 108 ∧ Xi S 904 108 ≤ 2600 := hH.c _ _
            have w140 : Xi T4 904 117 = Xi S 904 117 := (show Xi T4 904 117 = Xi S 904 117 from w92.x _ _ rfl)
            have w141 : 0 ≤ Xi S 904 117 ∧ Xi S 904 117 ≤ 480 := hH.c _ _
            have w142 : Xi T4 904 69 = Xi S 904 69 := (show Xi T4 904 69 = Xi S 904 69 from w92.x _ _ rfl)
            have w143 : 0 ≤ Xi S 904 69 ∧ Xi S 904 69 ≤ 2600 := hH.c _ _
            have w144 : Xi T4 904 78 = Xi S 904 78 := (show Xi T4 904 78 = Xi S 904 78 from w92.x _ _ rfl)
            have w145 : -2 ≤ Xi S 904 78 ∧ Xi S 904 78 ≤ 5010 := hH.c _ _
            exact Rl_weak (C83 T4 hHT4 hFT4 (z79) (1) (by omega) (by omega) (by omega) (by omega) (by omega) (by omega) (by omega) (by omega) (by omega) (KQ_FR (by assumption : FR md_mo_need S T4) rfl KQ.rf)) (And.intro rfl (And.intro rfl (And.intro rfl (True.intro))))
    · refine l_iconst rfl ?_
      refine l_goto rfl rfl ?_
      refine l_iconst rfl ?_
      refine l_aload_n rfl rfl ?_
      refine l_gfr rfl rfl rfl rfl rfl (hH.r 904 67 950 rfl) ?_
      refine l_iconst rfl ?_
      refine l_iaload (n := 2600) rfl rfl (by omega) (by omega) (by unfold rg; omega) ?_
      have w146 : 0 ≤ (Xi S 950 ((1 : Int).toNat)) ∧ (Xi S 950 ((1 : Int).toNat)) ≤ 5010 := hH.c _ _
      have w147 : (Xi S 950 ((1 : Int).toNat)) = Xi S 950 1 := rfl
      have w148 : 0 ≤ Xi S 904 106 ∧ Xi S 904 106 ≤ 9 := hH.c _ _
      have w149 : 0 ≤ Xi S 904 108 ∧ Xi S 904 108 ≤ 2600 := hH.c _ _
      have w150 : 0 ≤ Xi S 904 117 ∧ Xi S 904 117 ≤ 480 := hH.c _ _
      have w151 : 0 ≤ Xi S 904 69 ∧ Xi S 904 69 ≤ 2600 := hH.c _ _
      have w152 : -2 ≤ Xi S 904 78 ∧ Xi S 904 78 ≤ 5010 := hH.c _ _
      refine l_callV rfl rfl rfl (t_mo_need hH 1 4 (Xi S 950 ((1 : Int).toNat)) ⟨by omega, by omega⟩ ⟨by omega, by omega⟩ ⟨by omega, by omega⟩ _) ?_
      rintro _ T5 ⟨hHT5, w156, rfl, w153, w154⟩
      have hFT5 : FR md_mo_askProperty S T5 := FR.tr hF w156 rfl
      show Rl _ _ _ _ _ [] _ _
      refine l_iload_n rfl rfl ?_
      refine l_iconst rfl ?_
      refine l_icmp_eq rfl rfl (by unfold rg; omega) (by unfold rg; omega) (fun w157 => ?_) (fun w158 => ?_)
      · refine l_iconst rfl ?_
        refine l_istore rfl rfl rfl ?_
        have w159 : 0 ≤ Xi T5 904 106 ∧ Xi T5 904 106 ≤ 9 := hHT5.c _ _
        have w160 : Xi T5 904 108 = Xi S 904 108 := (show Xi T5 904 108 = Xi S 904 108 from w156.x _ _ rfl)
        have w161 : 0 ≤ Xi S 904 108 ∧ Xi S 904 108 ≤ 2600 := hH.c _ _
        have w162 : Xi T5 904 117 = Xi S 904 117 := (show Xi T5 904 117 = Xi S 904 117 from w156.x _ _ rfl)
        have w163 : 0 ≤ Xi S 904 117 ∧ Xi S 904 117 ≤ 480 := hH.c _ _
        have w164 : Xi T5 904 69 = Xi S 904 69 := (show Xi T5 904 69 = Xi S 904 69 from w156.x _ _ rfl)
        have w165 : 0 ≤ Xi S 904 69 ∧ Xi S 904 69 ≤ 2600 := hH.c _ _
        have w166 : Xi T5 904 78 = Xi S 904 78 := (show Xi T5 904 78 = Xi S 904 78 from w156.x _ _ rfl)
        have w167 : -2 ≤ Xi S 904 78 ∧ Xi S 904 78 ≤ 5010 := hH.c _ _
        exact Rl_weak (C83 T5 hHT5 hFT5 (z79) (0) (by omega) (by omega) (by omega) (by omega) (by omega) (by omega) (by omega) (by omega) (by omega) (KQ_FR (by assumption : FR md_mo_need S T5) rfl KQ.rf)) (And.intro rfl (And.intro rfl (And.intro rfl (True.intro))))
      · refine l_iload_n rfl rfl ?_
        refine l_iconst rfl ?_
        refine l_icmp_eq rfl rfl (by unfold rg; omega) (by unfold rg; omega) (fun w168 => ?_) (fun w169 => ?_)
        · refine l_iconst rfl ?_
          refine l_goto rfl rfl ?_
          refine l_istore rfl rfl rfl ?_
          have w170 : 0 ≤ Xi T5 904 106 ∧ Xi T5 904 106 ≤ 9 := hHT5.c _ _
          have w171 : Xi T5 904 108 = Xi S 904 108 := (show Xi T5 904 108 = Xi S 904 108 from w156.x _ _ rfl)
          have w172 : 0 ≤ Xi S 904 108 ∧ Xi S 904 108 ≤ 2600 := hH.c _ _
          have w173 : Xi T5 904 117 = Xi S 904 117 := (show Xi T5 904 117 = Xi S 904 117 from w156.x _ _ rfl)
          have w174 : 0 ≤ Xi S 904 117 ∧ Xi S 904 117 ≤ 480 := hH.c _ _
          have w175 : Xi T5 904 69 = Xi S 904 69 := (show Xi T5 904 69 = Xi S 904 69 from w156.x _ _ rfl)
          have w176 : 0 ≤ Xi S 904 69 ∧ Xi S 904 69 ≤ 2600 := hH.c _ _
          have w177 : Xi T5 904 78 = Xi S 904 78 := (show Xi T5 904 78 = Xi S 904 78 from w156.x _ _ rfl)
          have w178 : -2 ≤ Xi S 904 78 ∧ Xi S 904 78 ≤ 5010 := hH.c _ _
          exact Rl_weak (C83 T5 hHT5 hFT5 (z79) (1) (by omega) (by omega) (by omega) (by omega) (by omega) (by omega) (by omega) (by omega) (by omega) (KQ_FR (by assumption : FR md_mo_need S T5) rfl KQ.rf)) (And.intro rfl (And.intro rfl (And.intro rfl (True.intro))))
        · refine l_aload_n rfl rfl ?_
          refine l_iload_n rfl rfl ?_
          refine l_iload_n rfl rfl ?_
          have w179 : 0 ≤ Xi T5 904 106 ∧ Xi T5 904 106 ≤ 9 := hHT5.c _ _
          have w180 : Xi T5 904 108 = Xi S 904 108 := (show Xi T5 904 108 = Xi S 904 108 from w156.x _ _ rfl)
          have w181 : 0 ≤ Xi S 904 108 ∧ Xi S 904 108 ≤ 2600 := hH.c _ _
          have w182 : Xi T5 904 117 = Xi S 904 117 := (show Xi T5 904 117 = Xi S 904 117 from w156.x _ _ rfl)
          have w183 : 0 ≤ Xi S 904 117 ∧ Xi S 904 117 ≤ 480 := hH.c _ _
          have w184 : Xi T5 904 69 = Xi S 904 69 := (show Xi T5 904 69 = Xi S 904 69 from w156.x _ _ rfl)
          have w185 : 0 ≤ Xi S 904 69 ∧ Xi S 904 69 ≤ 2600 := hH.c _ _
          have w186 : Xi T5 904 78 = Xi S 904 78 := (show Xi T5 904 78 = Xi S 904 78 from w156.x _ _ rfl)
          have w187 : -2 ≤ Xi S 904 78 ∧ Xi S 904 78 ≤ 5010 := hH.c _ _
          refine l_callV rfl rfl rfl (t_mo_has hHT5 v2 z79 ⟨by omega, by omega⟩ ⟨by omega, by omega⟩ (by first | assumption | exact (ABV_FR hFT5 rfl (by assumption : ABV S))) _) ?_
          rintro _ _ ⟨rfl, z189, rfl, w189, w188⟩
          show Rl _ _ _ _ _ [iv z189] _ _
          refine l_if_eq rfl rfl (by unfold rg; omega) (fun w190 => ?_) (fun w191 => ?_)
          · refine l_iconst rfl ?_
            refine l_istore rfl rfl rfl ?_
            have w192 : 0 ≤ Xi T5 904 106 ∧ Xi T5 904 106 ≤ 9 := hHT5.c _ _
            have w193 : Xi T5 904 108 = Xi S 904 108 := (show Xi T5 904 108 = Xi S 904 108 from w156.x _ _ rfl)
            have w194 : 0 ≤ Xi S 904 108 ∧ Xi S 904 108 ≤ 2600 := hH.c _ _
            have w195 : Xi T5 904 117 = Xi S 904 117 := (show Xi T5 904 117 = Xi S 904 117 from w156.x _ _ rfl)
            have w196 : 0 ≤ Xi S 904 117 ∧ Xi S 904 117 ≤ 480 := hH.c _ _
            have w197 : Xi T5 904 69 = Xi S 904 69 := (show Xi T5 904 69 = Xi S 904 69 from w156.x _ _ rfl)
            have w198 : 0 ≤ Xi S 904 69 ∧ Xi S 904 69 ≤ 2600 := hH.c _ _
            have w199 : Xi T5 904 78 = Xi S 904 78 := (show Xi T5 904 78 = Xi S 904 78 from w156.x _ _ rfl)
            have w200 : -2 ≤ Xi S 904 78 ∧ Xi S 904 78 ≤ 5010 := hH.c _ _
            exact Rl_weak (C83 T5 hHT5 hFT5 (z79) (0) (by omega) (by omega) (by omega) (by omega) (by omega) (by omega) (by omega) (by omega) (by omega) (KQ_FR (by assumption : FR md_mo_need S T5) rfl KQ.rf)) (And.intro rfl (And.intro rfl (And.intro rfl (True.intro))))
          · refine l_iconst rfl ?_
            refine l_goto rfl rfl ?_
            refine l_istore rfl rfl rfl ?_
            have w201 : 0 ≤ Xi T5 904 106 ∧ Xi T5 904 106 ≤ 9 := hHT5.c _ _
            have w202 : Xi T5 904 108 = Xi S 904 108 := (show Xi T5 904 108 = Xi S 904 108 from w156.x _ _ rfl)
            have w203 : 0 ≤ Xi S 904 108 ∧ Xi S 904 108 ≤ 2600 := hH.c _ _
            have w204 : Xi T5 904 117 = Xi S 904 117 := (show Xi T5 904 117 = Xi S 904 117 from w156.x _ _ rfl)
            have w205 : 0 ≤ Xi S 904 117 ∧ Xi S 904 117 ≤ 480 := hH.c _ _
            have w206 : Xi T5 904 69 = Xi S 904 69 := (show Xi T5 904 69 = Xi S 904 69 from w156.x _ _ rfl)
            have w207 : 0 ≤ Xi S 904 69 ∧ Xi S 904 69 ≤ 2600 := hH.c _ _
            have w208 : Xi T5 904 78 = Xi S 904 78 := (show Xi T5 904 78 = Xi S 904 78 from w156.x _ _ rfl)
            have w209 : -2 ≤ Xi S 904 78 ∧ Xi S 904 78 ≤ 5010 := hH.c _ _
            exact Rl_weak (C83 T5 hHT5 hFT5 (z79) (1) (by omega) (by omega) (by omega) (by omega) (by omega) (by omega) (by omega) (by omega) (by omega) (KQ_FR (by assumption : FR md_mo_need S T5) rfl KQ.rf)) (And.intro rfl (And.intro rfl (And.intro rfl (True.intro))))
  refine l_aload_n rfl rfl ?_
  refine l_iconst rfl ?_
  refine l_iconst rfl ?_
  have w210 : 0 ≤ Xi S 904 106 ∧ Xi S 904 106 ≤ 9 := hH.c _ _
  have w211 : 0 ≤ Xi S 904 108 ∧ Xi S 904 108 ≤ 2600 := hH.c _ _
  have w212 : 0 ≤ Xi S 904 117 ∧ Xi S 904 117 ≤ 480 := hH.c _ _
  have w213 : 0 ≤ Xi S 904 69 ∧ Xi S 904 69 ≤ 2600 := hH.c _ _
  have w214 : -2 ≤ Xi S 904 78 ∧ Xi S 904 78 ≤ 5010 := hH.c _ _
  refine l_callV rfl rfl rfl (t_mo_meansRun__2 hH n 1 4 ⟨by omega, by omega⟩ ⟨by omega, by omega⟩ (by first | assumption | exact (TK_FR hF rfl (by assumption : TK S _))) (by first | assumption | exact (RNV_FR hF rfl (by assumption : RNV S _))) (by first | assumption | omega) (by first | assumption | exact (LXM_FR hF rfl (by assumption : LXM S))) _) ?_
  rintro _ _ ⟨rfl, z217, rfl, w217, w215, w216⟩
  show Rl _ _ _ _ _ [iv z217] _ _
  have x3 : z217 ≠ -1 → z217 < Xi S 904 19 := fun q => by have t := (by assumption : z217 ≠ -1 → z217 < cM S 4) q; rw [cM4] at t; exact t
  have r3 : z217 = rnR S 1 4 := (by assumption : z217 = rnR S _ _).trans (rnR_FR hF rfl rfl)
  refine l_istore_n rfl rfl rfl ?_
  refine l_iload_n rfl rfl ?_
  refine l_iconst rfl ?_
  refine l_icmp_eq rfl rfl (by unfold rg; omega) (by unfold rg; omega) (fun w218 => ?_) (fun w219 => ?_)
  · refine l_aload_n rfl rfl ?_
    refine l_iconst rfl ?_
    refine l_iconst rfl ?_
    have w220 : 0 ≤ Xi S 904 106 ∧ Xi S 904 106 ≤ 9 := hH.c _ _
    have w221 : 0 ≤ Xi S 904 108 ∧ Xi S 904 108 ≤ 2600 := hH.c _ _
    have w222 : 0 ≤ Xi S 904 117 ∧ Xi S 904 117 ≤ 480 := hH.c _ _
    have w223 : 0 ≤ Xi S 904 69 ∧ Xi S 904 69 ≤ 2600 := hH.c _ _
    have w224 : -2 ≤ Xi S 904 78 ∧ Xi S 904 78 ≤ 5010 := hH.c _ _
    refine l_callV rfl rfl rfl (t_mo_meansRun__2 hH n 1 0 ⟨by omega, by omega⟩ ⟨by omega, by omega⟩ (by first | assumption | exact (TK_FR hF rfl (by assumption : TK S _))) (by first | assumption | exact (RNV_FR hF rfl (by assumption : RNV S _))) (by first | assumption | omega) (by first | assumption | exact (LXM_FR hF rfl (by assumption : LXM S))) _) ?_
    rintro _ _ ⟨rfl, z227, rfl, w227, w225, w226⟩
    show Rl _ _ _ _ _ [iv z227] _ _
    have x24 : z227 ≠ -1 → z227 < Xi S 904 16 := fun q => by have t := (by assumption : z227 ≠ -1 → z227 < cM S 0) q; rw [cM0] at t; exact t
    have r24 : z227 = rnR S 1 0 := (by assumption : z227 = rnR S _ _).trans (rnR_FR hF rfl rfl)
    refine l_istore_n rfl rfl rfl ?_
    have w228 : 0 ≤ Xi S 904 106 ∧ Xi S 904 106 ≤ 9 := hH.c _ _
    have w229 : 0 ≤ Xi S 904 108 ∧ Xi S 904 108 ≤ 2600 := hH.c _ _
    have w230 : 0 ≤ Xi S 904 117 ∧ Xi S 904 117 ≤ 480 := hH.c _ _
    have w231 : 0 ≤ Xi S 904 69 ∧ Xi S 904 69 ≤ 2600 := hH.c _ _
    have w232 : -2 ≤ Xi S 904 78 ∧ Xi S 904 78 ≤ 5010 := hH.c _ _
    exact Rl_weak (C28 (z227) (by omega) (by omega)) (And.intro rfl (And.intro rfl (True.intro)))
  · refine l_aload_n rfl rfl ?_
    refine l_gfr rfl rfl rfl rfl rfl (hH.r 904 20 918 rfl) ?_
    refine l_iload_n rfl rfl ?_
    refine l_iaload (n := 24) rfl rfl (by omega) (by omega) (by unfold rg; omega) ?_
    have w233 : 0 ≤ (Xi S 918 ((z217).toNat)) ∧ (Xi S 918 ((z217).toNat)) ≤ 15 := hH.c _ _
    refine l_goto rfl rfl ?_
    refine l_istore_n rfl rfl rfl ?_
    have w234 : 0 ≤ Xi S 904 106 ∧ Xi S 904 106 ≤ 9 := hH.c _ _
    have w235 : 0 ≤ Xi S 904 108 ∧ Xi S 904 108 ≤ 2600 := hH.c _ _
    have w236 : 0 ≤ Xi S 904 117 ∧ Xi S 904 117 ≤ 480 := hH.c _ _
    have w237 : 0 ≤ Xi S 904 69 ∧ Xi S 904 69 ≤ 2600 := hH.c _ _
    have w238 : -2 ≤ Xi S 904 78 ∧ Xi S 904 78 ≤ 5010 := hH.c _ _
    exact Rl_weak (C28 ((Xi S 918 ((z217).toNat))) (by omega) (by omega)) (And.intro rfl (And.intro rfl (True.intro)))
def md_mo_phrases : List rec := [(904, 905, 8, 9), (904, 905, 65, 66), (904, 905, 66, 67), (904, 905, 69, 70), (904, 905, 78, 79), (904, 905, 93, 94), (904, 905, 98, 99), (904, 905, 99, 100), (904, 905, 100, 101), (904, 905, 101, 102), (950, 951, 0, 100000), (951, 952, 0, 100000), (952, 953, 0, 100000), (953, 954, 0, 100000), (954, 955, 0, 100000), (955, 956, 0, 100000), (956, 957, 0, 100000), (957, 958, 0, 100000), (958, 959, 0, 100000), (959, 960, 0, 100000), (960, 961, 0, 100000), (961, 962, 0, 100000), (962, 963, 0, 100000), (963, 964, 0, 100000), (964, 965, 0, 100000), (965, 966, 0, 100000)]
abbrev Q_mo_phrases (S : sS) (n : Nat) (c : Nat) : pst := fun r S1 => HI S1 ∧ FR md_mo_phrases S S1 ∧ (r = none ∧ (AT S1 n c) ∧ (Xi S 904 8 ≤ Xi S1 904 8 ∧ (Xi S1 904 8 ≤ n ∨ Xi S1 904 8 = Xi S 904 8)) ∧ (RNV S1 n) ∧ (Xi S1 904 65 = 0 → Xi S 904 65 = 0) ∧ (Xi S 904 69 ≤ Xi S1 904 69) ∧ (Xi S1 904 65 = 0 → TVA S1 n (Xi S1 904 94)) ∧ (Xi S1 904 65 = 0 → PVA S1 n (Xi S1 904 98)) ∧ (Xi S1 904 65 = 0 → Xi S1 904 94 + Xi S1 904 98 ≤ Xi S1 904 93 ∧ Xi S1 904 93 ≤ 1666))
set_option maxRecDepth 100000 in
theorem t_mo_phrases {S : sS} (hH : HI S) (n : Nat) (c : Nat) (hT : TK S n) (hA : AT S n c) (hv : RNV S n) (hx : Xi S 904 8 ≤ n) (tc : Xi S 904 93 ≤ 1690) (p0 : Xi S 904 98 = 0) (hs : Xi S 904 94 ≤ Xi S 904 93) (tv : Xi S 904 65 = 0 → TVA S n (Xi S 904 94)) (d : Nat) : Mt lay0 (d + 8) m_mo_phrases [.ref 904] S (Q_mo_phrases S n c) := by
  refine Mt_R rfl rfl ?_
  have hF : FR md_mo_phrases S S := FR.rf
  have w1 : 0 ≤ Xi S 904 65 ∧ Xi S 904 65 ≤ 1 := hH.c _ _
  have w2 : 0 ≤ Xi S 904 69 ∧ Xi S 904 69 ≤ 2600 := hH.c _ _
  have w3 : 0 ≤ Xi S 904 8 ∧ Xi S 904 8 ≤ 5010 := hH.c _ _
  have w4 : 0 ≤ Xi S 904 93 ∧ Xi S 904 93 ≤ 1700 := hH.c _ _
  have w5 : 0 ≤ Xi S 904 94 ∧ Xi S 904 94 ≤ 1700 := hH.c _ _
  have w6 : 0 ≤ Xi S 904 98 ∧ Xi S 904 98 ≤ 1700 := hH.c _ _
  have hn5 := hT.1
  have hat := hA
  have h8 : 0 ≤ Xi S 904 8 ∧ Xi S 904 8 ≤ 5010 := hH.c _ _
  have h69 : 0 ≤ Xi S 904 69 ∧ Xi S 904 69 ≤ 2600 := hH.c _ _
  have ha0 : Xi S 904 65 = 0 → Xi S 904 8 ≤ n := fun q => (hA q).1
  have ha3 : Xi S 904 65 = 0 → 2 * Xi S 904 69 ≤ Xi S 904 8 + 1 := fun q => (hA q).2.1
  clear hat
  have C4 : ∀ (n4 : Nat) (T1 : sS) (_ : HI T1) (_ : FR md_mo_phrases S T1), (AT T1 n c) → (RNV T1 n) → (Xi S 904 8 ≤ Xi T1 904 8) → (Xi T1 904 8 ≤ n) → (Xi T1 904 93 ≤ 1691) → (Xi T1 904 98 ≤ 1691) → (Xi S 904 69 ≤ Xi T1 904 69) → (Xi T1 904 65 = 0 → Xi S 904 65 = 0) → (Xi T1 904 65 = 0 → Xi T1 904 94 + Xi T1 904 98 ≤ Xi T1 904 93) → (Xi T1 904 65 = 0 → TVA T1 n (Xi T1 904 94)) → (Xi T1 904 65 = 0 → PVA T1 n (Xi T1 904 98)) → n4 = (5002 - Xi T1 904 8).toNat → Rl lay0 (d + 7) m_mo_phrases 4 [(0, .ref 904)] [] T1 (Q_mo_phrases S n c) := by
    intro n4
    induction n4 using Nat.strongRecOn with
    | ind n4 ih4 =>
      intro T1 hHT1 hFT1 A4 V4 w7 w8 w9 w10 w11 w12 w13 E4 G4 hm4
      have w14 : Xi T1 904 94 = Xi S 904 94 := hFT1.x _ _ rfl
      have w15 : 0 ≤ Xi T1 904 65 ∧ Xi T1 904 65 ≤ 1 := hHT1.c _ _
      have w16 : 0 ≤ Xi T1 904 69 ∧ Xi T1 904 69 ≤ 2600 := hHT1.c _ _
      have w17 : 0 ≤ Xi T1 904 8 ∧ Xi T1 904 8 ≤ 5010 := hHT1.c _ _
      have w18 : 0 ≤ Xi T1 904 93 ∧ Xi T1 904 93 ≤ 1700 := hHT1.c _ _
      have w19 : 0 ≤ Xi T1 904 94 ∧ Xi T1 904 94 ≤ 1700 := hHT1.c _ _
      have w20 : 0 ≤ Xi T1 904 98 ∧ Xi T1 904 98 ≤ 1700 := hHT1.c _ _
      refine l_aload_n rfl rfl ?_
      refine l_bipush rfl rfl ?_
      have w21 : 0 ≤ Xi T1 904 65 ∧ Xi T1 904 65 ≤ 1 := hHT1.c _ _
      have w22 : 0 ≤ Xi T1 904 69 ∧ Xi T1 904 69 ≤ 2600 := hHT1.c _ _
      have w23 : 0 ≤ Xi T1 904 8 ∧ Xi T1 904 8 ≤ 5010 := hHT1.c _ _
      have w24 : 0 ≤ Xi T1 904 93 ∧ Xi T1 904 93 ≤ 1700 := hHT1.c _ _
      have w25 : 0 ≤ Xi T1 904 94 ∧ Xi T1 904 94 ≤ 1700 := hHT1.c _ _
      have w26 : 0 ≤ Xi T1 904 98 ∧ Xi T1 904 98 ≤ 1700 := hHT1.c _ _
      refine l_callV rfl rfl rfl (t_mo_isNext hHT1 n c 59 ⟨by omega, by omega⟩ (by first | assumption | exact (TK_FR hFT1 rfl (by assumption : TK S _))) (by first | assumption | exact (by assumption : AT T1 _ _)) _) ?_
      rintro _ _ ⟨rfl, z29, rfl, w29, w27, w28⟩
      show Rl _ _ _ _ _ [iv z29] _ _
      have j7 : z29 = 1 → Xi T1 904 65 = 0 ∧ Xi T1 907 (Xi T1 904 8).toNat = 59 := by assumption
      refine l_if_eq rfl rfl (by unfold rg; omega) (fun w30 => ?_) (fun w31 => ?_)
      · refine l_return rfl rfl ?_
        have w32 : 0 ≤ Xi T1 904 65 ∧ Xi T1 904 65 ≤ 1 := hHT1.c _ _
        have w33 : 0 ≤ Xi T1 904 69 ∧ Xi T1 904 69 ≤ 2600 := hHT1.c _ _
        have w34 : 0 ≤ Xi T1 904 8 ∧ Xi T1 904 8 ≤ 5010 := hHT1.c _ _
        have w35 : 0 ≤ Xi T1 904 93 ∧ Xi T1 904 93 ≤ 1700 := hHT1.c _ _
        have w36 : 0 ≤ Xi T1 904 94 ∧ Xi T1 904 94 ≤ 1700 := hHT1.c _ _
        have w37 : 0 ≤ Xi T1 904 98 ∧ Xi T1 904 98 ≤ 1700 := hHT1.c _ _
        exact ⟨hHT1, hFT1, rfl, (A4), (by omega), (V4), (by omega), (by omega), (E4), (G4), (fun q => by have t := at_tc A4 hHT1 q; omega)⟩
      · refine l_aload_n rfl rfl ?_
        refine l_dup rfl rfl ?_
        refine l_gfi rfl rfl rfl rfl rfl ?_
        refine l_iconst rfl ?_
        refine l_iadd rfl ?_
        refine l_pfi rfl rfl rfl rfl ?_
        obtain ⟨U2, eU2⟩ : ∃ T : sS, T = uI T1 904 8 (Int32.ofInt ((Xi T1 904 8) + 1)) := ⟨_, rfl⟩
        rw [← eU2]
        have hHU2 : HI U2 := by rw [eU2]; exact HI_w hHT1 (show 0 ≤ ((Xi T1 904 8) + 1) by omega) (show ((Xi T1 904 8) + 1) ≤ 5010 by omega)
        have hFU2 : FR md_mo_phrases S U2 := by rw [eU2]; exact FR.wI hFT1 (mdf_i (r := (904, 905, 8, 9)) (List.mem_of_getElem? (i := 0) rfl) (inR_i (by omega) (by omega) (by omega) (by omega)))
        have w38 : Xi U2 904 8 = ((Xi T1 904 8) + 1) := by rw [eU2]; exact Xi_same (by unfold rg; omega)
        have t20 : AT U2 n c ∧ _ := at_mv (S := T1) (P := T1) (c2 := c) (TK_FR hFT1 rfl hT) A4 (fun _ => rfl) (fun _ => rfl) rfl rfl rfl rfl eU2 (by omega) (by omega) (by omega) (by omega) (Or.inl rfl)
        have a20 : AT U2 n c := t20.1
        have l20 := t20.2
        have b20 : Xi T1 904 93 ≤ 1666 := by have t := at_tc A4 hHT1 (by omega); omega
        have K20 : KT U2 T1 (Xi T1 904 93) := KT_FR (FR_e eU2) rfl KT.rf
        have Q20 : KP U2 T1 (Xi T1 904 98) := KP_FR (FR_e eU2) rfl KP.rf
        have x20 : ∀ j, Xi U2 907 j = Xi T1 907 j := fun j => by rw [eU2, Xi_ne (by omega)]
        have s20_94 : Xi U2 904 94 = Xi T1 904 94 := by rw [eU2, Xi_ne (by omega)]
        have s20_98 : Xi U2 904 98 = Xi T1 904 98 := by rw [eU2, Xi_ne (by omega)]
        have s20_69 : Xi U2 904 69 = Xi T1 904 69 := by rw [eU2, Xi_ne (by omega)]
        have s20_93 : Xi U2 904 93 = Xi T1 904 93 := by rw [eU2, Xi_ne (by omega)]
        refine l_aload_n rfl rfl ?_
        have w39 : Xi U2 904 65 = Xi T1 904 65 := (show Xi U2 904 65 = Xi T1 904 65 from by rw [eU2]; exact Xi_ne (by omega))
        have w40 : 0 ≤ Xi T1 904 65 ∧ Xi T1 904 65 ≤ 1 := hHT1.c _ _
        have w41 : Xi U2 904 69 = Xi T1 904 69 := (show Xi U2 904 69 = Xi T1 904 69 from by rw [eU2]; exact Xi_ne (by omega))
        have w42 : 0 ≤ Xi T1 904 69 ∧ Xi T1 904 69 ≤ 2600 := hHT1.c _ _
        have w43 : 0 ≤ Xi U2 904 8 ∧ Xi U2 904 8 ≤ 5010 := hHU2.c _ _
        have w44 : Xi U2 904 93 = Xi T1 904 93 := (show Xi U2 904 93 = Xi T1 904 93 from by rw [eU2]; exact Xi_ne (by omega))
        have w45 : 0 ≤ Xi T1 904 93 ∧ Xi T1 904 93 ≤ 1700 := hHT1.c _ _
        have w46 : Xi U2 904 94 = Xi T1 904 94 := (show Xi U2 904 94 = Xi T1 904 94 from by rw [eU2]; exact Xi_ne (by omega))
        have w47 : 0 ≤ Xi T1 904 94 ∧ Xi T1 904 94 ≤ 1700 := hHT1.c _ _
        have w48 : Xi U2 904 98 = Xi T1 904 98 := (show Xi U2 904 98 = Xi T1 904 98 from by rw [eU2]; exact Xi_ne (by omega))
        have w49 : 0 ≤ Xi T1 904 98 ∧ Xi T1 904 98 ≤ 1700 := hHT1.c _ _
        refine l_callV rfl rfl rfl (t_mo_phrase hHU2 n c (by first | assumption | exact (TK_FR hFU2 rfl (by assumption : TK S _))) (by first | assumption | exact (by assumption : AT U2 _ _)) (by first | assumption | exact (RNV_FR (FR_e eU2) rfl (by assumption : RNV T1 _))) (by first | assumption | omega) (by first | assumption | omega) (by first | assumption | omega) _) ?_
        rintro _ T3 ⟨hHT3, w59, rfl, w50, w51, w52, w53, w54, k24, p24, w55, w56, w57, v24⟩
        have hFT3 : FR md_mo_phrases S T3 := FR.tr hFU2 w59 rfl
        show Rl _ _ _ _ _ [] _ _
        have f24 : ∀ j, Xi T3 907 j = Xi T1 907 j := fun j => ((by assumption : FR md_mo_phrase U2 T3).cx 907 rfl j).1.trans (x20 j)
        have y24 : Xi T3 904 94 = Xi U2 904 94 := (by assumption : FR md_mo_phrase U2 T3).x 904 94 rfl
        have K24 : KT T3 T1 (Xi T1 904 93) := KT.tr K20 k24 (by omega)
        have V24 : Xi T3 904 65 = 0 → TVA T3 n (Xi T3 904 94) := fun q => by rw [y24, s20_94]; exact (E4 (by omega)).mv (fun i hi k a b => K24 i (by omega) k a b) (by omega) (f24)
        have Q24 : KP T3 T1 (Xi T1 904 98) := fun i hi => by have a := p24 i (by omega); have b := Q20 i hi; exact ⟨a.1.trans b.1, a.2.1.trans b.2.1, a.2.2.trans b.2.2⟩
        have P24 : Xi T3 904 65 = 0 → PVA T3 n (Xi T3 904 98) := fun q => ((G4 (by omega)).mv hHT1 K24 Q24 (by omega) (by omega) f24).add (by omega) (by omega) (by rw [show (Xi T1 904 98).toNat = (Xi U2 904 98).toNat by omega]; exact v24 q)
        refine l_goto rfl rfl ?_
        have w60 : 0 ≤ Xi T3 904 65 ∧ Xi T3 904 65 ≤ 1 := hHT3.c _ _
        have w61 : 0 ≤ Xi T3 904 69 ∧ Xi T3 904 69 ≤ 2600 := hHT3.c _ _
        have w62 : 0 ≤ Xi T3 904 8 ∧ Xi T3 904 8 ≤ 5010 := hHT3.c _ _
        have w63 : 0 ≤ Xi T3 904 93 ∧ Xi T3 904 93 ≤ 1700 := hHT3.c _ _
        have w64 : Xi T3 904 94 = Xi T1 904 94 := (show Xi T3 904 94 = Xi U2 904 94 from w59.x _ _ rfl).trans ((show Xi U2 904 94 = Xi T1 904 94 from by rw [eU2]; exact Xi_ne (by omega)))
        have w65 : 0 ≤ Xi T1 904 94 ∧ Xi T1 904 94 ≤ 1700 := hHT1.c _ _
        have w66 : 0 ≤ Xi T3 904 98 ∧ Xi T3 904 98 ≤ 1700 := hHT3.c _ _
        exact Rl_weak (ih4 _ (by omega) T3 hHT3 hFT3  (by assumption) (by assumption) (by omega) (by omega) (by omega) (by omega) (by omega) (by omega) (by omega) (by first | exact V24 | exact V1) (by first | exact P24 | exact P1) rfl) (And.intro rfl (True.intro))
  refine l_aload_n rfl rfl ?_
  have w67 : 0 ≤ Xi S 904 65 ∧ Xi S 904 65 ≤ 1 := hH.c _ _
  have w68 : 0 ≤ Xi S 904 69 ∧ Xi S 904 69 ≤ 2600 := hH.c _ _
  have w69 : 0 ≤ Xi S 904 8 ∧ Xi S 904 8 ≤ 5010 := hH.c _ _
  have w70 : 0 ≤ Xi S 904 93 ∧ Xi S 904 93 ≤ 1700 := hH.c _ _
  have w71 : 0 ≤ Xi S 904 94 ∧ Xi S 904 94 ≤ 1700 := hH.c _ _
  have w72 : 0 ≤ Xi S 904 98 ∧ Xi S 904 98 ≤ 1700 := hH.c _ _
  refine l_callV rfl rfl rfl (t_mo_phrase hH n c (by first | assumption | exact (TK_FR hF rfl (by assumption : TK S _))) (by first | assumption | exact (by assumption : AT S _ _)) (by first | assumption | exact (by assumption : RNV S _)) (by first | assumption | omega) (by first | assumption | omega) (by first | assumption | omega) _) ?_
  rintro _ T4 ⟨hHT4, w82, rfl, w73, w74, w75, w76, w77, k1, p1, w78, w79, w80, v1_⟩
  have hFT4 : FR md_mo_phrases S T4 := FR.tr hF w82 rfl
  show Rl _ _ _ _ _ [] _ _
  have y1 : Xi T4 904 94 = Xi S 904 94 := hFT4.x 904 94 rfl
  have V1 : Xi T4 904 65 = 0 → TVA T4 n (Xi T4 904 94) := fun q => by rw [y1]; exact (tv (by omega)).mv (fun i hi k a b => k1 i (by omega) k a b) (by omega) (fun j => (hFT4.cx 907 rfl j).1)
  have P1 : Xi T4 904 65 = 0 → PVA T4 n (Xi T4 904 98) := fun q i hi => by rw [show i = (Xi S 904 98).toNat by omega]; exact v1_ q
  have w83 : 0 ≤ Xi T4 904 65 ∧ Xi T4 904 65 ≤ 1 := hHT4.c _ _
  have w84 : 0 ≤ Xi T4 904 69 ∧ Xi T4 904 69 ≤ 2600 := hHT4.c _ _
  have w85 : 0 ≤ Xi T4 904 8 ∧ Xi T4 904 8 ≤ 5010 := hHT4.c _ _
  have w86 : 0 ≤ Xi T4 904 93 ∧ Xi T4 904 93 ≤ 1700 := hHT4.c _ _
  have w87 : Xi T4 904 94 = Xi S 904 94 := (show Xi T4 904 94 = Xi S 904 94 from w82.x _ _ rfl)
  have w88 : 0 ≤ Xi S 904 94 ∧ Xi S 904 94 ≤ 1700 := hH.c _ _
  have w89 : 0 ≤ Xi T4 904 98 ∧ Xi T4 904 98 ≤ 1700 := hHT4.c _ _
  exact Rl_weak (C4 _ T4 hHT4 hFT4  (by assumption) (by assumption) (by omega) (by omega) (by omega) (by omega) (by omega) (by omega) (by omega) (by first | exact V24 | exact V1) (by first | exact P24 | exact P1) rfl) (And.intro rfl (True.intro))
def md_mo_rule : List rec := [(904, 905, 8, 9), (904, 905, 65, 66), (904, 905, 66, 67), (904, 905, 69, 70), (904, 905, 70, 71), (904, 905, 78, 79), (904, 905, 93, 94), (904, 905, 94, 95), (904, 905, 98, 99), (904, 905, 99, 100), (904, 905, 100, 101), (904, 905, 101, 102), (904, 905, 102, 103), (904, 905, 103, 104), (950, 951, 0, 100000), (951, 952, 0, 100000), (952, 953, 0, 100000), (953, 954, 0, 100000), (954, 955, 0, 100000), (955, 956, 0, 100000), (956, 957, 0, 100000), (957, 958, 0, 100000), (958, 959, 0, 100000), (959, 960, 0, 100000), (960, 961, 0, 100000), (961, 962, 0, 100000), (962, 963, 0, 100000), (963, 964, 0, 100000), (964, 965, 0, 100000), (965, 966, 0, 100000)]
abbrev Q_mo_rule (S : sS) (n : Nat) (c : Nat) (s : Int) : pst := fun r S1 => HI S1 ∧ FR md_mo_rule S S1 ∧ (r = none ∧ (AT S1 n c) ∧ (Xi S 904 8 < Xi S1 904 8 ∧ Xi S1 904 8 ≤ n) ∧ (RNV S1 n) ∧ (Xi S 904 69 ≤ Xi S1 904 69) ∧ (Xi S1 904 70 = s) ∧ (Xi S1 904 65 = 0 → s ≠ 6 → Xi S1 904 102 < Xi S1 904 69 ∧ Xi S1 904 103 < Xi S1 904 69) ∧ (Xi S1 904 65 = 0 → TVA S1 n (Xi S1 904 94)) ∧ (Xi S1 904 65 = 0 → PVA S1 n (Xi S1 904 98)) ∧ (Xi S1 904 65 = 0 → Xi S1 904 94 + Xi S1 904 98 ≤ Xi S1 904 93 ∧ Xi S1 904 93 ≤ 1666))
set_option maxRecDepth 100000 in
set_option maxHeartbeats 4000000 in
theorem t_mo_rule {S : sS} (hH : HI S) (n : Nat) (c : Nat) (s : Int) (hs : 3 ≤ s ∧ s ≤ 6) (hT : TK S n) (hA : AT S n c) (hv : RNV S n) (hb : Xi S 904 65 = 0) (hk : Xi S 907 (Xi S 904 8).toNat ≠ 1) (z1 : Xi S 904 93 = 0) (z2 : Xi S 904 94 = 0) (z3 : Xi S 904 98 = 0) (d : Nat) : Mt lay0 (d + 9) m_mo_rule [.ref 904, iv s] S (Q_mo_rule S n c s) := by
  refine Mt_R rfl rfl ?_
  have hF : FR md_mo_rule S S := FR.rf
  have w1 : 0 ≤ Xi S 904 102 ∧ Xi S 904 102 ≤ 2600 := hH.c _ _
  have w2 : -1 ≤ Xi S 904 103 ∧ Xi S 904 103 ≤ 2600 := hH.c _ _
  have w3 : 0 ≤ Xi S 904 65 ∧ Xi S 904 65 ≤ 1 := hH.c _ _
  have w4 : 0 ≤ Xi S 904 69 ∧ Xi S 904 69 ≤ 2600 := hH.c _ _
  have w5 : 0 ≤ Xi S 904 70 ∧ Xi S 904 70 ≤ 20 := hH.c _ _
  have w6 : 0 ≤ Xi S 904 8 ∧ Xi S 904 8 ≤ 5010 := hH.c _ _
  have w7 : 0 ≤ Xi S 904 93 ∧ Xi S 904 93 ≤ 1700 := hH.c _ _
  have w8 : 0 ≤ Xi S 904 94 ∧ Xi S 904 94 ≤ 1700 := hH.c _ _
  have w9 : 0 ≤ Xi S 904 98 ∧ Xi S 904 98 ≤ 1700 := hH.c _ _
  have hn5 := hT.1
  have hat := hA
  have h8 : 0 ≤ Xi S 904 8 ∧ Xi S 904 8 ≤ 5010 := hH.c _ _
  have h69 : 0 ≤ Xi S 904 69 ∧ Xi S 904 69 ≤ 2600 := hH.c _ _
  have ha0 : Xi S 904 65 = 0 → Xi S 904 8 ≤ n := fun q => (hA q).1
  have ha3 : Xi S 904 65 = 0 → 2 * Xi S 904 69 ≤ Xi S 904 8 + 1 := fun q => (hA q).2.1
  clear hat
  have hx := ha0 hb
  have C83 : ∀  (T1 : sS) (_ : HI T1) (_ : FR md_mo_rule S T1), (AT T1 n c) → (RNV T1 n) → (Xi S 904 8 < Xi T1 904 8) → (Xi T1 904 8 ≤ n) → (Xi S 904 69 ≤ Xi T1 904 69) → (Xi T1 904 93 = 0 ∧ Xi T1 904 94 = 0 ∧ Xi T1 904 98 = 0) → (Xi T1 904 70 = s) → (Xi T1 904 65 = 0 → s ≠ 6 → Xi T1 904 102 < Xi T1 904 69 ∧ Xi T1 904 103 < Xi T1 904 69) → Rl lay0 (d + 8) m_mo_rule 83 [(0, .ref 904)] [] T1 (Q_mo_rule S n c s) := by
    intro T1 hHT1 hFT1 A83 V83 w10 w11 w12 w13 w14 w15
    have w16 : 0 ≤ Xi T1 904 102 ∧ Xi T1 904 102 ≤ 2600 := hHT1.c _ _
    have w17 : -1 ≤ Xi T1 904 103 ∧ Xi T1 904 103 ≤ 2600 := hHT1.c _ _
    have w18 : 0 ≤ Xi T1 904 65 ∧ Xi T1 904 65 ≤ 1 := hHT1.c _ _
    have w19 : 0 ≤ Xi T1 904 69 ∧ Xi T1 904 69 ≤ 2600 := hHT1.c _ _
    have w20 : 0 ≤ Xi T1 904 70 ∧ Xi T1 904 70 ≤ 20 := hHT1.c _ _
    have w21 : 0 ≤ Xi T1 904 8 ∧ Xi T1 904 8 ≤ 5010 := hHT1.c _ _
    have w22 : 0 ≤ Xi T1 904 93 ∧ Xi T1 904 93 ≤ 1700 := hHT1.c _ _
    have w23 : 0 ≤ Xi T1 904 94 ∧ Xi T1 904 94 ≤ 1700 := hHT1.c _ _
    have w24 : 0 ≤ Xi T1 904 98 ∧ Xi T1 904 98 ≤ 1700 := hHT1.c _ _
    have C107 : ∀  (T2 : sS) (_ : HI T2) (_ : FR md_mo_rule S T2), (AT T2 n c) → (RNV T2 n) → (Xi S 904 8 < Xi T2 904 8) → (Xi T2 904 8 ≤ n) → (Xi S 904 69 ≤ Xi T2 904 69) → (Xi T2 904 93 ≤ 1668 ∧ Xi T2 904 94 = Xi T2 904 93 ∧ Xi T2 904 98 = 0) → (Xi T2 904 70 = s) → (Xi T2 904 65 = 0 → s ≠ 6 → Xi T2 904 102 < Xi T2 904 69 ∧ Xi T2 904 103 < Xi T2 904 69) → (Xi T2 904 65 = 0 → TVA T2 n (Xi T2 904 94)) → Rl lay0 (d + 8) m_mo_rule 107 [(0, .ref 904)] [] T2 (Q_mo_rule S n c s) := by
      intro T2 hHT2 hFT2 A107 V107 w25 w26 w27 w28 w29 w30 E107
      have w31 : 0 ≤ Xi T2 904 102 ∧ Xi T2 904 102 ≤ 2600 := hHT2.c _ _
      have w32 : -1 ≤ Xi T2 904 103 ∧ Xi T2 904 103 ≤ 2600 := hHT2.c _ _
      have w33 : 0 ≤ Xi T2 904 65 ∧ Xi T2 904 65 ≤ 1 := hHT2.c _ _
      have w34 : 0 ≤ Xi T2 904 69 ∧ Xi T2 904 69 ≤ 2600 := hHT2.c _ _
      have w35 : 0 ≤ Xi T2 904 70 ∧ Xi T2 904 70 ≤ 20 := hHT2.c _ _
      have w36 : 0 ≤ Xi T2 904 8 ∧ Xi T2 904 8 ≤ 5010 := hHT2.c _ _
      have w37 : 0 ≤ Xi T2 904 93 ∧ Xi T2 904 93 ≤ 1700 := hHT2.c _ _
      have w38 : 0 ≤ Xi T2 904 94 ∧ Xi T2 904 94 ≤ 1700 := hHT2.c _ _
      have w39 : 0 ≤ Xi T2 904 98 ∧ Xi T2 904 98 ≤ 1700 := hHT2.c _ _
      refine l_aload_n rfl rfl ?_
      refine l_bipush rfl rfl ?_
      have w40 : 0 ≤ Xi T2 904 102 ∧ Xi T2 904 102 ≤ 2600 := hHT2.c _ _
      have w41 : -1 ≤ Xi T2 904 103 ∧ Xi T2 904 103 ≤ 2600 := hHT2.c _ _
      have w42 : 0 ≤ Xi T2 904 65 ∧ Xi T2 904 65 ≤ 1 := hHT2.c _ _
      have w43 : 0 ≤ Xi T2 904 69 ∧ Xi T2 904 69 ≤ 2600 := hHT2.c _ _
      have w44 : 0 ≤ Xi T2 904 70 ∧ Xi T2 904 70 ≤ 20 := hHT2.c _ _
      have w45 : 0 ≤ Xi T2 904 8 ∧ Xi T2 904 8 ≤ 5010 := hHT2.c _ _
      have w46 : 0 ≤ Xi T2 904 93 ∧ Xi T2 904 93 ≤ 1700 := hHT2.c _ _
      have w47 : 0 ≤ Xi T2 904 94 ∧ Xi T2 904 94 ≤ 1700 := hHT2.c _ _
      have w48 : 0 ≤ Xi T2 904 98 ∧ Xi T2 904 98 ≤ 1700 := hHT2.c _ _
      refine l_callV rfl rfl rfl (t_mo_take__2 hHT2 n c 58 ⟨by omega, by omega⟩ (by first | assumption | exact (TK_FR hFT2 rfl (by assumption : TK S _))) (by first | assumption | exact (by assumption : AT T2 _ _)) (by first | assumption | omega) _) ?_
      rintro _ T3 ⟨hHT3, w54, rfl, w49, w50, w51, w52⟩
      have hFT3 : FR md_mo_rule S T3 := FR.tr hFT2 w54 rfl
      show Rl _ _ _ _ _ [] _ _
      have T110 : Xi T3 904 65 = 0 → TVA T3 n (Xi T3 904 94) := fun q => by rw [(by assumption : FR md_mo_take T2 T3).x 904 94 rfl]; exact (E107 (by omega)).mv (KT_FR (by assumption : FR md_mo_take T2 T3) rfl KT.rf) (by rw [(by assumption : FR md_mo_take T2 T3).x 904 69 rfl]; exact Int.le_refl _) (fun j => ((by assumption : FR md_mo_take T2 T3).cx 907 rfl j).1)
      refine l_aload_n rfl rfl ?_
      have w55 : Xi T3 904 102 = Xi T2 904 102 := (show Xi T3 904 102 = Xi T2 904 102 from w54.x _ _ rfl)
      have w56 : 0 ≤ Xi T2 904 102 ∧ Xi T2 904 102 ≤ 2600 := hHT2.c _ _
      have w57 : Xi T3 904 103 = Xi T2 904 103 := (show Xi T3 904 103 = Xi T2 904 103 from w54.x _ _ rfl)
      have w58 : -1 ≤ Xi T2 904 103 ∧ Xi T2 904 103 ≤ 2600 := hHT2.c _ _
      have w59 : 0 ≤ Xi T3 904 65 ∧ Xi T3 904 65 ≤ 1 := hHT3.c _ _
      have w60 : Xi T3 904 69 = Xi T2 904 69 := (show Xi T3 904 69 = Xi T2 904 69 from w54.x _ _ rfl)
      have w61 : 0 ≤ Xi T2 904 69 ∧ Xi T2 904 69 ≤ 2600 := hHT2.c _ _
      have w62 : Xi T3 904 70 = Xi T2 904 70 := (show Xi T3 904 70 = Xi T2 904 70 from w54.x _ _ rfl)
      have w63 : 0 ≤ Xi T2 904 70 ∧ Xi T2 904 70 ≤ 20 := hHT2.c _ _
      have w64 : 0 ≤ Xi T3 904 8 ∧ Xi T3 904 8 ≤ 5010 := hHT3.c _ _
      have w65 : Xi T3 904 93 = Xi T2 904 93 := (show Xi T3 904 93 = Xi T2 904 93 from w54.x _ _ rfl)
      have w66 : 0 ≤ Xi T2 904 93 ∧ Xi T2 904 93 ≤ 1700 := hHT2.c _ _
      have w67 : Xi T3 904 94 = Xi T2 904 94 := (show Xi T3 904 94 = Xi T2 904 94 from w54.x _ _ rfl)
      have w68 : 0 ≤ Xi T2 904 94 ∧ Xi T2 904 94 ≤ 1700 := hHT2.c _ _
      have w69 : Xi T3 904 98 = Xi T2 904 98 := (show Xi T3 904 98 = Xi T2 904 98 from w54.x _ _ rfl)
      have w70 : 0 ≤ Xi T2 904 98 ∧ Xi T2 904 98 ≤ 1700 := hHT2.c _ _
      refine l_callV rfl rfl rfl (t_mo_phrases hHT3 n c (by first | assumption | exact (TK_FR hFT3 rfl (by assumption : TK S _))) (by first | assumption | exact (by assumption : AT T3 _ _)) (by first | assumption | exact (RNV_FR w54 rfl (by assumption : RNV T2 _))) (by first | assumption | omega) (by first | assumption | omega) (by first | assumption | omega) (by first | assumption | omega) (by first | assumption | omega) _) ?_
      rintro _ T4 ⟨hHT4, w80, rfl, w71, w72, w73, w74, w75, w76, w77, w78⟩
      have hFT4 : FR md_mo_rule S T4 := FR.tr hFT3 w80 rfl
      show Rl _ _ _ _ _ [] _ _
      refine l_return rfl rfl ?_
      have w81 : Xi T4 904 102 = Xi T2 904 102 := (show Xi T4 904 102 = Xi T3 904 102 from w80.x _ _ rfl).trans ((show Xi T3 904 102 = Xi T2 904 102 from w54.x _ _ rfl))
      have w82 : 0 ≤ Xi T2 904 102 ∧ Xi T2 904 102 ≤ 2600 := hHT2.c _ _
      have w83 : Xi T4 904 103 = Xi T2 904 103 := (show Xi T4 904 103 = Xi T3 904 103 from w80.x _ _ rfl).trans ((show Xi T3 904 103 = Xi T2 904 103 from w54.x _ _ rfl))
      have w84 : -1 ≤ Xi T2 904 103 ∧ Xi T2 904 103 ≤ 2600 := hHT2.c _ _
      have w85 : 0 ≤ Xi T4 904 65 ∧ Xi T4 904 65 ≤ 1 := hHT4.c _ _
      have w86 : 0 ≤ Xi T4 904 69 ∧ Xi T4 904 69 ≤ 2600 := hHT4.c _ _
      have w87 : Xi T4 904 70 = Xi T2 904 70 := (show Xi T4 904 70 = Xi T3 904 70 from w80.x _ _ rfl).trans ((show Xi T3 904 70 = Xi T2 904 70 from w54.x _ _ rfl))
      have w88 : 0 ≤ Xi T2 904 70 ∧ Xi T2 904 70 ≤ 20 := hHT2.c _ _
      have w89 : 0 ≤ Xi T4 904 8 ∧ Xi T4 904 8 ≤ 5010 := hHT4.c _ _
      have w90 : 0 ≤ Xi T4 904 93 ∧ Xi T4 904 93 ≤ 1700 := hHT4.c _ _
      have w91 : Xi T4 904 94 = Xi T2 904 94 := (show Xi T4 904 94 = Xi T3 904 94 from w80.x _ _ rfl).trans ((show Xi T3 904 94 = Xi T2 904 94 from w54.x _ _ rfl))
      have w92 : 0 ≤ Xi T2 904 94 ∧ Xi T2 904 94 ≤ 1700 := hHT2.c _ _
      have w93 : 0 ≤ Xi T4 904 98 ∧ Xi T4 904 98 ≤ 1700 := hHT4.c _ _
      exact ⟨hHT4, hFT4, rfl, (by first | assumption | exact (by assumption : AT T4 _ _)), (by omega), (by first | assumption | exact (by assumption : RNV T4 _)), (by omega), (by omega), (by omega), (by first | assumption | omega), (by first | assumption | omega), (by first | assumption | omega)⟩
    refine l_aload_n rfl rfl ?_
    refine l_sipush rfl rfl ?_
    have w94 : 0 ≤ Xi T1 904 102 ∧ Xi T1 904 102 ≤ 2600 := hHT1.c _ _
    have w95 : -1 ≤ Xi T1 904 103 ∧ Xi T1 904 103 ≤ 2600 := hHT1.c _ _
    have w96 : 0 ≤ Xi T1 904 65 ∧ Xi T1 904 65 ≤ 1 := hHT1.c _ _
    have w97 : 0 ≤ Xi T1 904 69 ∧ Xi T1 904 69 ≤ 2600 := hHT1.c _ _
    have w98 : 0 ≤ Xi T1 904 70 ∧ Xi T1 904 70 ≤ 20 := hHT1.c _ _
    have w99 : 0 ≤ Xi T1 904 8 ∧ Xi T1 904 8 ≤ 5010 := hHT1.c _ _
    have w100 : 0 ≤ Xi T1 904 93 ∧ Xi T1 904 93 ≤ 1700 := hHT1.c _ _
    have w101 : 0 ≤ Xi T1 904 94 ∧ Xi T1 904 94 ≤ 1700 := hHT1.c _ _
    have w102 : 0 ≤ Xi T1 904 98 ∧ Xi T1 904 98 ≤ 1700 := hHT1.c _ _
    refine l_callV rfl rfl rfl (t_mo_isNext hHT1 n c 137 ⟨by omega, by omega⟩ (by first | assumption | exact (TK_FR hFT1 rfl (by assumption : TK S _))) (by first | assumption | exact (by assumption : AT T1 _ _)) _) ?_
    rintro _ _ ⟨rfl, z105, rfl, w105, w103, w104⟩
    show Rl _ _ _ _ _ [iv z105] _ _
    have j87 : z105 = 1 → Xi T1 904 65 = 0 ∧ Xi T1 907 (Xi T1 904 8).toNat = 137 := by assumption
    refine l_if_eq rfl rfl (by unfold rg; omega) (fun w106 => ?_) (fun w107 => ?_)
    · have w108 : 0 ≤ Xi T1 904 102 ∧ Xi T1 904 102 ≤ 2600 := hHT1.c _ _
      have w109 : -1 ≤ Xi T1 904 103 ∧ Xi T1 904 103 ≤ 2600 := hHT1.c _ _
      have w110 : 0 ≤ Xi T1 904 65 ∧ Xi T1 904 65 ≤ 1 := hHT1.c _ _
      have w111 : 0 ≤ Xi T1 904 69 ∧ Xi T1 904 69 ≤ 2600 := hHT1.c _ _
      have w112 : 0 ≤ Xi T1 904 70 ∧ Xi T1 904 70 ≤ 20 := hHT1.c _ _
      have w113 : 0 ≤ Xi T1 904 8 ∧ Xi T1 904 8 ≤ 5010 := hHT1.c _ _
      have w114 : 0 ≤ Xi T1 904 93 ∧ Xi T1 904 93 ≤ 1700 := hHT1.c _ _
      have w115 : 0 ≤ Xi T1 904 94 ∧ Xi T1 904 94 ≤ 1700 := hHT1.c _ _
      have w116 : 0 ≤ Xi T1 904 98 ∧ Xi T1 904 98 ≤ 1700 := hHT1.c _ _
      exact Rl_weak (C107 T1 hHT1 hFT1  (by assumption) (by assumption) (by omega) (by omega) (by omega) (by omega) (by omega) (by omega) (by first | exact T104 | exact fun q i hi => absurd hi (by omega))) (And.intro rfl (True.intro))
    · refine l_aload_n rfl rfl ?_
      refine l_dup rfl rfl ?_
      refine l_gfi rfl rfl rfl rfl rfl ?_
      refine l_iconst rfl ?_
      refine l_iadd rfl ?_
      refine l_pfi rfl rfl rfl rfl ?_
      obtain ⟨U5, eU5⟩ : ∃ T : sS, T = uI T1 904 8 (Int32.ofInt ((Xi T1 904 8) + 1)) := ⟨_, rfl⟩
      rw [← eU5]
      have hHU5 : HI U5 := by rw [eU5]; exact HI_w hHT1 (show 0 ≤ ((Xi T1 904 8) + 1) by omega) (show ((Xi T1 904 8) + 1) ≤ 5010 by omega)
      have hFU5 : FR md_mo_rule S U5 := by rw [eU5]; exact FR.wI hFT1 (mdf_i (r := (904, 905, 8, 9)) (List.mem_of_getElem? (i := 0) rfl) (inR_i (by omega) (by omega) (by omega) (by omega)))
      have w117 : Xi U5 904 8 = ((Xi T1 904 8) + 1) := by rw [eU5]; exact Xi_same (by unfold rg; omega)
      have t100 : AT U5 n (c + 1) ∧ _ := at_mv (S := T1) (P := T1) (c2 := c + 1) (TK_FR hFT1 rfl hT) A83 (fun _ => rfl) (fun _ => rfl) rfl rfl rfl rfl eU5 (by omega) (by omega) (by omega) (by omega) (Or.inr ⟨rfl, by unfold K3; omega⟩)
      have a100 : AT U5 n (c + 1) := t100.1
      have l100 := t100.2
      refine l_aload_n rfl rfl ?_
      have w118 : Xi U5 904 102 = Xi T1 904 102 := (show Xi U5 904 102 = Xi T1 904 102 from by rw [eU5]; exact Xi_ne (by omega))
      have w119 : 0 ≤ Xi T1 904 102 ∧ Xi T1 904 102 ≤ 2600 := hHT1.c _ _
      have w120 : Xi U5 904 103 = Xi T1 904 103 := (show Xi U5 904 103 = Xi T1 904 103 from by rw [eU5]; exact Xi_ne (by omega))
      have w121 : -1 ≤ Xi T1 904 103 ∧ Xi T1 904 103 ≤ 2600 := hHT1.c _ _
      have w122 : Xi U5 904 65 = Xi T1 904 65 := (show Xi U5 904 65 = Xi T1 904 65 from by rw [eU5]; exact Xi_ne (by omega))
      have w123 : 0 ≤ Xi T1 904 65 ∧ Xi T1 904 65 ≤ 1 := hHT1.c _ _
      have w124 : Xi U5 904 69 = Xi T1 904 69 := (show Xi U5 904 69 = Xi T1 904 69 from by rw [eU5]; exact Xi_ne (by omega))
      have w125 : 0 ≤ Xi T1 904 69 ∧ Xi T1 904 69 ≤ 2600 := hHT1.c _ _
      have w126 : Xi U5 904 70 = Xi T1 904 70 := (show Xi U5 904 70 = Xi T1 904 70 from by rw [eU5]; exact Xi_ne (by omega))
      have w127 : 0 ≤ Xi T1 904 70 ∧ Xi T1 904 70 ≤ 20 := hHT1.c _ _
      have w128 : 0 ≤ Xi U5 904 8 ∧ Xi U5 904 8 ≤ 5010 := hHU5.c _ _
      have w129 : Xi U5 904 93 = Xi T1 904 93 := (show Xi U5 904 93 = Xi T1 904 93 from by rw [eU5]; exact Xi_ne (by omega))
      have w130 : 0 ≤ Xi T1 904 93 ∧ Xi T1 904 93 ≤ 1700 := hHT1.c _ _
      have w131 : Xi U5 904 94 = Xi T1 904 94 := (show Xi U5 904 94 = Xi T1 904 94 from by rw [eU5]; exact Xi_ne (by omega))
      have w132 : 0 ≤ Xi T1 904 94 ∧ Xi T1 904 94 ≤ 1700 := hHT1.c _ _
      have w133 : Xi U5 904 98 = Xi T1 904 98 := (show Xi U5 904 98 = Xi T1 904 98 from by rw [eU5]; exact Xi_ne (by omega))
      have w134 : 0 ≤ Xi T1 904 98 ∧ Xi T1 904 98 ≤ 1700 := hHT1.c _ _
      refine l_callV rfl rfl rfl (t_mo_tests hHU5 n (c + 1) (by first | assumption | exact (TK_FR hFU5 rfl (by assumption : TK S _))) (by first | assumption | exact (by assumption : AT U5 _ _)) (by first | assumption | exact (RNV_FR (FR_e eU5) rfl (by assumption : RNV T1 _))) (by first | assumption | omega) (by first | assumption | omega) (by first | assumption | omega) _) ?_
      rintro _ T6 ⟨hHT6, w144, rfl, w135, w136, w137, w138, w139, w140, w141, w142⟩
      have hFT6 : FR md_mo_rule S T6 := FR.tr hFU5 w144 rfl
      show Rl _ _ _ _ _ [] _ _
      have a104 : AT T6 n c := (by assumption : AT T6 n (c + 1 - 1))
      have T104 : Xi T6 904 65 = 0 → TVA T6 n (Xi T6 904 94) := fun q => by rw [(by omega : Xi T6 904 94 = Xi T6 904 93)]; exact (by assumption : Xi T6 904 65 = 0 → TVA T6 n (Xi T6 904 93)) q
      have w145 : Xi T6 904 102 = Xi T1 904 102 := (show Xi T6 904 102 = Xi U5 904 102 from w144.x _ _ rfl).trans ((show Xi U5 904 102 = Xi T1 904 102 from by rw [eU5]; exact Xi_ne (by omega)))
      have w146 : 0 ≤ Xi T1 904 102 ∧ Xi T1 904 102 ≤ 2600 := hHT1.c _ _
      have w147 : Xi T6 904 103 = Xi T1 904 103 := (show Xi T6 904 103 = Xi U5 904 103 from w144.x _ _ rfl).trans ((show Xi U5 904 103 = Xi T1 904 103 from by rw [eU5]; exact Xi_ne (by omega)))
      have w148 : -1 ≤ Xi T1 904 103 ∧ Xi T1 904 103 ≤ 2600 := hHT1.c _ _
      have w149 : 0 ≤ Xi T6 904 65 ∧ Xi T6 904 65 ≤ 1 := hHT6.c _ _
      have w150 : 0 ≤ Xi T6 904 69 ∧ Xi T6 904 69 ≤ 2600 := hHT6.c _ _
      have w151 : Xi T6 904 70 = Xi T1 904 70 := (show Xi T6 904 70 = Xi U5 904 70 from w144.x _ _ rfl).trans ((show Xi U5 904 70 = Xi T1 904 70 from by rw [eU5]; exact Xi_ne (by omega)))
      have w152 : 0 ≤ Xi T1 904 70 ∧ Xi T1 904 70 ≤ 20 := hHT1.c _ _
      have w153 : 0 ≤ Xi T6 904 8 ∧ Xi T6 904 8 ≤ 5010 := hHT6.c _ _
      have w154 : 0 ≤ Xi T6 904 93 ∧ Xi T6 904 93 ≤ 1700 := hHT6.c _ _
      have w155 : 0 ≤ Xi T6 904 94 ∧ Xi T6 904 94 ≤ 1700 := hHT6.c _ _
      have w156 : Xi T6 904 98 = Xi T1 904 98 := (show Xi T6 904 98 = Xi U5 904 98 from w144.x _ _ rfl).trans ((show Xi U5 904 98 = Xi T1 904 98 from by rw [eU5]; exact Xi_ne (by omega)))
      have w157 : 0 ≤ Xi T1 904 98 ∧ Xi T1 904 98 ≤ 1700 := hHT1.c _ _
      exact Rl_weak (C107 T6 hHT6 hFT6  (by assumption) (by assumption) (by omega) (by omega) (by omega) (by omega) (by omega) (by omega) (by first | exact T104 | exact fun q i hi => absurd hi (by omega))) (And.intro rfl (True.intro))
  refine l_aload_n rfl rfl ?_
  refine l_iload_n rfl rfl ?_
  refine l_pfi rfl rfl rfl rfl ?_
  obtain ⟨U7, eU7⟩ : ∃ T : sS, T = uI S 904 70 (Int32.ofInt s) := ⟨_, rfl⟩
  rw [← eU7]
  have hHU7 : HI U7 := by rw [eU7]; exact HI_w hH (show 0 ≤ s by omega) (show s ≤ 20 by omega)
  have hFU7 : FR md_mo_rule S U7 := by rw [eU7]; exact FR.wI hF (mdf_i (r := (904, 905, 70, 71)) (List.mem_of_getElem? (i := 4) rfl) (inR_i (by omega) (by omega) (by omega) (by omega)))
  have w158 : Xi U7 904 70 = s := by rw [eU7]; exact Xi_same (by unfold rg; omega)
  have s2_8 : Xi U7 904 8 = Xi S 904 8 := by rw [eU7, Xi_ne (by omega)]
  have s2_65 : Xi U7 904 65 = Xi S 904 65 := by rw [eU7, Xi_ne (by omega)]
  have s2_69 : Xi U7 904 69 = Xi S 904 69 := by rw [eU7, Xi_ne (by omega)]
  have s2_93 : Xi U7 904 93 = Xi S 904 93 := by rw [eU7, Xi_ne (by omega)]
  refine l_aload_n rfl rfl ?_
  refine l_dup rfl rfl ?_
  refine l_gfi rfl rfl rfl rfl rfl ?_
  have w159 : (Xi U7 904 8) = (Xi S 904 8) := (show Xi U7 904 8 = Xi S 904 8 from by rw [eU7]; exact Xi_ne (by omega))
  rw [w159]
  refine l_iconst rfl ?_
  refine l_iadd rfl ?_
  refine l_pfi rfl rfl rfl rfl ?_
  obtain ⟨U8, eU8⟩ : ∃ T : sS, T = uI U7 904 8 (Int32.ofInt ((Xi S 904 8) + 1)) := ⟨_, rfl⟩
  rw [← eU8]
  have hHU8 : HI U8 := by rw [eU8]; exact HI_w hHU7 (show 0 ≤ ((Xi S 904 8) + 1) by omega) (show ((Xi S 904 8) + 1) ≤ 5010 by omega)
  have hFU8 : FR md_mo_rule S U8 := by rw [eU8]; exact FR.wI hFU7 (mdf_i (r := (904, 905, 8, 9)) (List.mem_of_getElem? (i := 0) rfl) (inR_i (by omega) (by omega) (by omega) (by omega)))
  have w160 : Xi U8 904 8 = ((Xi S 904 8) + 1) := by rw [eU8]; exact Xi_same (by unfold rg; omega)
  have t12 : AT U8 n c ∧ _ := at_mv hT hA (fun j => (hFU7.cx 907 rfl j).1) (fun j => (hFU7.cx 908 rfl j).1) (by omega) (by omega) (by omega) (by omega) eU8 (by omega) (by omega) (by omega) (by omega) (Or.inl rfl)
  have a12 : AT U8 n c := t12.1
  refine l_iload_n rfl rfl ?_
  refine l_iconst rfl ?_
  refine l_icmp_ne rfl rfl (by unfold rg; omega) (by unfold rg; omega) (fun w161 => ?_) (fun w162 => ?_)
  · refine l_iload_n rfl rfl ?_
    refine l_bipush rfl rfl ?_
    refine l_icmp_ne rfl rfl (by unfold rg; omega) (by unfold rg; omega) (fun w163 => ?_) (fun w164 => ?_)
    · refine l_aload_n rfl rfl ?_
      refine l_aload_n rfl rfl ?_
      have w165 : Xi U8 904 102 = Xi S 904 102 := (show Xi U8 904 102 = Xi U7 904 102 from by rw [eU8]; exact Xi_ne (by omega)).trans ((show Xi U7 904 102 = Xi S 904 102 from by rw [eU7]; exact Xi_ne (by omega)))
      have w166 : 0 ≤ Xi S 904 102 ∧ Xi S 904 102 ≤ 2600 := hH.c _ _
      have w167 : Xi U8 904 103 = Xi S 904 103 := (show Xi U8 904 103 = Xi U7 904 103 from by rw [eU8]; exact Xi_ne (by omega)).trans ((show Xi U7 904 103 = Xi S 904 103 from by rw [eU7]; exact Xi_ne (by omega)))
      have w168 : -1 ≤ Xi S 904 103 ∧ Xi S 904 103 ≤ 2600 := hH.c _ _
      have w169 : Xi U8 904 65 = Xi S 904 65 := (show Xi U8 904 65 = Xi U7 904 65 from by rw [eU8]; exact Xi_ne (by omega)).trans ((show Xi U7 904 65 = Xi S 904 65 from by rw [eU7]; exact Xi_ne (by omega)))
      have w170 : 0 ≤ Xi S 904 65 ∧ Xi S 904 65 ≤ 1 := hH.c _ _
      have w171 : Xi U8 904 69 = Xi S 904 69 := (show Xi U8 904 69 = Xi U7 904 69 from by rw [eU8]; exact Xi_ne (by omega)).trans ((show Xi U7 904 69 = Xi S 904 69 from by rw [eU7]; exact Xi_ne (by omega)))
      have w172 : 0 ≤ Xi S 904 69 ∧ Xi S 904 69 ≤ 2600 := hH.c _ _
      have w173 : Xi U8 904 70 = Xi U7 904 70 := (show Xi U8 904 70 = Xi U7 904 70 from by rw [eU8]; exact Xi_ne (by omega))
      have w174 : 0 ≤ Xi U7 904 70 ∧ Xi U7 904 70 ≤ 20 := hHU7.c _ _
      have w175 : 0 ≤ Xi U8 904 8 ∧ Xi U8 904 8 ≤ 5010 := hHU8.c _ _
      have w176 : Xi U8 904 93 = Xi S 904 93 := (show Xi U8 904 93 = Xi U7 904 93 from by rw [eU8]; exact Xi_ne (by omega)).trans ((show Xi U7 904 93 = Xi S 904 93 from by rw [eU7]; exact Xi_ne (by omega)))
      have w177 : 0 ≤ Xi S 904 93 ∧ Xi S 904 93 ≤ 1700 := hH.c _ _
      have w178 : Xi U8 904 94 = Xi S 904 94 := (show Xi U8 904 94 = Xi U7 904 94 from by rw [eU8]; exact Xi_ne (by omega)).trans ((show Xi U7 904 94 = Xi S 904 94 from by rw [eU7]; exact Xi_ne (by omega)))
      have w179 : 0 ≤ Xi S 904 94 ∧ Xi S 904 94 ≤ 1700 := hH.c _ _
      have w180 : Xi U8 904 98 = Xi S 904 98 := (show Xi U8 904 98 = Xi U7 904 98 from by rw [eU8]; exact Xi_ne (by omega)).trans ((show Xi U7 904 98 = Xi S 904 98 from by rw [eU7]; exact Xi_ne (by omega)))
      have w181 : 0 ≤ Xi S 904 98 ∧ Xi S 904 98 ≤ 1700 := hH.c _ _
      refine l_callV rfl rfl rfl (t_mo_run hHU8 n c (by first | assumption | exact (TK_FR hFU8 rfl (by assumption : TK S _))) (by first | assumption | exact (by assumption : AT U8 _ _)) (by first | assumption | exact (RNV_FR (FR_e eU8) rfl (RNV_FR (FR_e eU7) rfl (by assumption : RNV S _)))) _) ?_
      rintro _ T9 ⟨hHT9, w188, z187, rfl, w187, w182, w183, w184, w185, w186⟩
      have hFT9 : FR md_mo_rule S T9 := FR.tr hFU8 w188 rfl
      show Rl _ _ _ _ _ [iv z187, .ref 904] _ _
      refine l_pfi rfl rfl rfl rfl ?_
      obtain ⟨U10, eU10⟩ : ∃ T : sS, T = uI T9 904 102 (Int32.ofInt z187) := ⟨_, rfl⟩
      rw [← eU10]
      have hHU10 : HI U10 := by rw [eU10]; exact HI_w hHT9 (show 0 ≤ z187 by omega) (show z187 ≤ 2600 by omega)
      have hFU10 : FR md_mo_rule S U10 := by rw [eU10]; exact FR.wI hFT9 (mdf_i (r := (904, 905, 102, 103)) (List.mem_of_getElem? (i := 12) rfl) (inR_i (by omega) (by omega) (by omega) (by omega)))
      have w189 : Xi U10 904 102 = z187 := by rw [eU10]; exact Xi_same (by unfold rg; omega)
      have a47 : AT U10 n c := AT_FR (FR_e eU10) rfl (by assumption)
      have v47 : RNV U10 n := RNV_FR (FR_e eU10) rfl (by assumption)
      have s47_8 : Xi U10 904 8 = Xi T9 904 8 := by rw [eU10, Xi_ne (by omega)]
      have s47_65 : Xi U10 904 65 = Xi T9 904 65 := by rw [eU10, Xi_ne (by omega)]
      have s47_69 : Xi U10 904 69 = Xi T9 904 69 := by rw [eU10, Xi_ne (by omega)]
      have s47_8 : Xi U10 904 8 = Xi T9 904 8 := by rw [eU10, Xi_ne (by omega)]
      refine l_aload_n rfl rfl ?_
      refine l_iconst rfl ?_
      refine l_pfi rfl rfl rfl rfl ?_
      obtain ⟨U11, eU11⟩ : ∃ T : sS, T = uI U10 904 103 (Int32.ofInt (-1)) := ⟨_, rfl⟩
      rw [← eU11]
      have hHU11 : HI U11 := by rw [eU11]; exact HI_w hHU10 (show -1 ≤ (-1) by omega) (show (-1) ≤ 2600 by omega)
      have hFU11 : FR md_mo_rule S U11 := by rw [eU11]; exact FR.wI hFU10 (mdf_i (r := (904, 905, 103, 104)) (List.mem_of_getElem? (i := 13) rfl) (inR_i (by omega) (by omega) (by omega) (by omega)))
      have w190 : Xi U11 904 103 = (-1) := by rw [eU11]; exact Xi_same (by unfold rg; omega)
      have a52 : AT U11 n c := AT_FR (FR_e eU11) rfl a47
      refine l_aload_n rfl rfl ?_
      have w191 : Xi U11 904 102 = Xi U10 904 102 := (show Xi U11 904 102 = Xi U10 904 102 from by rw [eU11]; exact Xi_ne (by omega))
      have w192 : 0 ≤ Xi U10 904 102 ∧ Xi U10 904 102 ≤ 2600 := hHU10.c _ _
      have w193 : -1 ≤ Xi U11 904 103 ∧ Xi U11 904 103 ≤ 2600 := hHU11.c _ _
      have w194 : Xi U11 904 65 = Xi T9 904 65 := (show Xi U11 904 65 = Xi U10 904 65 from by rw [eU11]; exact Xi_ne (by omega)).trans ((show Xi U10 904 65 = Xi T9 904 65 from by rw [eU10]; exact Xi_ne (by omega)))
      have w195 : 0 ≤ Xi T9 904 65 ∧ Xi T9 904 65 ≤ 1 := hHT9.c _ _
      have w196 : Xi U11 904 69 = Xi T9 904 69 := (show Xi U11 904 69 = Xi U10 904 69 from by rw [eU11]; exact Xi_ne (by omega)).trans ((show Xi U10 904 69 = Xi T9 904 69 from by rw [eU10]; exact Xi_ne (by omega)))
      have w197 : 0 ≤ Xi T9 904 69 ∧ Xi T9 904 69 ≤ 2600 := hHT9.c _ _
      have w198 : Xi U11 904 70 = Xi U7 904 70 := (show Xi U11 904 70 = Xi U10 904 70 from by rw [eU11]; exact Xi_ne (by omega)).trans ( (show Xi U10 904 70 = Xi T9 904 70 from by rw [eU10]; exact Xi_ne (by omega)).trans ( (show Xi T9 904 70 = Xi U8 904 70 from w188.x _ _ rfl).trans ((show Xi U8 904 70 = Xi U7 904 70 from by rw [eU8]; exact Xi_ne (by omega)))))
      have w199 : 0 ≤ Xi U7 904 70 ∧ Xi U7 904 70 ≤ 20 := hHU7.c _ _
      have w200 : Xi U11 904 8 = Xi T9 904 8 := (show Xi U11 904 8 = Xi U10 904 8 from by rw [eU11]; exact Xi_ne (by omega)).trans ((show Xi U10 904 8 = Xi T9 904 8 from by rw [eU10]; exact Xi_ne (by omega)))
      have w201 : 0 ≤ Xi T9 904 8 ∧ Xi T9 904 8 ≤ 5010 := hHT9.c _ _
      have w202 : Xi U11 904 93 = Xi S 904 93 := (show Xi U11 904 93 = Xi U10 904 93 from by rw [eU11]; exact Xi_ne (by omega)).trans ( (show Xi U10 904 93 = Xi T9 904 93 from by rw [eU10]; exact Xi_ne (by omega)).trans ( (show Xi T9 904 93 = Xi U8 904 93 from w188.x _ _ rfl).trans ( (show Xi U8 904 93 = Xi U7 904 93 from by rw [eU8]; exact Xi_ne (by omega)).trans ((show Xi U7 904 93 = Xi S 904 93 from by rw [eU7]; exact Xi_ne (by omega))))))
      have w203 : 0 ≤ Xi S 904 93 ∧ Xi S 904 93 ≤ 1700 := hH.c _ _
      have w204 : Xi U11 904 94 = Xi S 904 94 := (show Xi U11 904 94 = Xi U10 904 94 from by rw [eU11]; exact Xi_ne (by omega)).trans ( (show Xi U10 904 94 = Xi T9 904 94 from by rw [eU10]; exact Xi_ne (by omega)).trans ( (show Xi T9 904 94 = Xi U8 904 94 from w188.x _ _ rfl).trans ( (show Xi U8 904 94 = Xi U7 904 94 from by rw [eU8]; exact Xi_ne (by omega)).trans ((show Xi U7 904 94 = Xi S 904 94 from by rw [eU7]; exact Xi_ne (by omega))))))
      have w205 : 0 ≤ Xi S 904 94 ∧ Xi S 904 94 ≤ 1700 := hH.c _ _
      have w206 : Xi U11 904 98 = Xi S 904 98 := (show Xi U11 904 98 = Xi U10 904 98 from by rw [eU11]; exact Xi_ne (by omega)).trans ( (show Xi U10 904 98 = Xi T9 904 98 from by rw [eU10]; exact Xi_ne (by omega)).trans ( (show Xi T9 904 98 = Xi U8 904 98 from w188.x _ _ rfl).trans ( (show Xi U8 904 98 = Xi U7 904 98 from by rw [eU8]; exact Xi_ne (by omega)).trans ((show Xi U7 904 98 = Xi S 904 98 from by rw [eU7]; exact Xi_ne (by omega))))))
      have w207 : 0 ≤ Xi S 904 98 ∧ Xi S 904 98 ≤ 1700 := hH.c _ _
      refine l_callV rfl rfl rfl (t_mo_look hHU11 n c (by first | assumption | exact (TK_FR hFU11 rfl (by assumption : TK S _))) (by first | assumption | exact (AT_FR (FR_e eU11) rfl (AT_FR (FR_e eU10) rfl (by assumption : AT T9 _ _)))) _) ?_
      rintro _ _ ⟨rfl, z209, rfl, w209, w208⟩
      show Rl _ _ _ _ _ [iv z209] _ _
      have l56 : z209 ≠ 1 → Xi U11 904 65 = 0 ∧ Xi U11 907 (Xi U11 904 8).toNat = z209 := by assumption
      have w210 : Xi U11 904 102 = Xi U10 904 102 := (show Xi U11 904 102 = Xi U10 904 102 from by rw [eU11]; exact Xi_ne (by omega))
      have w211 : 0 ≤ Xi U10 904 102 ∧ Xi U10 904 102 ≤ 2600 := hHU10.c _ _
      have w212 : -1 ≤ Xi U11 904 103 ∧ Xi U11 904 103 ≤ 2600 := hHU11.c _ _
      have w213 : Xi U11 904 65 = Xi T9 904 65 := (show Xi U11 904 65 = Xi U10 904 65 from by rw [eU11]; exact Xi_ne (by omega)).trans ((show Xi U10 904 65 = Xi T9 904 65 from by rw [eU10]; exact Xi_ne (by omega)))
      have w214 : 0 ≤ Xi T9 904 65 ∧ Xi T9 904 65 ≤ 1 := hHT9.c _ _
      have w215 : Xi U11 904 69 = Xi T9 904 69 := (show Xi U11 904 69 = Xi U10 904 69 from by rw [eU11]; exact Xi_ne (by omega)).trans ((show Xi U10 904 69 = Xi T9 904 69 from by rw [eU10]; exact Xi_ne (by omega)))
      have w216 : 0 ≤ Xi T9 904 69 ∧ Xi T9 904 69 ≤ 2600 := hHT9.c _ _
      have w217 : Xi U11 904 70 = Xi U7 904 70 := (show Xi U11 904 70 = Xi U10 904 70 from by rw [eU11]; exact Xi_ne (by omega)).trans ( (show Xi U10 904 70 = Xi T9 904 70 from by rw [eU10]; exact Xi_ne (by omega)).trans ( (show Xi T9 904 70 = Xi U8 904 70 from w188.x _ _ rfl).trans ((show Xi U8 904 70 = Xi U7 904 70 from by rw [eU8]; exact Xi_ne (by omega)))))
      have w218 : 0 ≤ Xi U7 904 70 ∧ Xi U7 904 70 ≤ 20 := hHU7.c _ _
      have w219 : Xi U11 904 8 = Xi T9 904 8 := (show Xi U11 904 8 = Xi U10 904 8 from by rw [eU11]; exact Xi_ne (by omega)).trans ((show Xi U10 904 8 = Xi T9 904 8 from by rw [eU10]; exact Xi_ne (by omega)))
      have w220 : 0 ≤ Xi T9 904 8 ∧ Xi T9 904 8 ≤ 5010 := hHT9.c _ _
      have w221 : Xi U11 904 93 = Xi S 904 93 := (show Xi U11 904 93 = Xi U10 904 93 from by rw [eU11]; exact Xi_ne (by omega)).trans ( (show Xi U10 904 93 = Xi T9 904 93 from by rw [eU10]; exact Xi_ne (by omega)).trans ( (show Xi T9 904 93 = Xi U8 904 93 from w188.x _ _ rfl).trans ( (show Xi U8 904 93 = Xi U7 904 93 from by rw [eU8]; exact Xi_ne (by omega)).trans ((show Xi U7 904 93 = Xi S 904 93 from by rw [eU7]; exact Xi_ne (by omega))))))
      have w222 : 0 ≤ Xi S 904 93 ∧ Xi S 904 93 ≤ 1700 := hH.c _ _
      have w223 : Xi U11 904 94 = Xi S 904 94 := (show Xi U11 904 94 = Xi U10 904 94 from by rw [eU11]; exact Xi_ne (by omega)).trans ( (show Xi U10 904 94 = Xi T9 904 94 from by rw [eU10]; exact Xi_ne (by omega)).trans ( (show Xi T9 904 94 = Xi U8 904 94 from w188.x _ _ rfl).trans ( (show Xi U8 904 94 = Xi U7 904 94 from by rw [eU8]; exact Xi_ne (by omega)).trans ((show Xi U7 904 94 = Xi S 904 94 from by rw [eU7]; exact Xi_ne (by omega))))))
      have w224 : 0 ≤ Xi S 904 94 ∧ Xi S 904 94 ≤ 1700 := hH.c _ _
      have w225 : Xi U11 904 98 = Xi S 904 98 := (show Xi U11 904 98 = Xi U10 904 98 from by rw [eU11]; exact Xi_ne (by omega)).trans ( (show Xi U10 904 98 = Xi T9 904 98 from by rw [eU10]; exact Xi_ne (by omega)).trans ( (show Xi T9 904 98 = Xi U8 904 98 from w188.x _ _ rfl).trans ( (show Xi U8 904 98 = Xi U7 904 98 from by rw [eU8]; exact Xi_ne (by omega)).trans ((show Xi U7 904 98 = Xi S 904 98 from by rw [eU7]; exact Xi_ne (by omega))))))
      have w226 : 0 ≤ Xi S 904 98 ∧ Xi S 904 98 ≤ 1700 := hH.c _ _
      refine l_callS rfl rfl (by decide) rfl (t_mo_isArt hHU11 z209 ⟨by omega, by omega⟩ _) ?_
      rintro _ _ ⟨rfl, z228, rfl, w228, w227⟩
      show Rl _ _ _ _ _ [iv z228] _ _
      refine l_if_eq rfl rfl (by unfold rg; omega) (fun w229 => ?_) (fun w230 => ?_)
      · have w231 : Xi U11 904 102 = Xi U10 904 102 := (show Xi U11 904 102 = Xi U10 904 102 from by rw [eU11]; exact Xi_ne (by omega))
        have w232 : 0 ≤ Xi U10 904 102 ∧ Xi U10 904 102 ≤ 2600 := hHU10.c _ _
        have w233 : -1 ≤ Xi U11 904 103 ∧ Xi U11 904 103 ≤ 2600 := hHU11.c _ _
        have w234 : Xi U11 904 65 = Xi T9 904 65 := (show Xi U11 904 65 = Xi U10 904 65 from by rw [eU11]; exact Xi_ne (by omega)).trans ((show Xi U10 904 65 = Xi T9 904 65 from by rw [eU10]; exact Xi_ne (by omega)))
        have w235 : 0 ≤ Xi T9 904 65 ∧ Xi T9 904 65 ≤ 1 := hHT9.c _ _
        have w236 : Xi U11 904 69 = Xi T9 904 69 := (show Xi U11 904 69 = Xi U10 904 69 from by rw [eU11]; exact Xi_ne (by omega)).trans ((show Xi U10 904 69 = Xi T9 904 69 from by rw [eU10]; exact Xi_ne (by omega)))
        have w237 : 0 ≤ Xi T9 904 69 ∧ Xi T9 904 69 ≤ 2600 := hHT9.c _ _
        have w238 : Xi U11 904 70 = Xi U7 904 70 := (show Xi U11 904 70 = Xi U10 904 70 from by rw [eU11]; exact Xi_ne (by omega)).trans ( (show Xi U10 904 70 = Xi T9 904 70 from by rw [eU10]; exact Xi_ne (by omega)).trans ( (show Xi T9 904 70 = Xi U8 904 70 from w188.x _ _ rfl).trans ((show Xi U8 904 70 = Xi U7 904 70 from by rw [eU8]; exact Xi_ne (by omega)))))
        have w239 : 0 ≤ Xi U7 904 70 ∧ Xi U7 904 70 ≤ 20 := hHU7.c _ _
        have w240 : Xi U11 904 8 = Xi T9 904 8 := (show Xi U11 904 8 = Xi U10 904 8 from by rw [eU11]; exact Xi_ne (by omega)).trans ((show Xi U10 904 8 = Xi T9 904 8 from by rw [eU10]; exact Xi_ne (by omega)))
        have w241 : 0 ≤ Xi T9 904 8 ∧ Xi T9 904 8 ≤ 5010 := hHT9.c _ _
        have w242 : Xi U11 904 93 = Xi S 904 93 := (show Xi U11 904 93 = Xi U10 904 93 from by rw [eU11]; exact Xi_ne (by omega)).trans ( (show Xi U10 904 93 = Xi T9 904 93 from by rw [eU10]; exact Xi_ne (by omega)).trans ( (show Xi T9 904 93 = Xi U8 904 93 from w188.x _ _ rfl).trans ( (show Xi U8 904 93 = Xi U7 904 93 from by rw [eU8]; exact Xi_ne (by omega)).trans ((show Xi U7 904 93 = Xi S 904 93 from by rw [eU7]; exact Xi_ne (by omega))))))
        have w243 : 0 ≤ Xi S 904 93 ∧ Xi S 904 93 ≤ 1700 := hH.c _ _
        have w244 : Xi U11 904 94 = Xi S 904 94 := (show Xi U11 904 94 = Xi U10 904 94 from by rw [eU11]; exact Xi_ne (by omega)).trans ( (show Xi U10 904 94 = Xi T9 904 94 from by rw [eU10]; exact Xi_ne (by omega)).trans ( (show Xi T9 904 94 = Xi U8 904 94 from w188.x _ _ rfl).trans ( (show Xi U8 904 94 = Xi U7 904 94 from by rw [eU8]; exact Xi_ne (by omega)).trans ((show Xi U7 904 94 = Xi S 904 94 from by rw [eU7]; exact Xi_ne (by omega))))))
        have w245 : 0 ≤ Xi S 904 94 ∧ Xi S 904 94 ≤ 1700 := hH.c _ _
        have w246 : Xi U11 904 98 = Xi S 904 98 := (show Xi U11 904 98 = Xi U10 904 98 from by rw [eU11]; exact Xi_ne (by omega)).trans ( (show Xi U10 904 98 = Xi T9 904 98 from by rw [eU10]; exact Xi_ne (by omega)).trans ( (show Xi T9 904 98 = Xi U8 904 98 from w188.x _ _ rfl).trans ( (show Xi U8 904 98 = Xi U7 904 98 from by rw [eU8]; exact Xi_ne (by omega)).trans ((show Xi U7 904 98 = Xi S 904 98 from by rw [eU7]; exact Xi_ne (by omega))))))
        have w247 : 0 ≤ Xi S 904 98 ∧ Xi S 904 98 ≤ 1700 := hH.c _ _
        exact Rl_weak (C83 U11 hHU11 hFU11  (by assumption) (by first | assumption | exact (RNV_FR (FR_e eU11) rfl (RNV_FR (FR_e eU10) rfl (by assumption : RNV T9 _)))) (by omega) (by omega) (by omega) (by omega) (by omega) (by omega)) (And.intro rfl (True.intro))
      · refine l_aload_n rfl rfl ?_
        refine l_dup rfl rfl ?_
        refine l_gfi rfl rfl rfl rfl rfl ?_
        have w248 : 0 ≤ (Xi U11 904 8) ∧ (Xi U11 904 8) ≤ 5010 := hHU11.c _ _
        refine l_iconst rfl ?_
        refine l_iadd rfl ?_
        refine l_pfi rfl rfl rfl rfl ?_
        obtain ⟨U12, eU12⟩ : ∃ T : sS, T = uI U11 904 8 (Int32.ofInt ((Xi U11 904 8) + 1)) := ⟨_, rfl⟩
        rw [← eU12]
        have hHU12 : HI U12 := by rw [eU12]; exact HI_w hHU11 (show 0 ≤ ((Xi U11 904 8) + 1) by omega) (show ((Xi U11 904 8) + 1) ≤ 5010 by omega)
        have hFU12 : FR md_mo_rule S U12 := by rw [eU12]; exact FR.wI hFU11 (mdf_i (r := (904, 905, 8, 9)) (List.mem_of_getElem? (i := 0) rfl) (inR_i (by omega) (by omega) (by omega) (by omega)))
        have w249 : Xi U12 904 8 = ((Xi U11 904 8) + 1) := by rw [eU12]; exact Xi_same (by unfold rg; omega)
        have t72 : AT U12 n c ∧ _ := at_mv (S := U11) (P := U11) (c2 := c) (TK_FR hFU11 rfl hT) (by assumption) (fun _ => rfl) (fun _ => rfl) rfl rfl rfl rfl eU12 (by omega) (by omega) (by omega) (by omega) (Or.inl rfl)
        have a72 : AT U12 n c := t72.1
        have l72 := t72.2
        refine l_aload_n rfl rfl ?_
        refine l_aload_n rfl rfl ?_
        have w250 : Xi U12 904 102 = Xi U10 904 102 := (show Xi U12 904 102 = Xi U11 904 102 from by rw [eU12]; exact Xi_ne (by omega)).trans ((show Xi U11 904 102 = Xi U10 904 102 from by rw [eU11]; exact Xi_ne (by omega)))
        have w251 : 0 ≤ Xi U10 904 102 ∧ Xi U10 904 102 ≤ 2600 := hHU10.c _ _
        have w252 : Xi U12 904 103 = Xi U11 904 103 := (show Xi U12 904 103 = Xi U11 904 103 from by rw [eU12]; exact Xi_ne (by omega))
        have w253 : -1 ≤ Xi U11 904 103 ∧ Xi U11 904 103 ≤ 2600 := hHU11.c _ _
        have w254 : Xi U12 904 65 = Xi T9 904 65 := (show Xi U12 904 65 = Xi U11 904 65 from by rw [eU12]; exact Xi_ne (by omega)).trans ( (show Xi U11 904 65 = Xi U10 904 65 from by rw [eU11]; exact Xi_ne (by omega)).trans ((show Xi U10 904 65 = Xi T9 904 65 from by rw [eU10]; exact Xi_ne (by omega))))
        have w255 : 0 ≤ Xi T9 904 65 ∧ Xi T9 904 65 ≤ 1 := hHT9.c _ _
        have w256 : Xi U12 904 69 = Xi T9 904 69 := (show Xi U12 904 69 = Xi U11 904 69 from by rw [eU12]; exact Xi_ne (by omega)).trans ( (show Xi U11 904 69 = Xi U10 904 69 from by rw [eU11]; exact Xi_ne (by omega)).trans ((show Xi U10 904 69 = Xi T9 904 69 from by rw [eU10]; exact Xi_ne (by omega))))
        have w257 : 0 ≤ Xi T9 904 69 ∧ Xi T9 904 69 ≤ 2600 := hHT9.c _ _
        have w258 : Xi U12 904 70 = Xi U7 904 70 := (show Xi U12 904 70 = Xi U11 904 70 from by rw [eU12]; exact Xi_ne (by omega)).trans ( (show Xi U11 904 70 = Xi U10 904 70 from by rw [eU11]; exact Xi_ne (by omega)).trans ( (show Xi U10 904 70 = Xi T9 904 70 from by rw [eU10]; exact Xi_ne (by omega)).trans ( (show Xi T9 904 70 = Xi U8 904 70 from w188.x _ _ rfl).trans ((show Xi U8 904 70 = Xi U7 904 70 from by rw [eU8]; exact Xi_ne (by omega))))))
        have w259 : 0 ≤ Xi U7 904 70 ∧ Xi U7 904 70 ≤ 20 := hHU7.c _ _
        have w260 : 0 ≤ Xi U12 904 8 ∧ Xi U12 904 8 ≤ 5010 := hHU12.c _ _
        have w261 : Xi U12 904 93 = Xi S 904 93 := (show Xi U12 904 93 = Xi U11 904 93 from by rw [eU12]; exact Xi_ne (by omega)).trans ( (show Xi U11 904 93 = Xi U10 904 93 from by rw [eU11]; exact Xi_ne (by omega)).trans ( (show Xi U10 904 93 = Xi T9 904 93 from by rw [eU10]; exact Xi_ne (by omega)).trans ( (show Xi T9 904 93 = Xi U8 904 93 from w188.x _ _ rfl).trans ( (show Xi U8 904 93 = Xi U7 904 93 from by rw [eU8]; exact Xi_ne (by omega)).trans ((show Xi U7 904 93 = Xi S 904 93 from by rw [eU7]; exact Xi_ne (by omega)))))))
        have w262 : 0 ≤ Xi S 904 93 ∧ Xi S 904 93 ≤ 1700 := hH.c _ _
        have w263 : Xi U12 904 94 = Xi S 904 94 := (show Xi U12 904 94 = Xi U11 904 94 from by rw [eU12]; exact Xi_ne (by omega)).trans ( (show Xi U11 904 94 = Xi U10 904 94 from by rw [eU11]; exact Xi_ne (by omega)).trans ( (show Xi U10 904 94 = Xi T9 904 94 from by rw [eU10]; exact Xi_ne (by omega)).trans ( (show Xi T9 904 94 = Xi U8 904 94 from w188.x _ _ rfl).trans ( (show Xi U8 904 94 = Xi U7 904 94 from by rw [eU8]; exact Xi_ne (by omega)).trans ((show Xi U7 904 94 = Xi S 904 94 from by rw [eU7]; exact Xi_ne (by omega)))))))
        have w264 : 0 ≤ Xi S 904 94 ∧ Xi S 904 94 ≤ 1700 := hH.c _ _
        have w265 : Xi U12 904 98 = Xi S 904 98 := (show Xi U12 904 98 = Xi U11 904 98 from by rw [eU12]; exact Xi_ne (by omega)).trans ( (show Xi U11 904 98 = Xi U10 904 98 from by rw [eU11]; exact Xi_ne (by omega)).trans ( (show Xi U10 904 98 = Xi T9 904 98 from by rw [eU10]; exact Xi_ne (by omega)).trans ( (show Xi T9 904 98 = Xi U8 904 98 from w188.x _ _ rfl).trans ( (show Xi U8 904 98 = Xi U7 904 98 from by rw [eU8]; exact Xi_ne (by omega)).trans ((show Xi U7 904 98 = Xi S 904 98 from by rw [eU7]; exact Xi_ne (by omega)))))))
        have w266 : 0 ≤ Xi S 904 98 ∧ Xi S 904 98 ≤ 1700 := hH.c _ _
        refine l_callV rfl rfl rfl (t_mo_run hHU12 n c (by first | assumption | exact (TK_FR hFU12 rfl (by assumption : TK S _))) (by first | assumption | exact (by assumption : AT U12 _ _)) (by first | assumption | exact (RNV_FR (FR_e eU12) rfl (RNV_FR (FR_e eU11) rfl (RNV_FR (FR_e eU10) rfl (by assumption : RNV T9 _))))) _) ?_
        rintro _ T13 ⟨hHT13, w273, z272, rfl, w272, w267, w268, w269, w270, w271⟩
        have hFT13 : FR md_mo_rule S T13 := FR.tr hFU12 w273 rfl
        show Rl _ _ _ _ _ [iv z272, .ref 904] _ _
        refine l_pfi rfl rfl rfl rfl ?_
        obtain ⟨U14, eU14⟩ : ∃ T : sS, T = uI T13 904 103 (Int32.ofInt z272) := ⟨_, rfl⟩
        rw [← eU14]
        have hHU14 : HI U14 := by rw [eU14]; exact HI_w hHT13 (show -1 ≤ z272 by omega) (show z272 ≤ 2600 by omega)
        have hFU14 : FR md_mo_rule S U14 := by rw [eU14]; exact FR.wI hFT13 (mdf_i (r := (904, 905, 103, 104)) (List.mem_of_getElem? (i := 13) rfl) (inR_i (by omega) (by omega) (by omega) (by omega)))
        have w274 : Xi U14 904 103 = z272 := by rw [eU14]; exact Xi_same (by unfold rg; omega)
        have a80 : AT U14 n c := AT_FR (FR_e eU14) rfl (by assumption)
        have w275 : Xi U14 904 102 = Xi U10 904 102 := (show Xi U14 904 102 = Xi T13 904 102 from by rw [eU14]; exact Xi_ne (by omega)).trans ( (show Xi T13 904 102 = Xi U12 904 102 from w273.x _ _ rfl).trans ( (show Xi U12 904 102 = Xi U11 904 102 from by rw [eU12]; exact Xi_ne (by omega)).trans ((show Xi U11 904 102 = Xi U10 904 102 from by rw [eU11]; exact Xi_ne (by omega)))))
        have w276 : 0 ≤ Xi U10 904 102 ∧ Xi U10 904 102 ≤ 2600 := hHU10.c _ _
        have w277 : -1 ≤ Xi U14 904 103 ∧ Xi U14 904 103 ≤ 2600 := hHU14.c _ _
        have w278 : Xi U14 904 65 = Xi T13 904 65 := (show Xi U14 904 65 = Xi T13 904 65 from by rw [eU14]; exact Xi_ne (by omega))
        have w279 : 0 ≤ Xi T13 904 65 ∧ Xi T13 904 65 ≤ 1 := hHT13.c _ _
        have w280 : Xi U14 904 69 = Xi T13 904 69 := (show Xi U14 904 69 = Xi T13 904 69 from by rw [eU14]; exact Xi_ne (by omega))
        have w281 : 0 ≤ Xi T13 904 69 ∧ Xi T13 904 69 ≤ 2600 := hHT13.c _ _
        have w282 : Xi U14 904 70 = Xi U7 904 70 := (show Xi U14 904 70 = Xi T13 904 70 from by rw [eU14]; exact Xi_ne (by omega)).trans ( (show Xi T13 904 70 = Xi U12 904 70 from w273.x _ _ rfl).trans ( (show Xi U12 904 70 = Xi U11 904 70 from by rw [eU12]; exact Xi_ne (by omega)).trans ( (show Xi U11 904 70 = Xi U10 904 70 from by rw [eU11]; exact Xi_ne (by omega)).trans ( (show Xi U10 904 70 = Xi T9 904 70 from by rw [eU10]; exact Xi_ne (by omega)).trans ( (show Xi T9 904 70 = Xi U8 904 70 from w188.x _ _ rfl).trans ((show Xi U8 904 70 = Xi U7 904 70 from by rw [eU8]; exact Xi_ne (by omega))))))))
        have w283 : 0 ≤ Xi U7 904 70 ∧ Xi U7 904 70 ≤ 20 := hHU7.c _ _
        have w284 : Xi U14 904 8 = Xi T13 904 8 := (show Xi U14 904 8 = Xi T13 904 8 from by rw [eU14]; exact Xi_ne (by omega))
        have w285 : 0 ≤ Xi T13 904 8 ∧ Xi T13 904 8 ≤ 5010 := hHT13.c _ _
        have w286 : Xi U14 904 93 = Xi S 904 93 := (show Xi U14 904 93 = Xi T13 904 93 from by rw [eU14]; exact Xi_ne (by omega)).trans ( (show Xi T13 904 93 = Xi U12 904 93 from w273.x _ _ rfl).trans ( (show Xi U12 904 93 = Xi U11 904 93 from by rw [eU12]; exact Xi_ne (by omega)).trans ( (show Xi U11 904 93 = Xi U10 904 93 from by rw [eU11]; exact Xi_ne (by omega)).trans ( (show Xi U10 904 93 = Xi T9 904 93 from by rw [eU10]; exact Xi_ne (by omega)).trans ( (show Xi T9 904 93 = Xi U8 904 93 from w188.x _ _ rfl).trans ( (show Xi U8 904 93 = Xi U7 904 93 from by rw [eU8]; exact Xi_ne (by omega)).trans ((show Xi U7 904 93 = Xi S 904 93 from by rw [eU7]; exact Xi_ne (by omega)))))))))
        have w287 : 0 ≤ Xi S 904 93 ∧ Xi S 904 93 ≤ 1700 := hH.c _ _
        have w288 : Xi U14 904 94 = Xi S 904 94 := (show Xi U14 904 94 = Xi T13 904 94 from by rw [eU14]; exact Xi_ne (by omega)).trans ( (show Xi T13 904 94 = Xi U12 904 94 from w273.x _ _ rfl).trans ( (show Xi U12 904 94 = Xi U11 904 94 from by rw [eU12]; exact Xi_ne (by omega)).trans ( (show Xi U11 904 94 = Xi U10 904 94 from by rw [eU11]; exact Xi_ne (by omega)).trans ( (show Xi U10 904 94 = Xi T9 904 94 from by rw [eU10]; exact Xi_ne (by omega)).trans ( (show Xi T9 904 94 = Xi U8 904 94 from w188.x _ _ rfl).trans ( (show Xi U8 904 94 = Xi U7 904 94 from by rw [eU8]; exact Xi_ne (by omega)).trans ((show Xi U7 904 94 = Xi S 904 94 from by rw [eU7]; exact Xi_ne (by omega)))))))))
        have w289 : 0 ≤ Xi S 904 94 ∧ Xi S 904 94 ≤ 1700 := hH.c _ _
        have w290 : Xi U14 904 98 = Xi S 904 98 := (show Xi U14 904 98 = Xi T13 904 98 from by rw [eU14]; exact Xi_ne (by omega)).trans ( (show Xi T13 904 98 = Xi U12 904 98 from w273.x _ _ rfl).trans ( (show Xi U12 904 98 = Xi U11 904 98 from by rw [eU12]; exact Xi_ne (by omega)).trans ( (show Xi U11 904 98 = Xi U10 904 98 from by rw [eU11]; exact Xi_ne (by omega)).trans ( (show Xi U10 904 98 = Xi T9 904 98 from by rw [eU10]; exact Xi_ne (by omega)).trans ( (show Xi T9 904 98 = Xi U8 904 98 from w188.x _ _ rfl).trans ( (show Xi U8 904 98 = Xi U7 904 98 from by rw [eU8]; exact Xi_ne (by omega)).trans ((show Xi U7 904 98 = Xi S 904 98 from by rw [eU7]; exact Xi_ne (by omega)))))))))
        have w291 : 0 ≤ Xi S 904 98 ∧ Xi S 904 98 ≤ 1700 := hH.c _ _
        exact Rl_weak (C83 U14 hHU14 hFU14  (by assumption) (by first | assumption | exact (RNV_FR (FR_e eU14) rfl (by assumption : RNV T13 _))) (by omega) (by omega) (by omega) (by omega) (by omega) (by omega)) (And.intro rfl (True.intro))
    · refine l_aload_n rfl rfl ?_
      refine l_sipush rfl rfl ?_
      have w292 : Xi U8 904 102 = Xi S 904 102 := (show Xi U8 904 102 = Xi U7 904 102 from by rw [eU8]; exact Xi_ne (by omega)).trans ((show Xi U7 904 102 = Xi S 904 102 from by rw [eU7]; exact Xi_ne (by omega)))
      have w293 : 0 ≤ Xi S 904 102 ∧ Xi S 904 102 ≤ 2600 := hH.c _ _
      have w294 : Xi U8 904 103 = Xi S 904 103 := (show Xi U8 904 103 = Xi U7 904 103 from by rw [eU8]; exact Xi_ne (by omega)).trans ((show Xi U7 904 103 = Xi S 904 103 from by rw [eU7]; exact Xi_ne (by omega)))
      have w295 : -1 ≤ Xi S 904 103 ∧ Xi S 904 103 ≤ 2600 := hH.c _ _
      have w296 : Xi U8 904 65 = Xi S 904 65 := (show Xi U8 904 65 = Xi U7 904 65 from by rw [eU8]; exact Xi_ne (by omega)).trans ((show Xi U7 904 65 = Xi S 904 65 from by rw [eU7]; exact Xi_ne (by omega)))
      have w297 : 0 ≤ Xi S 904 65 ∧ Xi S 904 65 ≤ 1 := hH.c _ _
      have w298 : Xi U8 904 69 = Xi S 904 69 := (show Xi U8 904 69 = Xi U7 904 69 from by rw [eU8]; exact Xi_ne (by omega)).trans ((show Xi U7 904 69 = Xi S 904 69 from by rw [eU7]; exact Xi_ne (by omega)))
      have w299 : 0 ≤ Xi S 904 69 ∧ Xi S 904 69 ≤ 2600 := hH.c _ _
      have w300 : Xi U8 904 70 = Xi U7 904 70 := (show Xi U8 904 70 = Xi U7 904 70 from by rw [eU8]; exact Xi_ne (by omega))
      have w301 : 0 ≤ Xi U7 904 70 ∧ Xi U7 904 70 ≤ 20 := hHU7.c _ _
      have w302 : 0 ≤ Xi U8 904 8 ∧ Xi U8 904 8 ≤ 5010 := hHU8.c _ _
      have w303 : Xi U8 904 93 = Xi S 904 93 := (show Xi U8 904 93 = Xi U7 904 93 from by rw [eU8]; exact Xi_ne (by omega)).trans ((show Xi U7 904 93 = Xi S 904 93 from by rw [eU7]; exact Xi_ne (by omega)))
      have w304 : 0 ≤ Xi S 904 93 ∧ Xi S 904 93 ≤ 1700 := hH.c _ _
      have w305 : Xi U8 904 94 = Xi S 904 94 := (show Xi U8 904 94 = Xi U7 904 94 from by rw [eU8]; exact Xi_ne (by omega)).trans ((show Xi U7 904 94 = Xi S 904 94 from by rw [eU7]; exact Xi_ne (by omega)))
      have w306 : 0 ≤ Xi S 904 94 ∧ Xi S 904 94 ≤ 1700 := hH.c _ _
      have w307 : Xi U8 904 98 = Xi S 904 98 := (show Xi U8 904 98 = Xi U7 904 98 from by rw [eU8]; exact Xi_ne (by omega)).trans ((show Xi U7 904 98 = Xi S 904 98 from by rw [eU7]; exact Xi_ne (by omega)))
      have w308 : 0 ≤ Xi S 904 98 ∧ Xi S 904 98 ≤ 1700 := hH.c _ _
      refine l_callV rfl rfl rfl (t_mo_take__2 hHU8 n c 142 ⟨by omega, by omega⟩ (by first | assumption | exact (TK_FR hFU8 rfl (by assumption : TK S _))) (by first | assumption | exact (by assumption : AT U8 _ _)) (by first | assumption | omega) _) ?_
      rintro _ T15 ⟨hHT15, w314, rfl, w309, w310, w311, w312⟩
      have hFT15 : FR md_mo_rule S T15 := FR.tr hFU8 w314 rfl
      show Rl _ _ _ _ _ [] _ _
      refine l_goto rfl rfl ?_
      have w315 : Xi T15 904 102 = Xi S 904 102 := (show Xi T15 904 102 = Xi U8 904 102 from w314.x _ _ rfl).trans ( (show Xi U8 904 102 = Xi U7 904 102 from by rw [eU8]; exact Xi_ne (by omega)).trans ((show Xi U7 904 102 = Xi S 904 102 from by rw [eU7]; exact Xi_ne (by omega))))
      have w316 : 0 ≤ Xi S 904 102 ∧ Xi S 904 102 ≤ 2600 := hH.c _ _
      have w317 : Xi T15 904 103 = Xi S 904 103 := (show Xi T15 904 103 = Xi U8 904 103 from w314.x _ _ rfl).trans ( (show Xi U8 904 103 = Xi U7 904 103 from by rw [eU8]; exact Xi_ne (by omega)).trans ((show Xi U7 904 103 = Xi S 904 103 from by rw [eU7]; exact Xi_ne (by omega))))
      have w318 : -1 ≤ Xi S 904 103 ∧ Xi S 904 103 ≤ 2600 := hH.c _ _
      have w319 : 0 ≤ Xi T15 904 65 ∧ Xi T15 904 65 ≤ 1 := hHT15.c _ _
      have w320 : Xi T15 904 69 = Xi S 904 69 := (show Xi T15 904 69 = Xi U8 904 69 from w314.x _ _ rfl).trans ( (show Xi U8 904 69 = Xi U7 904 69 from by rw [eU8]; exact Xi_ne (by omega)).trans ((show Xi U7 904 69 = Xi S 904 69 from by rw [eU7]; exact Xi_ne (by omega))))
      have w321 : 0 ≤ Xi S 904 69 ∧ Xi S 904 69 ≤ 2600 := hH.c _ _
      have w322 : Xi T15 904 70 = Xi U7 904 70 := (show Xi T15 904 70 = Xi U8 904 70 from w314.x _ _ rfl).trans ((show Xi U8 904 70 = Xi U7 904 70 from by rw [eU8]; exact Xi_ne (by omega)))
      have w323 : 0 ≤ Xi U7 904 70 ∧ Xi U7 904 70 ≤ 20 := hHU7.c _ _
      have w324 : 0 ≤ Xi T15 904 8 ∧ Xi T15 904 8 ≤ 5010 := hHT15.c _ _
      have w325 : Xi T15 904 93 = Xi S 904 93 := (show Xi T15 904 93 = Xi U8 904 93 from w314.x _ _ rfl).trans ( (show Xi U8 904 93 = Xi U7 904 93 from by rw [eU8]; exact Xi_ne (by omega)).trans ((show Xi U7 904 93 = Xi S 904 93 from by rw [eU7]; exact Xi_ne (by omega))))
      have w326 : 0 ≤ Xi S 904 93 ∧ Xi S 904 93 ≤ 1700 := hH.c _ _
      have w327 : Xi T15 904 94 = Xi S 904 94 := (show Xi T15 904 94 = Xi U8 904 94 from w314.x _ _ rfl).trans ( (show Xi U8 904 94 = Xi U7 904 94 from by rw [eU8]; exact Xi_ne (by omega)).trans ((show Xi U7 904 94 = Xi S 904 94 from by rw [eU7]; exact Xi_ne (by omega))))
      have w328 : 0 ≤ Xi S 904 94 ∧ Xi S 904 94 ≤ 1700 := hH.c _ _
      have w329 : Xi T15 904 98 = Xi S 904 98 := (show Xi T15 904 98 = Xi U8 904 98 from w314.x _ _ rfl).trans ( (show Xi U8 904 98 = Xi U7 904 98 from by rw [eU8]; exact Xi_ne (by omega)).trans ((show Xi U7 904 98 = Xi S 904 98 from by rw [eU7]; exact Xi_ne (by omega))))
      have w330 : 0 ≤ Xi S 904 98 ∧ Xi S 904 98 ≤ 1700 := hH.c _ _
      exact Rl_weak (C83 T15 hHT15 hFT15  (by assumption) (by first | assumption | exact (RNV_FR w314 rfl (RNV_FR (FR_e eU8) rfl (RNV_FR (FR_e eU7) rfl (by assumption : RNV S _))))) (by omega) (by omega) (by omega) (by omega) (by omega) (by omega)) (And.intro rfl (True.intro))
  · refine l_aload_n rfl rfl ?_
    refine l_bipush rfl rfl ?_
    have w331 : Xi U8 904 102 = Xi S 904 102 := (show Xi U8 904 102 = Xi U7 904 102 from by rw [eU8]; exact Xi_ne (by omega)).trans ((show Xi U7 904 102 = Xi S 904 102 from by rw [eU7]; exact Xi_ne (by omega)))
    have w332 : 0 ≤ Xi S 904 102 ∧ Xi S 904 102 ≤ 2600 := hH.c _ _
    have w333 : Xi U8 904 103 = Xi S 904 103 := (show Xi U8 904 103 = Xi U7 904 103 from by rw [eU8]; exact Xi_ne (by omega)).trans ((show Xi U7 904 103 = Xi S 904 103 from by rw [eU7]; exact Xi_ne (by omega)))
    have w334 : -1 ≤ Xi S 904 103 ∧ Xi S 904 103 ≤ 2600 := hH.c _ _
    have w335 : Xi U8 904 65 = Xi S 904 65 := (show Xi U8 904 65 = Xi U7 904 65 from by rw [eU8]; exact Xi_ne (by omega)).trans ((show Xi U7 904 65 = Xi S 904 65 from by rw [eU7]; exact Xi_ne (by omega)))
    have w336 : 0 ≤ Xi S 904 65 ∧ Xi S 904 65 ≤ 1 := hH.c _ _
    have w337 : Xi U8 904 69 = Xi S 904 69 := (show Xi U8 904 69 = Xi U7 904 69 from by rw [eU8]; exact Xi_ne (by omega)).trans ((show Xi U7 904 69 = Xi S 904 69 from by rw [eU7]; exact Xi_ne (by omega)))
    have w338 : 0 ≤ Xi S 904 69 ∧ Xi S 904 69 ≤ 2600 := hH.c _ _
    have w339 : Xi U8 904 70 = Xi U7 904 70 := (show Xi U8 904 70 = Xi U7 904 70 from by rw [eU8]; exact Xi_ne (by omega))
    have w340 : 0 ≤ Xi U7 904 70 ∧ Xi U7 904 70 ≤ 20 := hHU7.c _ _
    have w341 : 0 ≤ Xi U8 904 8 ∧ Xi U8 904 8 ≤ 5010 := hHU8.c _ _
    have w342 : Xi U8 904 93 = Xi S 904 93 := (show Xi U8 904 93 = Xi U7 904 93 from by rw [eU8]; exact Xi_ne (by omega)).trans ((show Xi U7 904 93 = Xi S 904 93 from by rw [eU7]; exact Xi_ne (by omega)))
    have w343 : 0 ≤ Xi S 904 93 ∧ Xi S 904 93 ≤ 1700 := hH.c _ _
    have w344 : Xi U8 904 94 = Xi S 904 94 := (show Xi U8 904 94 = Xi U7 904 94 from by rw [eU8]; exact Xi_ne (by omega)).trans ((show Xi U7 904 94 = Xi S 904 94 from by rw [eU7]; exact Xi_ne (by omega)))
    have w345 : 0 ≤ Xi S 904 94 ∧ Xi S 904 94 ≤ 1700 := hH.c _ _
    have w346 : Xi U8 904 98 = Xi S 904 98 := (show Xi U8 904 98 = Xi U7 904 98 from by rw [eU8]; exact Xi_ne (by omega)).trans ((show Xi U7 904 98 = Xi S 904 98 from by rw [eU7]; exact Xi_ne (by omega)))
    have w347 : 0 ≤ Xi S 904 98 ∧ Xi S 904 98 ≤ 1700 := hH.c _ _
    refine l_callV rfl rfl rfl (t_mo_take__2 hHU8 n c 107 ⟨by omega, by omega⟩ (by first | assumption | exact (TK_FR hFU8 rfl (by assumption : TK S _))) (by first | assumption | exact (by assumption : AT U8 _ _)) (by first | assumption | omega) _) ?_
    rintro _ T16 ⟨hHT16, w353, rfl, w348, w349, w350, w351⟩
    have hFT16 : FR md_mo_rule S T16 := FR.tr hFU8 w353 rfl
    show Rl _ _ _ _ _ [] _ _
    refine l_iload_n rfl rfl ?_
    refine l_bipush rfl rfl ?_
    refine l_icmp_ne rfl rfl (by unfold rg; omega) (by unfold rg; omega) (fun w354 => ?_) (fun w355 => ?_)
    · refine l_aload_n rfl rfl ?_
      refine l_aload_n rfl rfl ?_
      have w356 : Xi T16 904 102 = Xi S 904 102 := (show Xi T16 904 102 = Xi U8 904 102 from w353.x _ _ rfl).trans ( (show Xi U8 904 102 = Xi U7 904 102 from by rw [eU8]; exact Xi_ne (by omega)).trans ((show Xi U7 904 102 = Xi S 904 102 from by rw [eU7]; exact Xi_ne (by omega))))
      have w357 : 0 ≤ Xi S 904 102 ∧ Xi S 904 102 ≤ 2600 := hH.c _ _
      have w358 : Xi T16 904 103 = Xi S 904 103 := (show Xi T16 904 103 = Xi U8 904 103 from w353.x _ _ rfl).trans ( (show Xi U8 904 103 = Xi U7 904 103 from by rw [eU8]; exact Xi_ne (by omega)).trans ((show Xi U7 904 103 = Xi S 904 103 from by rw [eU7]; exact Xi_ne (by omega))))
      have w359 : -1 ≤ Xi S 904 103 ∧ Xi S 904 103 ≤ 2600 := hH.c _ _
      have w360 : 0 ≤ Xi T16 904 65 ∧ Xi T16 904 65 ≤ 1 := hHT16.c _ _
      have w361 : Xi T16 904 69 = Xi S 904 69 := (show Xi T16 904 69 = Xi U8 904 69 from w353.x _ _ rfl).trans ( (show Xi U8 904 69 = Xi U7 904 69 from by rw [eU8]; exact Xi_ne (by omega)).trans ((show Xi U7 904 69 = Xi S 904 69 from by rw [eU7]; exact Xi_ne (by omega))))
      have w362 : 0 ≤ Xi S 904 69 ∧ Xi S 904 69 ≤ 2600 := hH.c _ _
      have w363 : Xi T16 904 70 = Xi U7 904 70 := (show Xi T16 904 70 = Xi U8 904 70 from w353.x _ _ rfl).trans ((show Xi U8 904 70 = Xi U7 904 70 from by rw [eU8]; exact Xi_ne (by omega)))
      have w364 : 0 ≤ Xi U7 904 70 ∧ Xi U7 904 70 ≤ 20 := hHU7.c _ _
      have w365 : 0 ≤ Xi T16 904 8 ∧ Xi T16 904 8 ≤ 5010 := hHT16.c _ _
      have w366 : Xi T16 904 93 = Xi S 904 93 := (show Xi T16 904 93 = Xi U8 904 93 from w353.x _ _ rfl).trans ( (show Xi U8 904 93 = Xi U7 904 93 from by rw [eU8]; exact Xi_ne (by omega)).trans ((show Xi U7 904 93 = Xi S 904 93 from by rw [eU7]; exact Xi_ne (by omega))))
      have w367 : 0 ≤ Xi S 904 93 ∧ Xi S 904 93 ≤ 1700 := hH.c _ _
      have w368 : Xi T16 904 94 = Xi S 904 94 := (show Xi T16 904 94 = Xi U8 904 94 from w353.x _ _ rfl).trans ( (show Xi U8 904 94 = Xi U7 904 94 from by rw [eU8]; exact Xi_ne (by omega)).trans ((show Xi U7 904 94 = Xi S 904 94 from by rw [eU7]; exact Xi_ne (by omega))))
      have w369 : 0 ≤ Xi S 904 94 ∧ Xi S 904 94 ≤ 1700 := hH.c _ _
      have w370 : Xi T16 904 98 = Xi S 904 98 := (show Xi T16 904 98 = Xi U8 904 98 from w353.x _ _ rfl).trans ( (show Xi U8 904 98 = Xi U7 904 98 from by rw [eU8]; exact Xi_ne (by omega)).trans ((show Xi U7 904 98 = Xi S 904 98 from by rw [eU7]; exact Xi_ne (by omega))))
      have w371 : 0 ≤ Xi S 904 98 ∧ Xi S 904 98 ≤ 1700 := hH.c _ _
      refine l_callV rfl rfl rfl (t_mo_run hHT16 n c (by first | assumption | exact (TK_FR hFT16 rfl (by assumption : TK S _))) (by first | assumption | exact (by assumption : AT T16 _ _)) (by first | assumption | exact (RNV_FR w353 rfl (RNV_FR (FR_e eU8) rfl (RNV_FR (FR_e eU7) rfl (by assumption : RNV S _))))) _) ?_
      rintro _ T17 ⟨hHT17, w378, z377, rfl, w377, w372, w373, w374, w375, w376⟩
      have hFT17 : FR md_mo_rule S T17 := FR.tr hFT16 w378 rfl
      show Rl _ _ _ _ _ [iv z377, .ref 904] _ _
      refine l_pfi rfl rfl rfl rfl ?_
      obtain ⟨U18, eU18⟩ : ∃ T : sS, T = uI T17 904 102 (Int32.ofInt z377) := ⟨_, rfl⟩
      rw [← eU18]
      have hHU18 : HI U18 := by rw [eU18]; exact HI_w hHT17 (show 0 ≤ z377 by omega) (show z377 ≤ 2600 by omega)
      have hFU18 : FR md_mo_rule S U18 := by rw [eU18]; exact FR.wI hFT17 (mdf_i (r := (904, 905, 102, 103)) (List.mem_of_getElem? (i := 12) rfl) (inR_i (by omega) (by omega) (by omega) (by omega)))
      have w379 : Xi U18 904 102 = z377 := by rw [eU18]; exact Xi_same (by unfold rg; omega)
      have a47 : AT U18 n c := AT_FR (FR_e eU18) rfl (by assumption)
      have v47 : RNV U18 n := RNV_FR (FR_e eU18) rfl (by assumption)
      have s47_8 : Xi U18 904 8 = Xi T17 904 8 := by rw [eU18, Xi_ne (by omega)]
      have s47_65 : Xi U18 904 65 = Xi T17 904 65 := by rw [eU18, Xi_ne (by omega)]
      have s47_69 : Xi U18 904 69 = Xi T17 904 69 := by rw [eU18, Xi_ne (by omega)]
      have s47_8 : Xi U18 904 8 = Xi T17 904 8 := by rw [eU18, Xi_ne (by omega)]
      refine l_aload_n rfl rfl ?_
      refine l_iconst rfl ?_
      refine l_pfi rfl rfl rfl rfl ?_
      obtain ⟨U19, eU19⟩ : ∃ T : sS, T = uI U18 904 103 (Int32.ofInt (-1)) := ⟨_, rfl⟩
      rw [← eU19]
      have hHU19 : HI U19 := by rw [eU19]; exact HI_w hHU18 (show -1 ≤ (-1) by omega) (show (-1) ≤ 2600 by omega)
      have hFU19 : FR md_mo_rule S U19 := by rw [eU19]; exact FR.wI hFU18 (mdf_i (r := (904, 905, 103, 104)) (List.mem_of_getElem? (i := 13) rfl) (inR_i (by omega) (by omega) (by omega) (by omega)))
      have w380 : Xi U19 904 103 = (-1) := by rw [eU19]; exact Xi_same (by unfold rg; omega)
      have a52 : AT U19 n c := AT_FR (FR_e eU19) rfl a47
      refine l_aload_n rfl rfl ?_
      have w381 : Xi U19 904 102 = Xi U18 904 102 := (show Xi U19 904 102 = Xi U18 904 102 from by rw [eU19]; exact Xi_ne (by omega))
      have w382 : 0 ≤ Xi U18 904 102 ∧ Xi U18 904 102 ≤ 2600 := hHU18.c _ _
      have w383 : -1 ≤ Xi U19 904 103 ∧ Xi U19 904 103 ≤ 2600 := hHU19.c _ _
      have w384 : Xi U19 904 65 = Xi T17 904 65 := (show Xi U19 904 65 = Xi U18 904 65 from by rw [eU19]; exact Xi_ne (by omega)).trans ((show Xi U18 904 65 = Xi T17 904 65 from by rw [eU18]; exact Xi_ne (by omega)))
      have w385 : 0 ≤ Xi T17 904 65 ∧ Xi T17 904 65 ≤ 1 := hHT17.c _ _
      have w386 : Xi U19 904 69 = Xi T17 904 69 := (show Xi U19 904 69 = Xi U18 904 69 from by rw [eU19]; exact Xi_ne (by omega)).trans ((show Xi U18 904 69 = Xi T17 904 69 from by rw [eU18]; exact Xi_ne (by omega)))
      have w387 : 0 ≤ Xi T17 904 69 ∧ Xi T17 904 69 ≤ 2600 := hHT17.c _ _
      have w388 : Xi U19 904 70 = Xi U7 904 70 := (show Xi U19 904 70 = Xi U18 904 70 from by rw [eU19]; exact Xi_ne (by omega)).trans ( (show Xi U18 904 70 = Xi T17 904 70 from by rw [eU18]; exact Xi_ne (by omega)).trans ( (show Xi T17 904 70 = Xi T16 904 70 from w378.x _ _ rfl).trans ( (show Xi T16 904 70 = Xi U8 904 70 from w353.x _ _ rfl).trans ((show Xi U8 904 70 = Xi U7 904 70 from by rw [eU8]; exact Xi_ne (by omega))))))
      have w389 : 0 ≤ Xi U7 904 70 ∧ Xi U7 904 70 ≤ 20 := hHU7.c _ _
      have w390 : Xi U19 904 8 = Xi T17 904 8 := (show Xi U19 904 8 = Xi U18 904 8 from by rw [eU19]; exact Xi_ne (by omega)).trans ((show Xi U18 904 8 = Xi T17 904 8 from by rw [eU18]; exact Xi_ne (by omega)))
      have w391 : 0 ≤ Xi T17 904 8 ∧ Xi T17 904 8 ≤ 5010 := hHT17.c _ _
      have w392 : Xi U19 904 93 = Xi S 904 93 := (show Xi U19 904 93 = Xi U18 904 93 from by rw [eU19]; exact Xi_ne (by omega)).trans ( (show Xi U18 904 93 = Xi T17 904 93 from by rw [eU18]; exact Xi_ne (by omega)).trans ( (show Xi T17 904 93 = Xi T16 904 93 from w378.x _ _ rfl).trans ( (show Xi T16 904 93 = Xi U8 904 93 from w353.x _ _ rfl).trans ( (show Xi U8 904 93 = Xi U7 904 93 from by rw [eU8]; exact Xi_ne (by omega)).trans ((show Xi U7 904 93 = Xi S 904 93 from by rw [eU7]; exact Xi_ne (by omega)))))))
      have w393 : 0 ≤ Xi S 904 93 ∧ Xi S 904 93 ≤ 1700 := hH.c _ _
      have w394 : Xi U19 904 94 = Xi S 904 94 := (show Xi U19 904 94 = Xi U18 904 94 from by rw [eU19]; exact Xi_ne (by omega)).trans ( (show Xi U18 904 94 = Xi T17 904 94 from by rw [eU18]; exact Xi_ne (by omega)).trans ( (show Xi T17 904 94 = Xi T16 904 94 from w378.x _ _ rfl).trans ( (show Xi T16 904 94 = Xi U8 904 94 from w353.x _ _ rfl).trans ( (show Xi U8 904 94 = Xi U7 904 94 from by rw [eU8]; exact Xi_ne (by omega)).trans ((show Xi U7 904 94 = Xi S 904 94 from by rw [eU7]; exact Xi_ne (by omega)))))))
      have w395 : 0 ≤ Xi S 904 94 ∧ Xi S 904 94 ≤ 1700 := hH.c _ _
      have w396 : Xi U19 904 98 = Xi S 904 98 := (show Xi U19 904 98 = Xi U18 904 98 from by rw [eU19]; exact Xi_ne (by omega)).trans ( (show Xi U18 904 98 = Xi T17 904 98 from by rw [eU18]; exact Xi_ne (by omega)).trans ( (show Xi T17 904 98 = Xi T16 904 98 from w378.x _ _ rfl).trans ( (show Xi T16 904 98 = Xi U8 904 98 from w353.x _ _ rfl).trans ( (show Xi U8 904 98 = Xi U7 904 98 from by rw [eU8]; exact Xi_ne (by omega)).trans ((show Xi U7 904 98 = Xi S 904 98 from by rw [eU7]; exact Xi_ne (by omega)))))))
      have w397 : 0 ≤ Xi S 904 98 ∧ Xi S 904 98 ≤ 1700 := hH.c _ _
      refine l_callV rfl rfl rfl (t_mo_look hHU19 n c (by first | assumption | exact (TK_FR hFU19 rfl (by assumption : TK S _))) (by first | assumption | exact (AT_FR (FR_e eU19) rfl (AT_FR (FR_e eU18) rfl (by assumption : AT T17 _ _)))) _) ?_
      rintro _ _ ⟨rfl, z399, rfl, w399, w398⟩
      show Rl _ _ _ _ _ [iv z399] _ _
      have l56 : z399 ≠ 1 → Xi U19 904 65 = 0 ∧ Xi U19 907 (Xi U19 904 8).toNat = z399 := by assumption
      have w400 : Xi U19 904 102 = Xi U18 904 102 := (show Xi U19 904 102 = Xi U18 904 102 from by rw [eU19]; exact Xi_ne (by omega))
      have w401 : 0 ≤ Xi U18 904 102 ∧ Xi U18 904 102 ≤ 2600 := hHU18.c _ _
      have w402 : -1 ≤ Xi U19 904 103 ∧ Xi U19 904 103 ≤ 2600 := hHU19.c _ _
      have w403 : Xi U19 904 65 = Xi T17 904 65 := (show Xi U19 904 65 = Xi U18 904 65 from by rw [eU19]; exact Xi_ne (by omega)).trans ((show Xi U18 904 65 = Xi T17 904 65 from by rw [eU18]; exact Xi_ne (by omega)))
      have w404 : 0 ≤ Xi T17 904 65 ∧ Xi T17 904 65 ≤ 1 := hHT17.c _ _
      have w405 : Xi U19 904 69 = Xi T17 904 69 := (show Xi U19 904 69 = Xi U18 904 69 from by rw [eU19]; exact Xi_ne (by omega)).trans ((show Xi U18 904 69 = Xi T17 904 69 from by rw [eU18]; exact Xi_ne (by omega)))
      have w406 : 0 ≤ Xi T17 904 69 ∧ Xi T17 904 69 ≤ 2600 := hHT17.c _ _
      have w407 : Xi U19 904 70 = Xi U7 904 70 := (show Xi U19 904 70 = Xi U18 904 70 from by rw [eU19]; exact Xi_ne (by omega)).trans ( (show Xi U18 904 70 = Xi T17 904 70 from by rw [eU18]; exact Xi_ne (by omega)).trans ( (show Xi T17 904 70 = Xi T16 904 70 from w378.x _ _ rfl).trans ( (show Xi T16 904 70 = Xi U8 904 70 from w353.x _ _ rfl).trans ((show Xi U8 904 70 = Xi U7 904 70 from by rw [eU8]; exact Xi_ne (by omega))))))
      have w408 : 0 ≤ Xi U7 904 70 ∧ Xi U7 904 70 ≤ 20 := hHU7.c _ _
      have w409 : Xi U19 904 8 = Xi T17 904 8 := (show Xi U19 904 8 = Xi U18 904 8 from by rw [eU19]; exact Xi_ne (by omega)).trans ((show Xi U18 904 8 = Xi T17 904 8 from by rw [eU18]; exact Xi_ne (by omega)))
      have w410 : 0 ≤ Xi T17 904 8 ∧ Xi T17 904 8 ≤ 5010 := hHT17.c _ _
      have w411 : Xi U19 904 93 = Xi S 904 93 := (show Xi U19 904 93 = Xi U18 904 93 from by rw [eU19]; exact Xi_ne (by omega)).trans ( (show Xi U18 904 93 = Xi T17 904 93 from by rw [eU18]; exact Xi_ne (by omega)).trans ( (show Xi T17 904 93 = Xi T16 904 93 from w378.x _ _ rfl).trans ( (show Xi T16 904 93 = Xi U8 904 93 from w353.x _ _ rfl).trans ( (show Xi U8 904 93 = Xi U7 904 93 from by rw [eU8]; exact Xi_ne (by omega)).trans ((show Xi U7 904 93 = Xi S 904 93 from by rw [eU7]; exact Xi_ne (by omega)))))))
      have w412 : 0 ≤ Xi S 904 93 ∧ Xi S 904 93 ≤ 1700 := hH.c _ _
      have w413 : Xi U19 904 94 = Xi S 904 94 := (show Xi U19 904 94 = Xi U18 904 94 from by rw [eU19]; exact Xi_ne (by omega)).trans ( (show Xi U18 904 94 = Xi T17 904 94 from by rw [eU18]; exact Xi_ne (by omega)).trans ( (show Xi T17 904 94 = Xi T16 904 94 from w378.x _ _ rfl).trans ( (show Xi T16 904 94 = Xi U8 904 94 from w353.x _ _ rfl).trans ( (show Xi U8 904 94 = Xi U7 904 94 from by rw [eU8]; exact Xi_ne (by omega)).trans ((show Xi U7 904 94 = Xi S 904 94 from by rw [eU7]; exact Xi_ne (by omega)))))))
      have w414 : 0 ≤ Xi S 904 94 ∧ Xi S 904 94 ≤ 1700 := hH.c _ _
      have w415 : Xi U19 904 98 = Xi S 904 98 := (show Xi U19 904 98 = Xi U18 904 98 from by rw [eU19]; exact Xi_ne (by omega)).trans ( (show Xi U18 904 98 = Xi T17 904 98 from by rw [eU18]; exact Xi_ne (by omega)).trans ( (show Xi T17 904 98 = Xi T16 904 98 from w378.x _ _ rfl).trans ( (show Xi T16 904 98 = Xi U8 904 98 from w353.x _ _ rfl).trans ( (show Xi U8 904 98 = Xi U7 904 98 from by rw [eU8]; exact Xi_ne (by omega)).trans ((show Xi U7 904 98 = Xi S 904 98 from by rw [eU7]; exact Xi_ne (by omega)))))))
      have w416 : 0 ≤ Xi S 904 98 ∧ Xi S 904 98 ≤ 1700 := hH.c _ _
      refine l_callS rfl rfl (by decide) rfl (t_mo_isArt hHU19 z399 ⟨by omega, by omega⟩ _) ?_
      rintro _ _ ⟨rfl, z418, rfl, w418, w417⟩
      show Rl _ _ _ _ _ [iv z418] _ _
      refine l_if_eq rfl rfl (by unfold rg; omega) (fun w419 => ?_) (fun w420 => ?_)
      · have w421 : Xi U19 904 102 = Xi U18 904 102 := (show Xi U19 904 102 = Xi U18 904 102 from by rw [eU19]; exact Xi_ne (by omega))
        have w422 : 0 ≤ Xi U18 904 102 ∧ Xi U18 904 102 ≤ 2600 := hHU18.c _ _
        have w423 : -1 ≤ Xi U19 904 103 ∧ Xi U19 904 103 ≤ 2600 := hHU19.c _ _
        have w424 : Xi U19 904 65 = Xi T17 904 65 := (show Xi U19 904 65 = Xi U18 904 65 from by rw [eU19]; exact Xi_ne (by omega)).trans ((show Xi U18 904 65 = Xi T17 904 65 from by rw [eU18]; exact Xi_ne (by omega)))
        have w425 : 0 ≤ Xi T17 904 65 ∧ Xi T17 904 65 ≤ 1 := hHT17.c _ _
        have w426 : Xi U19 904 69 = Xi T17 904 69 := (show Xi U19 904 69 = Xi U18 904 69 from by rw [eU19]; exact Xi_ne (by omega)).trans ((show Xi U18 904 69 = Xi T17 904 69 from by rw [eU18]; exact Xi_ne (by omega)))
        have w427 : 0 ≤ Xi T17 904 69 ∧ Xi T17 904 69 ≤ 2600 := hHT17.c _ _
        have w428 : Xi U19 904 70 = Xi U7 904 70 := (show Xi U19 904 70 = Xi U18 904 70 from by rw [eU19]; exact Xi_ne (by omega)).trans ( (show Xi U18 904 70 = Xi T17 904 70 from by rw [eU18]; exact Xi_ne (by omega)).trans ( (show Xi T17 904 70 = Xi T16 904 70 from w378.x _ _ rfl).trans ( (show Xi T16 904 70 = Xi U8 904 70 from w353.x _ _ rfl).trans ((show Xi U8 904 70 = Xi U7 904 70 from by rw [eU8]; exact Xi_ne (by omega))))))
        have w429 : 0 ≤ Xi U7 904 70 ∧ Xi U7 904 70 ≤ 20 := hHU7.c _ _
        have w430 : Xi U19 904 8 = Xi T17 904 8 := (show Xi U19 904 8 = Xi U18 904 8 from by rw [eU19]; exact Xi_ne (by omega)).trans ((show Xi U18 904 8 = Xi T17 904 8 from by rw [eU18]; exact Xi_ne (by omega)))
        have w431 : 0 ≤ Xi T17 904 8 ∧ Xi T17 904 8 ≤ 5010 := hHT17.c _ _
        have w432 : Xi U19 904 93 = Xi S 904 93 := (show Xi U19 904 93 = Xi U18 904 93 from by rw [eU19]; exact Xi_ne (by omega)).trans ( (show Xi U18 904 93 = Xi T17 904 93 from by rw [eU18]; exact Xi_ne (by omega)).trans ( (show Xi T17 904 93 = Xi T16 904 93 from w378.x _ _ rfl).trans ( (show Xi T16 904 93 = Xi U8 904 93 from w353.x _ _ rfl).trans ( (show Xi U8 904 93 = Xi U7 904 93 from by rw [eU8]; exact Xi_ne (by omega)).trans ((show Xi U7 904 93 = Xi S 904 93 from by rw [eU7]; exact Xi_ne (by omega)))))))
        have w433 : 0 ≤ Xi S 904 93 ∧ Xi S 904 93 ≤ 1700 := hH.c _ _
        have w434 : Xi U19 904 94 = Xi S 904 94 := (show Xi U19 904 94 = Xi U18 904 94 from by rw [eU19]; exact Xi_ne (by omega)).trans ( (show Xi U18 904 94 = Xi T17 904 94 from by rw [eU18]; exact Xi_ne (by omega)).trans ( (show Xi T17 904 94 = Xi T16 904 94 from w378.x _ _ rfl).trans ( (show Xi T16 904 94 = Xi U8 904 94 from w353.x _ _ rfl).trans ( (show Xi U8 904 94 = Xi U7 904 94 from by rw [eU8]; exact Xi_ne (by omega)).trans ((show Xi U7 904 94 = Xi S 904 94 from by rw [eU7]; exact Xi_ne (by omega)))))))
        have w435 : 0 ≤ Xi S 904 94 ∧ Xi S 904 94 ≤ 1700 := hH.c _ _
        have w436 : Xi U19 904 98 = Xi S 904 98 := (show Xi U19 904 98 = Xi U18 904 98 from by rw [eU19]; exact Xi_ne (by omega)).trans ( (show Xi U18 904 98 = Xi T17 904 98 from by rw [eU18]; exact Xi_ne (by omega)).trans ( (show Xi T17 904 98 = Xi T16 904 98 from w378.x _ _ rfl).trans ( (show Xi T16 904 98 = Xi U8 904 98 from w353.x _ _ rfl).trans ( (show Xi U8 904 98 = Xi U7 904 98 from by rw [eU8]; exact Xi_ne (by omega)).trans ((show Xi U7 904 98 = Xi S 904 98 from by rw [eU7]; exact Xi_ne (by omega)))))))
        have w437 : 0 ≤ Xi S 904 98 ∧ Xi S 904 98 ≤ 1700 := hH.c _ _
        exact Rl_weak (C83 U19 hHU19 hFU19  (by assumption) (by first | assumption | exact (RNV_FR (FR_e eU19) rfl (RNV_FR (FR_e eU18) rfl (by assumption : RNV T17 _)))) (by omega) (by omega) (by omega) (by omega) (by omega) (by omega)) (And.intro rfl (True.intro))
      · refine l_aload_n rfl rfl ?_
        refine l_dup rfl rfl ?_
        refine l_gfi rfl rfl rfl rfl rfl ?_
        have w438 : 0 ≤ (Xi U19 904 8) ∧ (Xi U19 904 8) ≤ 5010 := hHU19.c _ _
        refine l_iconst rfl ?_
        refine l_iadd rfl ?_
        refine l_pfi rfl rfl rfl rfl ?_
        obtain ⟨U20, eU20⟩ : ∃ T : sS, T = uI U19 904 8 (Int32.ofInt ((Xi U19 904 8) + 1)) := ⟨_, rfl⟩
        rw [← eU20]
        have hHU20 : HI U20 := by rw [eU20]; exact HI_w hHU19 (show 0 ≤ ((Xi U19 904 8) + 1) by omega) (show ((Xi U19 904 8) + 1) ≤ 5010 by omega)
        have hFU20 : FR md_mo_rule S U20 := by rw [eU20]; exact FR.wI hFU19 (mdf_i (r := (904, 905, 8, 9)) (List.mem_of_getElem? (i := 0) rfl) (inR_i (by omega) (by omega) (by omega) (by omega)))
        have w439 : Xi U20 904 8 = ((Xi U19 904 8) + 1) := by rw [eU20]; exact Xi_same (by unfold rg; omega)
        have t72 : AT U20 n c ∧ _ := at_mv (S := U19) (P := U19) (c2 := c) (TK_FR hFU19 rfl hT) (by assumption) (fun _ => rfl) (fun _ => rfl) rfl rfl rfl rfl eU20 (by omega) (by omega) (by omega) (by omega) (Or.inl rfl)
        have a72 : AT U20 n c := t72.1
        have l72 := t72.2
        refine l_aload_n rfl rfl ?_
        refine l_aload_n rfl rfl ?_
        have w440 : Xi U20 904 102 = Xi U18 904 102 := (show Xi U20 904 102 = Xi U19 904 102 from by rw [eU20]; exact Xi_ne (by omega)).trans ((show Xi U19 904 102 = Xi U18 904 102 from by rw [eU19]; exact Xi_ne (by omega)))
        have w441 : 0 ≤ Xi U18 904 102 ∧ Xi U18 904 102 ≤ 2600 := hHU18.c _ _
        have w442 : Xi U20 904 103 = Xi U19 904 103 := (show Xi U20 904 103 = Xi U19 904 103 from by rw [eU20]; exact Xi_ne (by omega))
        have w443 : -1 ≤ Xi U19 904 103 ∧ Xi U19 904 103 ≤ 2600 := hHU19.c _ _
        have w444 : Xi U20 904 65 = Xi T17 904 65 := (show Xi U20 904 65 = Xi U19 904 65 from by rw [eU20]; exact Xi_ne (by omega)).trans ( (show Xi U19 904 65 = Xi U18 904 65 from by rw [eU19]; exact Xi_ne (by omega)).trans ((show Xi U18 904 65 = Xi T17 904 65 from by rw [eU18]; exact Xi_ne (by omega))))
        have w445 : 0 ≤ Xi T17 904 65 ∧ Xi T17 904 65 ≤ 1 := hHT17.c _ _
        have w446 : Xi U20 904 69 = Xi T17 904 69 := (show Xi U20 904 69 = Xi U19 904 69 from by rw [eU20]; exact Xi_ne (by omega)).trans ( (show Xi U19 904 69 = Xi U18 904 69 from by rw [eU19]; exact Xi_ne (by omega)).trans ((show Xi U18 904 69 = Xi T17 904 69 from by rw [eU18]; exact Xi_ne (by omega))))
        have w447 : 0 ≤ Xi T17 904 69 ∧ Xi T17 904 69 ≤ 2600 := hHT17.c _ _
        have w448 : Xi U20 904 70 = Xi U7 904 70 := (show Xi U20 904 70 = Xi U19 904 70 from by rw [eU20]; exact Xi_ne (by omega)).trans ( (show Xi U19 904 70 = Xi U18 904 70 from by rw [eU19]; exact Xi_ne (by omega)).trans ( (show Xi U18 904 70 = Xi T17 904 70 from by rw [eU18]; exact Xi_ne (by omega)).trans ( (show Xi T17 904 70 = Xi T16 904 70 from w378.x _ _ rfl).trans ( (show Xi T16 904 70 = Xi U8 904 70 from w353.x _ _ rfl).trans ((show Xi U8 904 70 = Xi U7 904 70 from by rw [eU8]; exact Xi_ne (by omega)))))))
        have w449 : 0 ≤ Xi U7 904 70 ∧ Xi U7 904 70 ≤ 20 := hHU7.c _ _
        have w450 : 0 ≤ Xi U20 904 8 ∧ Xi U20 904 8 ≤ 5010 := hHU20.c _ _
        have w451 : Xi U20 904 93 = Xi S 904 93 := (show Xi U20 904 93 = Xi U19 904 93 from by rw [eU20]; exact Xi_ne (by omega)).trans ( (show Xi U19 904 93 = Xi U18 904 93 from by rw [eU19]; exact Xi_ne (by omega)).trans ( (show Xi U18 904 93 = Xi T17 904 93 from by rw [eU18]; exact Xi_ne (by omega)).trans ( (show Xi T17 904 93 = Xi T16 904 93 from w378.x _ _ rfl).trans ( (show Xi T16 904 93 = Xi U8 904 93 from w353.x _ _ rfl).trans ( (show Xi U8 904 93 = Xi U7 904 93 from by rw [eU8]; exact Xi_ne (by omega)).trans ((show Xi U7 904 93 = Xi S 904 93 from by rw [eU7]; exact Xi_ne (by omega))))))))
        have w452 : 0 ≤ Xi S 904 93 ∧ Xi S 904 93 ≤ 1700 := hH.c _ _
        have w453 : Xi U20 904 94 = Xi S 904 94 := (show Xi U20 904 94 = Xi U19 904 94 from by rw [eU20]; exact Xi_ne (by omega)).trans ( (show Xi U19 904 94 = Xi U18 904 94 from by rw [eU19]; exact Xi_ne (by omega)).trans ( (show Xi U18 904 94 = Xi T17 904 94 from by rw [eU18]; exact Xi_ne (by omega)).trans ( (show Xi T17 904 94 = Xi T16 904 94 from w378.x _ _ rfl).trans ( (show Xi T16 904 94 = Xi U8 904 94 from w353.x _ _ rfl).trans ( (show Xi U8 904 94 = Xi U7 904 94 from by rw [eU8]; exact Xi_ne (by omega)).trans ((show Xi U7 904 94 = Xi S 904 94 from by rw [eU7]; exact Xi_ne (by omega))))))))
        have w454 : 0 ≤ Xi S 904 94 ∧ Xi S 904 94 ≤ 1700 := hH.c _ _
        have w455 : Xi U20 904 98 = Xi S 904 98 := (show Xi U20 904 98 = Xi U19 904 98 from by rw [eU20]; exact Xi_ne (by omega)).trans ( (show Xi U19 904 98 = Xi U18 904 98 from by rw [eU19]; exact Xi_ne (by omega)).trans ( (show Xi U18 904 98 = Xi T17 904 98 from by rw [eU18]; exact Xi_ne (by omega)).trans ( (show Xi T17 904 98 = Xi T16 904 98 from w378.x _ _ rfl).trans ( (show Xi T16 904 98 = Xi U8 904 98 from w353.x _ _ rfl).trans ( (show Xi U8 904 98 = Xi U7 904 98 from by rw [eU8]; exact Xi_ne (by omega)).trans ((show Xi U7 904 98 = Xi S 904 98 from by rw [eU7]; exact Xi_ne (by omega))))))))
        have w456 : 0 ≤ Xi S 904 98 ∧ Xi S 904 98 ≤ 1700 := hH.c _ _
        refine l_callV rfl rfl rfl (t_mo_run hHU20 n c (by first | assumption | exact (TK_FR hFU20 rfl (by assumption : TK S _))) (by first | assumption | exact (by assumption : AT U20 _ _)) (by first | assumption | exact (RNV_FR (FR_e eU20) rfl (RNV_FR (FR_e eU19) rfl (RNV_FR (FR_e eU18) rfl (by assumption : RNV T17 _))))) _) ?_
        rintro _ T21 ⟨hHT21, w463, z462, rfl, w462, w457, w458, w459, w460, w461⟩
        have hFT21 : FR md_mo_rule S T21 := FR.tr hFU20 w463 rfl
        show Rl _ _ _ _ _ [iv z462, .ref 904] _ _
        refine l_pfi rfl rfl rfl rfl ?_
        obtain ⟨U22, eU22⟩ : ∃ T : sS, T = uI T21 904 103 (Int32.ofInt z462) := ⟨_, rfl⟩
        rw [← eU22]
        have hHU22 : HI U22 := by rw [eU22]; exact HI_w hHT21 (show -1 ≤ z462 by omega) (show z462 ≤ 2600 by omega)
        have hFU22 : FR md_mo_rule S U22 := by rw [eU22]; exact FR.wI hFT21 (mdf_i (r := (904, 905, 103, 104)) (List.mem_of_getElem? (i := 13) rfl) (inR_i (by omega) (by omega) (by omega) (by omega)))
        have w464 : Xi U22 904 103 = z462 := by rw [eU22]; exact Xi_same (by unfold rg; omega)
        have a80 : AT U22 n c := AT_FR (FR_e eU22) rfl (by assumption)
        have w465 : Xi U22 904 102 = Xi U18 904 102 := (show Xi U22 904 102 = Xi T21 904 102 from by rw [eU22]; exact Xi_ne (by omega)).trans ( (show Xi T21 904 102 = Xi U20 904 102 from w463.x _ _ rfl).trans ( (show Xi U20 904 102 = Xi U19 904 102 from by rw [eU20]; exact Xi_ne (by omega)).trans ((show Xi U19 904 102 = Xi U18 904 102 from by rw [eU19]; exact Xi_ne (by omega)))))
        have w466 : 0 ≤ Xi U18 904 102 ∧ Xi U18 904 102 ≤ 2600 := hHU18.c _ _
        have w467 : -1 ≤ Xi U22 904 103 ∧ Xi U22 904 103 ≤ 2600 := hHU22.c _ _
        have w468 : Xi U22 904 65 = Xi T21 904 65 := (show Xi U22 904 65 = Xi T21 904 65 from by rw [eU22]; exact Xi_ne (by omega))
        have w469 : 0 ≤ Xi T21 904 65 ∧ Xi T21 904 65 ≤ 1 := hHT21.c _ _
        have w470 : Xi U22 904 69 = Xi T21 904 69 := (show Xi U22 904 69 = Xi T21 904 69 from by rw [eU22]; exact Xi_ne (by omega))
        have w471 : 0 ≤ Xi T21 904 69 ∧ Xi T21 904 69 ≤ 2600 := hHT21.c _ _
        have w472 : Xi U22 904 70 = Xi U7 904 70 := (show Xi U22 904 70 = Xi T21 904 70 from by rw [eU22]; exact Xi_ne (by omega)).trans ( (show Xi T21 904 70 = Xi U20 904 70 from w463.x _ _ rfl).trans ( (show Xi U20 904 70 = Xi U19 904 70 from by rw [eU20]; exact Xi_ne (by omega)).trans ( (show Xi U19 904 70 = Xi U18 904 70 from by rw [eU19]; exact Xi_ne (by omega)).trans ( (show Xi U18 904 70 = Xi T17 904 70 from by rw [eU18]; exact Xi_ne (by omega)).trans ( (show Xi T17 904 70 = Xi T16 904 70 from w378.x _ _ rfl).trans ( (show Xi T16 904 70 = Xi U8 904 70 from w353.x _ _ rfl).trans ((show Xi U8 904 70 = Xi U7 904 70 from by rw [eU8]; exact Xi_ne (by omega)))))))))
        have w473 : 0 ≤ Xi U7 904 70 ∧ Xi U7 904 70 ≤ 20 := hHU7.c _ _
        have w474 : Xi U22 904 8 = Xi T21 904 8 := (show Xi U22 904 8 = Xi T21 904 8 from by rw [eU22]; exact Xi_ne (by omega))
        have w475 : 0 ≤ Xi T21 904 8 ∧ Xi T21 904 8 ≤ 5010 := hHT21.c _ _
        have w476 : Xi U22 904 93 = Xi S 904 93 := (show Xi U22 904 93 = Xi T21 904 93 from by rw [eU22]; exact Xi_ne (by omega)).trans ( (show Xi T21 904 93 = Xi U20 904 93 from w463.x _ _ rfl).trans ( (show Xi U20 904 93 = Xi U19 904 93 from by rw [eU20]; exact Xi_ne (by omega)).trans ( (show Xi U19 904 93 = Xi U18 904 93 from by rw [eU19]; exact Xi_ne (by omega)).trans ( (show Xi U18 904 93 = Xi T17 904 93 from by rw [eU18]; exact Xi_ne (by omega)).trans ( (show Xi T17 904 93 = Xi T16 904 93 from w378.x _ _ rfl).trans ( (show Xi T16 904 93 = Xi U8 904 93 from w353.x _ _ rfl).trans ( (show Xi U8 904 93 = Xi U7 904 93 from by rw [eU8]; exact Xi_ne (by omega)).trans ((show Xi U7 904 93 = Xi S 904 93 from by rw [eU7]; exact Xi_ne (by omega))))))))))
        have w477 : 0 ≤ Xi S 904 93 ∧ Xi S 904 93 ≤ 1700 := hH.c _ _
        have w478 : Xi U22 904 94 = Xi S 904 94 := (show Xi U22 904 94 = Xi T21 904 94 from by rw [eU22]; exact Xi_ne (by omega)).trans ( (show Xi T21 904 94 = Xi U20 904 94 from w463.x _ _ rfl).trans ( (show Xi U20 904 94 = Xi U19 904 94 from by rw [eU20]; exact Xi_ne (by omega)).trans ( (show Xi U19 904 94 = Xi U18 904 94 from by rw [eU19]; exact Xi_ne (by omega)).trans ( (show Xi U18 904 94 = Xi T17 904 94 from by rw [eU18]; exact Xi_ne (by omega)).trans ( (show Xi T17 904 94 = Xi T16 904 94 from w378.x _ _ rfl).trans ( (show Xi T16 904 94 = Xi U8 904 94 from w353.x _ _ rfl).trans ( (show Xi U8 904 94 = Xi U7 904 94 from by rw [eU8]; exact Xi_ne (by omega)).trans ((show Xi U7 904 94 = Xi S 904 94 from by rw [eU7]; exact Xi_ne (by omega))))))))))
        have w479 : 0 ≤ Xi S 904 94 ∧ Xi S 904 94 ≤ 1700 := hH.c _ _
        have w480 : Xi U22 904 98 = Xi S 904 98 := (show Xi U22 904 98 = Xi T21 904 98 from by rw [eU22]; exact Xi_ne (by omega)).trans ( (show Xi T21 904 98 = Xi U20 904 98 from w463.x _ _ rfl).trans ( (show Xi U20 904 98 = Xi U19 904 98 from by rw [eU20]; exact Xi_ne (by omega)).trans ( (show Xi U19 904 98 = Xi U18 904 98 from by rw [eU19]; exact Xi_ne (by omega)).trans ( (show Xi U18 904 98 = Xi T17 904 98 from by rw [eU18]; exact Xi_ne (by omega)).trans ( (show Xi T17 904 98 = Xi T16 904 98 from w378.x _ _ rfl).trans ( (show Xi T16 904 98 = Xi U8 904 98 from w353.x _ _ rfl).trans ( (show Xi U8 904 98 = Xi U7 904 98 from by rw [eU8]; exact Xi_ne (by omega)).trans ((show Xi U7 904 98 = Xi S 904 98 from by rw [eU7]; exact Xi_ne (by omega))))))))))
        have w481 : 0 ≤ Xi S 904 98 ∧ Xi S 904 98 ≤ 1700 := hH.c _ _
        exact Rl_weak (C83 U22 hHU22 hFU22  (by assumption) (by first | assumption | exact (RNV_FR (FR_e eU22) rfl (by assumption : RNV T21 _))) (by omega) (by omega) (by omega) (by omega) (by omega) (by omega)) (And.intro rfl (True.intro))
    · refine l_aload_n rfl rfl ?_
      refine l_sipush rfl rfl ?_
      have w482 : Xi T16 904 102 = Xi S 904 102 := (show Xi T16 904 102 = Xi U8 904 102 from w353.x _ _ rfl).trans ( (show Xi U8 904 102 = Xi U7 904 102 from by rw [eU8]; exact Xi_ne (by omega)).trans ((show Xi U7 904 102 = Xi S 904 102 from by rw [eU7]; exact Xi_ne (by omega))))
      have w483 : 0 ≤ Xi S 904 102 ∧ Xi S 904 102 ≤ 2600 := hH.c _ _
      have w484 : Xi T16 904 103 = Xi S 904 103 := (show Xi T16 904 103 = Xi U8 904 103 from w353.x _ _ rfl).trans ( (show Xi U8 904 103 = Xi U7 904 103 from by rw [eU8]; exact Xi_ne (by omega)).trans ((show Xi U7 904 103 = Xi S 904 103 from by rw [eU7]; exact Xi_ne (by omega))))
      have w485 : -1 ≤ Xi S 904 103 ∧ Xi S 904 103 ≤ 2600 := hH.c _ _
      have w486 : 0 ≤ Xi T16 904 65 ∧ Xi T16 904 65 ≤ 1 := hHT16.c _ _
      have w487 : Xi T16 904 69 = Xi S 904 69 := (show Xi T16 904 69 = Xi U8 904 69 from w353.x _ _ rfl).trans ( (show Xi U8 904 69 = Xi U7 904 69 from by rw [eU8]; exact Xi_ne (by omega)).trans ((show Xi U7 904 69 = Xi S 904 69 from by rw [eU7]; exact Xi_ne (by omega))))
      have w488 : 0 ≤ Xi S 904 69 ∧ Xi S 904 69 ≤ 2600 := hH.c _ _
      have w489 : Xi T16 904 70 = Xi U7 904 70 := (show Xi T16 904 70 = Xi U8 904 70 from w353.x _ _ rfl).trans ((show Xi U8 904 70 = Xi U7 904 70 from by rw [eU8]; exact Xi_ne (by omega)))
      have w490 : 0 ≤ Xi U7 904 70 ∧ Xi U7 904 70 ≤ 20 := hHU7.c _ _
      have w491 : 0 ≤ Xi T16 904 8 ∧ Xi T16 904 8 ≤ 5010 := hHT16.c _ _
      have w492 : Xi T16 904 93 = Xi S 904 93 := (show Xi T16 904 93 = Xi U8 904 93 from w353.x _ _ rfl).trans ( (show Xi U8 904 93 = Xi U7 904 93 from by rw [eU8]; exact Xi_ne (by omega)).trans ((show Xi U7 904 93 = Xi S 904 93 from by rw [eU7]; exact Xi_ne (by omega))))
      have w493 : 0 ≤ Xi S 904 93 ∧ Xi S 904 93 ≤ 1700 := hH.c _ _
      have w494 : Xi T16 904 94 = Xi S 904 94 := (show Xi T16 904 94 = Xi U8 904 94 from w353.x _ _ rfl).trans ( (show Xi U8 904 94 = Xi U7 904 94 from by rw [eU8]; exact Xi_ne (by omega)).trans ((show Xi U7 904 94 = Xi S 904 94 from by rw [eU7]; exact Xi_ne (by omega))))
      have w495 : 0 ≤ Xi S 904 94 ∧ Xi S 904 94 ≤ 1700 := hH.c _ _
      have w496 : Xi T16 904 98 = Xi S 904 98 := (show Xi T16 904 98 = Xi U8 904 98 from w353.x _ _ rfl).trans ( (show Xi U8 904 98 = Xi U7 904 98 from by rw [eU8]; exact Xi_ne (by omega)).trans ((show Xi U7 904 98 = Xi S 904 98 from by rw [eU7]; exact Xi_ne (by omega))))
      have w497 : 0 ≤ Xi S 904 98 ∧ Xi S 904 98 ≤ 1700 := hH.c _ _
      refine l_callV rfl rfl rfl (t_mo_take__2 hHT16 n c 142 ⟨by omega, by omega⟩ (by first | assumption | exact (TK_FR hFT16 rfl (by assumption : TK S _))) (by first | assumption | exact (by assumption : AT T16 _ _)) (by first | assumption | omega) _) ?_
      rintro _ T23 ⟨hHT23, w503, rfl, w498, w499, w500, w501⟩
      have hFT23 : FR md_mo_rule S T23 := FR.tr hFT16 w503 rfl
      show Rl _ _ _ _ _ [] _ _
      refine l_goto rfl rfl ?_
      have w504 : Xi T23 904 102 = Xi S 904 102 := (show Xi T23 904 102 = Xi T16 904 102 from w503.x _ _ rfl).trans ( (show Xi T16 904 102 = Xi U8 904 102 from w353.x _ _ rfl).trans ( (show Xi U8 904 102 = Xi U7 904 102 from by rw [eU8]; exact Xi_ne (by omega)).trans ((show Xi U7 904 102 = Xi S 904 102 from by rw [eU7]; exact Xi_ne (by omega)))))
      have w505 : 0 ≤ Xi S 904 102 ∧ Xi S 904 102 ≤ 2600 := hH.c _ _
      have w506 : Xi T23 904 103 = Xi S 904 103 := (show Xi T23 904 103 = Xi T16 904 103 from w503.x _ _ rfl).trans ( (show Xi T16 904 103 = Xi U8 904 103 from w353.x _ _ rfl).trans ( (show Xi U8 904 103 = Xi U7 904 103 from by rw [eU8]; exact Xi_ne (by omega)).trans ((show Xi U7 904 103 = Xi S 904 103 from by rw [eU7]; exact Xi_ne (by omega)))))
      have w507 : -1 ≤ Xi S 904 103 ∧ Xi S 904 103 ≤ 2600 := hH.c _ _
      have w508 : 0 ≤ Xi T23 904 65 ∧ Xi T23 904 65 ≤ 1 := hHT23.c _ _
      have w509 : Xi T23 904 69 = Xi S 904 69 := (show Xi T23 904 69 = Xi T16 904 69 from w503.x _ _ rfl).trans ( (show Xi T16 904 69 = Xi U8 904 69 from w353.x _ _ rfl).trans ( (show Xi U8 904 69 = Xi U7 904 69 from by rw [eU8]; exact Xi_ne (by omega)).trans ((show Xi U7 904 69 = Xi S 904 69 from by rw [eU7]; exact Xi_ne (by omega)))))
      have w510 : 0 ≤ Xi S 904 69 ∧ Xi S 904 69 ≤ 2600 := hH.c _ _
      have w511 : Xi T23 904 70 = Xi U7 904 70 := (show Xi T23 904 70 = Xi T16 904 70 from w503.x _ _ rfl).trans ( (show Xi T16 904 70 = Xi U8 904 70 from w353.x _ _ rfl).trans ((show Xi U8 904 70 = Xi U7 904 70 from by rw [eU8]; exact Xi_ne (by omega))))
      have w512 : 0 ≤ Xi U7 904 70 ∧ Xi U7 904 70 ≤ 20 := hHU7.c _ _
      have w513 : 0 ≤ Xi T23 904 8 ∧ Xi T23 904 8 ≤ 5010 := hHT23.c _ _
      have w514 : Xi T23 904 93 = Xi S 904 93 := (show Xi T23 904 93 = Xi T16 904 93 from w503.x _ _ rfl).trans ( (show Xi T16 904 93 = Xi U8 904 93 from w353.x _ _ rfl).trans ( (show Xi U8 904 93 = Xi U7 904 93 from by rw [eU8]; exact Xi_ne (by omega)).trans ((show Xi U7 904 93 = Xi S 904 93 from by rw [eU7]; exact Xi_ne (by omega)))))
      have w515 : 0 ≤ Xi S 904 93 ∧ Xi S 904 93 ≤ 1700 := hH.c _ _
      have w516 : Xi T23 904 94 = Xi S 904 94 := (show Xi T23 904 94 = Xi T16 904 94 from w503.x _ _ rfl).trans ( (show Xi T16 904 94 = Xi U8 904 94 from w353.x _ _ rfl).trans ( (show Xi U8 904 94 = Xi U7 904 94 from by rw [eU8]; exact Xi_ne (by omega)).trans ((show Xi U7 904 94 = Xi S 904 94 from by rw [eU7]; exact Xi_ne (by omega)))))
      have w517 : 0 ≤ Xi S 904 94 ∧ Xi S 904 94 ≤ 1700 := hH.c _ _
      have w518 : Xi T23 904 98 = Xi S 904 98 := (show Xi T23 904 98 = Xi T16 904 98 from w503.x _ _ rfl).trans ( (show Xi T16 904 98 = Xi U8 904 98 from w353.x _ _ rfl).trans ( (show Xi U8 904 98 = Xi U7 904 98 from by rw [eU8]; exact Xi_ne (by omega)).trans ((show Xi U7 904 98 = Xi S 904 98 from by rw [eU7]; exact Xi_ne (by omega)))))
      have w519 : 0 ≤ Xi S 904 98 ∧ Xi S 904 98 ≤ 1700 := hH.c _ _
      exact Rl_weak (C83 T23 hHT23 hFT23  (by assumption) (by first | assumption | exact (RNV_FR w503 rfl (RNV_FR w353 rfl (RNV_FR (FR_e eU8) rfl (RNV_FR (FR_e eU7) rfl (by assumption : RNV S _)))))) (by omega) (by omega) (by omega) (by omega) (by omega) (by omega)) (And.intro rfl (True.intro))
