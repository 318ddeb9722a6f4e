section
/-! 15, 16: the reference asks: values -/
noncomputable def tU5 (S : sS) : Int := if Xi S 904 72 = 1 then r2R S (Xi S 904 71) 2 3 else -1
def RAW (g : List rec) (S S1 : sS) : Prop := ∃ (A : sS) (x1 : Int × Int × Int), FR g S A ∧ (Xi A 904 142 = 2 ∧ Xi A 904 108 = 0) ∧ (x1 = if 1 < r2R S (Xi S 904 71) 2 3 then NT3 S else ntF (NT3 S) 4 (pR S (Xi S 904 71))) ∧ (NT3 A = if 1 < Xi S 904 72 then ntF x1 4 (pR S (Xi S 904 71 + 1)) else x1) ∧ RAV A S1 (tU5 S)

def md_mo_askFifteen__2 : List rec := [(904, 905, 64, 65), (904, 905, 104, 105), (904, 905, 105, 106), (904, 905, 106, 107), (904, 905, 108, 109), (904, 905, 109, 110), (904, 905, 110, 111), (904, 905, 112, 113), (904, 905, 113, 114), (904, 905, 142, 143), (966, 967, 0, 100000), (967, 968, 0, 100000), (968, 969, 0, 100000)]
abbrev Q_mo_askFifteen__2 (S : sS) : pst := fun r S1 => RI S1 ∧ FR md_mo_askFifteen__2 S S1 ∧ (r = none ∧ (RAW md_mo_askFifteen__2 S S1))
set_option maxRecDepth 100000 in
theorem t_mo_askFifteen__2 {S : sS} (hH : RI S) (hLS : LSP S) (h15 : 0 ≤ Xi S 904 15) (hRB : RBD S) (hu : Xi S 904 76 = 0) (hz8 : Xi S 904 108 = 0) (hw : 0 ≤ Xi S 904 78 ∧ Xi S 904 78 ≤ Xi S 904 69 ∧ Xi S 904 69 ≤ 2600) (hv : 0 ≤ Xi S 904 30 ∧ Xi S 904 30 ≤ 64) (hl : 0 ≤ Xi S 904 71 ∧ Xi S 904 71 ≤ 2600) (hs : Xi S 904 70 = 16) (d : Nat) : Mp lay0 (d + 11) m_mo_askFifteen [.ref 904] S (Q_mo_askFifteen__2 S) := by
  refine Mp_R rfl rfl (fun fu => ?_)
  have hF : FR md_mo_askFifteen__2 S S := FR.rf
  have w1 : -2147483648 ≤ Xi S 904 108 ∧ Xi S 904 108 ≤ 2147483647 := Xi_rgI
  have w2 : -2147483648 ≤ Xi S 904 15 ∧ Xi S 904 15 ≤ 2147483647 := Xi_rgI
  have w3 : -2147483648 ≤ Xi S 904 30 ∧ Xi S 904 30 ≤ 2147483647 := Xi_rgI
  have w4 : -2147483648 ≤ Xi S 904 69 ∧ Xi S 904 69 ≤ 2147483647 := Xi_rgI
  have w5 : -2147483648 ≤ Xi S 904 70 ∧ Xi S 904 70 ≤ 2147483647 := Xi_rgI
  have w6 : -2147483648 ≤ Xi S 904 71 ∧ Xi S 904 71 ≤ 2147483647 := Xi_rgI
  have w7 : -2147483648 ≤ Xi S 904 72 ∧ Xi S 904 72 ≤ 2147483647 := Xi_rgI
  have w8 : -2147483648 ≤ Xi S 904 75 ∧ Xi S 904 75 ≤ 2147483647 := Xi_rgI
  have w9 : -2147483648 ≤ Xi S 904 76 ∧ Xi S 904 76 ≤ 2147483647 := Xi_rgI
  have w10 : -2147483648 ≤ Xi S 904 78 ∧ Xi S 904 78 ≤ 2147483647 := Xi_rgI
  have C361 : ∀ (n361 : Nat) (_ : n361 ≤ fu) (T1 : sS) (_ : RI T1) (_ : FR md_mo_askFifteen__2 S T1) (v1 : Int) (v2 : Int) (v5 : Int) (v6 : Int) (v7 : Int), (-2147483648 ≤ v1 ∧ v1 ≤ 2147483647) → (-2147483648 ≤ v2 ∧ v2 ≤ 2147483647) → (-2147483648 ≤ v5 ∧ v5 ≤ 2147483647) → (-2147483648 ≤ v6 ∧ v6 ≤ 2147483647) → (-2147483648 ≤ v7 ∧ v7 ≤ 2147483647) → ((1 : Int) = 0) → Pl n361 lay0 (d + 10) m_mo_askFifteen 361 [(0, .ref 904), (1, iv v1), (2, iv v2), (5, iv v5), (6, iv v6), (7, iv v7)] [] T1 (Q_mo_askFifteen__2 S) := by
    intro n361
    induction n361 with
    | zero => intros; exact Pl_0
    | succ n361 ih361 =>
      intro hm361 T1 hHT1 hFT1 v1 v2 v5 v6 v7 w11 w12 w13 w14 w15 w16
      have w17 : Xi T1 904 15 = Xi S 904 15 := hFT1.x _ _ rfl
      have w18 : Xi T1 904 16 = Xi S 904 16 := hFT1.x _ _ rfl
      have w19 : Xi T1 904 30 = Xi S 904 30 := hFT1.x _ _ rfl
      have w20 : Xi T1 904 69 = Xi S 904 69 := hFT1.x _ _ rfl
      have w21 : Xi T1 904 70 = Xi S 904 70 := hFT1.x _ _ rfl
      have w22 : Xi T1 904 71 = Xi S 904 71 := hFT1.x _ _ rfl
      have w23 : Xi T1 904 72 = Xi S 904 72 := hFT1.x _ _ rfl
      have w24 : Xi T1 904 76 = Xi S 904 76 := hFT1.x _ _ rfl
      have w25 : Xi T1 904 78 = Xi S 904 78 := hFT1.x _ _ rfl
      have w26 : -2147483648 ≤ Xi T1 904 108 ∧ Xi T1 904 108 ≤ 2147483647 := Xi_rgI
      have w27 : -2147483648 ≤ Xi T1 904 15 ∧ Xi T1 904 15 ≤ 2147483647 := Xi_rgI
      have w28 : -2147483648 ≤ Xi T1 904 30 ∧ Xi T1 904 30 ≤ 2147483647 := Xi_rgI
      have w29 : -2147483648 ≤ Xi T1 904 69 ∧ Xi T1 904 69 ≤ 2147483647 := Xi_rgI
      have w30 : -2147483648 ≤ Xi T1 904 70 ∧ Xi T1 904 70 ≤ 2147483647 := Xi_rgI
      have w31 : -2147483648 ≤ Xi T1 904 71 ∧ Xi T1 904 71 ≤ 2147483647 := Xi_rgI
      have w32 : -2147483648 ≤ Xi T1 904 72 ∧ Xi T1 904 72 ≤ 2147483647 := Xi_rgI
      have w33 : -2147483648 ≤ Xi T1 904 75 ∧ Xi T1 904 75 ≤ 2147483647 := Xi_rgI
      have w34 : -2147483648 ≤ Xi T1 904 76 ∧ Xi T1 904 76 ≤ 2147483647 := Xi_rgI
      have w35 : -2147483648 ≤ Xi T1 904 78 ∧ Xi T1 904 78 ≤ 2147483647 := Xi_rgI
      have C432 : ∀ (n432 : Nat) (_ : n432 ≤ n361) (T2 : sS) (_ : RI T2) (_ : FR md_mo_askFifteen__2 S T2) (v1 : Int) (v2 : Int) (v5 : Int) (v7 : Int), (-2147483648 ≤ v1 ∧ v1 ≤ 2147483647) → (-2147483648 ≤ v2 ∧ v2 ≤ 2147483647) → (-2147483648 ≤ v5 ∧ v5 ≤ 2147483647) → (-2147483648 ≤ v7 ∧ v7 ≤ 2147483647) → ((1 : Int) = 0) → Pl n432 lay0 (d + 10) m_mo_askFifteen 432 [(0, .ref 904), (1, iv v1), (2, iv v2), (5, iv v5), (7, iv v7)] [] T2 (Q_mo_askFifteen__2 S) := by
        intro n432
        induction n432 with
        | zero => intros; exact Pl_0
        | succ n432 ih432 =>
          intro hm432 T2 hHT2 hFT2 v1 v2 v5 v7 w36 w37 w38 w39 w40
          have w41 : Xi T2 904 15 = Xi S 904 15 := hFT2.x _ _ rfl
          have w42 : Xi T2 904 16 = Xi S 904 16 := hFT2.x _ _ rfl
          have w43 : Xi T2 904 30 = Xi S 904 30 := hFT2.x _ _ rfl
          have w44 : Xi T2 904 69 = Xi S 904 69 := hFT2.x _ _ rfl
          have w45 : Xi T2 904 70 = Xi S 904 70 := hFT2.x _ _ rfl
          have w46 : Xi T2 904 71 = Xi S 904 71 := hFT2.x _ _ rfl
          have w47 : Xi T2 904 72 = Xi S 904 72 := hFT2.x _ _ rfl
          have w48 : Xi T2 904 76 = Xi S 904 76 := hFT2.x _ _ rfl
          have w49 : Xi T2 904 78 = Xi S 904 78 := hFT2.x _ _ rfl
          have w50 : -2147483648 ≤ Xi T2 904 108 ∧ Xi T2 904 108 ≤ 2147483647 := Xi_rgI
          have w51 : -2147483648 ≤ Xi T2 904 15 ∧ Xi T2 904 15 ≤ 2147483647 := Xi_rgI
          have w52 : -2147483648 ≤ Xi T2 904 30 ∧ Xi T2 904 30 ≤ 2147483647 := Xi_rgI
          have w53 : -2147483648 ≤ Xi T2 904 69 ∧ Xi T2 904 69 ≤ 2147483647 := Xi_rgI
          have w54 : -2147483648 ≤ Xi T2 904 70 ∧ Xi T2 904 70 ≤ 2147483647 := Xi_rgI
          have w55 : -2147483648 ≤ Xi T2 904 71 ∧ Xi T2 904 71 ≤ 2147483647 := Xi_rgI
          have w56 : -2147483648 ≤ Xi T2 904 72 ∧ Xi T2 904 72 ≤ 2147483647 := Xi_rgI
          have w57 : -2147483648 ≤ Xi T2 904 75 ∧ Xi T2 904 75 ≤ 2147483647 := Xi_rgI
          have w58 : -2147483648 ≤ Xi T2 904 76 ∧ Xi T2 904 76 ≤ 2147483647 := Xi_rgI
          have w59 : -2147483648 ≤ Xi T2 904 78 ∧ Xi T2 904 78 ≤ 2147483647 := Xi_rgI
          exfalso; omega
      exfalso; omega
  refine y_aload_n rfl rfl ?_
  refine y_gfi rfl rfl rfl rfl rfl ?_
  refine y_istore_n rfl rfl rfl ?_
  refine y_aload_n rfl rfl ?_
  refine y_gfr rfl rfl rfl rfl rfl (hH.r 904 67 950 rfl) ?_
  refine y_aload_n rfl rfl ?_
  refine y_gfi rfl rfl rfl rfl rfl ?_
  refine y_ialoadP (n := 2600) rfl rfl (by unfold rg; omega) (fun w60 w61 => ?_)
  have w62 : -2147483648 ≤ (Xi S 950 (((Xi S 904 78)).toNat)) ∧ (Xi S 950 (((Xi S 904 78)).toNat)) ≤ 2147483647 := Xi_rgI
  refine y_istore_n rfl rfl rfl ?_
  refine y_aload_n rfl rfl ?_
  refine y_gfi rfl rfl rfl rfl rfl ?_
  refine y_if_eq rfl rfl (by unfold rg; omega) (fun w63 => ?_) (fun w64 => ?_)
  · refine y_aload_n rfl rfl ?_
    refine y_gfi rfl rfl rfl rfl rfl ?_
    refine y_iconst rfl ?_
    refine y_icmp_ne rfl rfl (by unfold rg; omega) (by unfold rg; omega) (fun w65 => ?_) (fun w66 => ?_)
    · refine y_iconst rfl ?_
      refine y_istore_n rfl rfl rfl ?_
      have e140 : (-1) = tU5 S := by unfold tU5; first | (rw [if_pos (by omega)]; exact f133) | (rw [if_neg (by omega)])
      refine y_aload_n rfl rfl ?_
      refine y_gfi rfl rfl rfl rfl rfl ?_
      refine y_bipush rfl rfl ?_
      refine y_icmp_eq rfl rfl (by unfold rg; omega) (by unfold rg; omega) (fun w67 => ?_) (fun w68 => ?_)
      · refine y_aload_n rfl rfl ?_
        refine y_iconst rfl ?_
        refine y_pfi rfl rfl rfl rfl ?_
        obtain ⟨U3, eU3⟩ : ∃ T : sS, T = uI S 904 142 (Int32.ofInt 2) := ⟨_, rfl⟩
        rw [← eU3]
        have hHU3 : RI U3 := by rw [eU3]; exact RI_w hH
        have hFU3 : FR md_mo_askFifteen__2 S U3 := by rw [eU3]; exact FR.wI hF (mdf_i (r := (904, 905, 142, 143)) (List.mem_of_getElem? (i := 9) rfl) (inR_i (by omega) (by omega) (by omega) (by omega)))
        have w69 : Xi U3 904 142 = 2 := by rw [eU3]; exact Xi_same (by unfold rg; omega)
        have ee164 := eU3
        have t164 : NT3 U3 = NT3 S := by unfold NT3; rw [eU3]; repeat rw [Xi_ne (by omega)]
        have h164 : Xi U3 904 142 = 2 := by rw [eU3]; exact Xi_same (by unfold rg; omega)
        refine y_aload_n rfl rfl ?_
        refine y_aload_n rfl rfl ?_
        refine y_iload_n rfl rfl ?_
        have w70 : Xi U3 904 108 = Xi S 904 108 := (show Xi U3 904 108 = Xi S 904 108 from by rw [eU3]; exact Xi_ne (by omega))
        have w71 : Xi U3 904 15 = Xi S 904 15 := (show Xi U3 904 15 = Xi S 904 15 from by rw [eU3]; exact Xi_ne (by omega))
        have w72 : Xi U3 904 30 = Xi S 904 30 := (show Xi U3 904 30 = Xi S 904 30 from by rw [eU3]; exact Xi_ne (by omega))
        have w73 : Xi U3 904 69 = Xi S 904 69 := (show Xi U3 904 69 = Xi S 904 69 from by rw [eU3]; exact Xi_ne (by omega))
        have w74 : Xi U3 904 70 = Xi S 904 70 := (show Xi U3 904 70 = Xi S 904 70 from by rw [eU3]; exact Xi_ne (by omega))
        have w75 : Xi U3 904 71 = Xi S 904 71 := (show Xi U3 904 71 = Xi S 904 71 from by rw [eU3]; exact Xi_ne (by omega))
        have w76 : Xi U3 904 72 = Xi S 904 72 := (show Xi U3 904 72 = Xi S 904 72 from by rw [eU3]; exact Xi_ne (by omega))
        have w77 : Xi U3 904 75 = Xi S 904 75 := (show Xi U3 904 75 = Xi S 904 75 from by rw [eU3]; exact Xi_ne (by omega))
        have w78 : Xi U3 904 76 = Xi S 904 76 := (show Xi U3 904 76 = Xi S 904 76 from by rw [eU3]; exact Xi_ne (by omega))
        have w79 : Xi U3 904 78 = Xi S 904 78 := (show Xi U3 904 78 = Xi S 904 78 from by rw [eU3]; exact Xi_ne (by omega))
        refine y_callV rfl rfl rfl (t_mo_typeOrPlural__p hHU3 (Xi S 904 71) ⟨by omega, by omega⟩ (by first | assumption | exact (LSP_FR hFU3 rfl rfl (by assumption : LSP S))) (by first | assumption | omega) (by first | assumption | exact (RBD_FR hFU3 rfl (by assumption : RBD S))) _) ?_
        rintro _ _ ⟨rfl, z80, rfl, w80, f170⟩
        show Pl _ _ _ _ _ _ [iv z80, .ref 904] _ _
        have e170 : z80 = r2R S (Xi S 904 71) 2 3 := by have t := f170; rw [r2R_FR hFU3 rfl rfl] at t; exact t
        clear f170
        refine y_iconst rfl ?_
        refine y_icmp_le rfl rfl (by unfold rg; omega) (by unfold rg; omega) (fun w81 => ?_) (fun w82 => ?_)
        · refine y_iconst rfl ?_
          refine y_iconst rfl ?_
          refine y_aload_n rfl rfl ?_
          refine y_gfr rfl rfl rfl rfl rfl (hHU3.r 904 67 950 rfl) ?_
          refine y_iload_n rfl rfl ?_
          refine y_ialoadP (n := 2600) rfl rfl (by unfold rg; omega) (fun w83 w84 => ?_)
          have w85 : -2147483648 ≤ (Xi U3 950 (((Xi S 904 71)).toNat)) ∧ (Xi U3 950 (((Xi S 904 71)).toNat)) ≤ 2147483647 := Xi_rgI
          refine y_callV rfl rfl rfl (t_mo_need__p hHU3 0 4 (Xi U3 950 (((Xi S 904 71)).toNat)) ⟨by omega, by omega⟩ ⟨by omega, by omega⟩ ⟨by omega, by omega⟩ _) ?_
          rintro _ T4 ⟨hHT4, w97, rfl, nt189⟩
          have hFT4 : FR md_mo_askFifteen__2 S T4 := FR.tr hFU3 w97 rfl
          show Pl _ _ _ _ _ _ [] _ _
          have n189 : Hid (NT3 T4 = if 1 < r2R S (Xi S 904 71) 2 3 then NT3 S else ntF (NT3 S) 4 (pR S (Xi S 904 71))) := by have t := nt189; rw [t164, (SMR_FR hFU3 rfl rfl).2.1 908 _ (by omega), (SMR_FR hFU3 rfl rfl).2.1 950 _ (by omega)] at t; first | (rw [if_pos (by omega)]; rw [if_neg (show ¬ (1 : Int) = 0 by decide)] at t; exact t) | (rw [if_neg (by omega)]; rw [if_pos (show (0 : Int) = 0 from rfl)] at t; exact t)
          clear nt189
          have h189 : Xi T4 904 142 = 2 := ((by assumption : FR md_mo_need__p U3 T4).x 904 142 rfl).trans h164
          refine y_aload_n rfl rfl ?_
          refine y_gfi rfl rfl rfl rfl rfl ?_
          have w98 : (Xi T4 904 72) = (Xi S 904 72) := (show Xi T4 904 72 = Xi U3 904 72 from w97.x _ _ rfl).trans ((show Xi U3 904 72 = Xi S 904 72 from by rw [eU3]; exact Xi_ne (by omega)))
          rw [w98]
          refine y_iconst rfl ?_
          refine y_icmp_le rfl rfl (by unfold rg; omega) (by unfold rg; omega) (fun w99 => ?_) (fun w100 => ?_)
          · refine y_aload_n rfl rfl ?_
            have n213 : Hid (NT3 T4 = if 1 < Xi S 904 72 then ntF (NT3 T4) 4 (pR S (Xi S 904 71 + 1)) else NT3 T4) := by first | (have t := K210; have t := nt210; rw [if_pos (by omega)]; rw [(SMR_FR hFU3 rfl rfl).2.1 908 _ (by omega), (SMR_FR hFU3 rfl rfl).2.1 950 _ (by omega)] at t; exact t) | (unfold Hid; rw [if_neg (by omega)])
            have h213 : Xi T4 904 142 = 2 := by first | (have t := K210; exact h210) | exact h189
            refine y_iload_n rfl rfl ?_
            have w101 : Xi T4 904 108 = Xi S 904 108 := (show Xi T4 904 108 = Xi U3 904 108 from w97.x _ _ rfl).trans ((show Xi U3 904 108 = Xi S 904 108 from by rw [eU3]; exact Xi_ne (by omega)))
            have w102 : Xi T4 904 15 = Xi S 904 15 := (show Xi T4 904 15 = Xi U3 904 15 from w97.x _ _ rfl).trans ((show Xi U3 904 15 = Xi S 904 15 from by rw [eU3]; exact Xi_ne (by omega)))
            have w103 : Xi T4 904 30 = Xi S 904 30 := (show Xi T4 904 30 = Xi U3 904 30 from w97.x _ _ rfl).trans ((show Xi U3 904 30 = Xi S 904 30 from by rw [eU3]; exact Xi_ne (by omega)))
            have w104 : Xi T4 904 69 = Xi S 904 69 := (show Xi T4 904 69 = Xi U3 904 69 from w97.x _ _ rfl).trans ((show Xi U3 904 69 = Xi S 904 69 from by rw [eU3]; exact Xi_ne (by omega)))
            have w110 : Xi T4 904 78 = Xi S 904 78 := (show Xi T4 904 78 = Xi U3 904 78 from w97.x _ _ rfl).trans ((show Xi U3 904 78 = Xi S 904 78 from by rw [eU3]; exact Xi_ne (by omega)))
            refine y_callV rfl rfl rfl (t_mo_askValues__p hHT4 (-1) ⟨by omega, by omega⟩ (by first | assumption | exact (LSP_FR hFT4 rfl rfl (by assumption : LSP S))) (by first | assumption | omega) (by first | assumption | exact (RBD_FR hFT4 rfl (by assumption : RBD S))) (by first | assumption | omega) (by first | assumption | omega) (by first | assumption | omega) _) ?_
            rintro _ T5 ⟨hHT5, w112, rfl, o215⟩
            have hFT5 : FR md_mo_askFifteen__2 S T5 := FR.tr hFT4 w112 rfl
            show Pl _ _ _ _ _ _ [] _ _
            have F215 := Hid.i hFT4
            have h215 := h213
            have z215 : Xi T4 904 108 = 0 := by omega
            have O215 : Hid (RAV T4 T5 (tU5 S)) := by have t := o215; rw [e140] at t; exact t
            refine y_return rfl rfl ?_
            exact ⟨hHT5, hFT5, rfl, (⟨_, _, F215.o, ⟨h215, z215⟩, n189.o, n213.o, O215.o⟩)⟩
          · refine y_aload_n rfl rfl ?_
            refine y_iconst rfl ?_
            refine y_aload_n rfl rfl ?_
            refine y_gfr rfl rfl rfl rfl rfl (hHT4.r 904 67 950 rfl) ?_
            refine y_iload_n rfl rfl ?_
            refine y_iconst rfl ?_
            refine y_iadd rfl ?_
            refine y_ialoadP (n := 2600) rfl rfl (by unfold rg; omega) (fun w122 w123 => ?_)
            have w124 : -2147483648 ≤ (Xi T4 950 ((((Xi S 904 71) + 1)).toNat)) ∧ (Xi T4 950 ((((Xi S 904 71) + 1)).toNat)) ≤ 2147483647 := Xi_rgI
            have w125 : Xi T4 904 108 = Xi S 904 108 := (show Xi T4 904 108 = Xi U3 904 108 from w97.x _ _ rfl).trans ((show Xi U3 904 108 = Xi S 904 108 from by rw [eU3]; exact Xi_ne (by omega)))
            have w126 : Xi T4 904 15 = Xi S 904 15 := (show Xi T4 904 15 = Xi U3 904 15 from w97.x _ _ rfl).trans ((show Xi U3 904 15 = Xi S 904 15 from by rw [eU3]; exact Xi_ne (by omega)))
            have w127 : Xi T4 904 30 = Xi S 904 30 := (show Xi T4 904 30 = Xi U3 904 30 from w97.x _ _ rfl).trans ((show Xi U3 904 30 = Xi S 904 30 from by rw [eU3]; exact Xi_ne (by omega)))
            have w128 : Xi T4 904 69 = Xi S 904 69 := (show Xi T4 904 69 = Xi U3 904 69 from w97.x _ _ rfl).trans ((show Xi U3 904 69 = Xi S 904 69 from by rw [eU3]; exact Xi_ne (by omega)))
            have w129 : Xi T4 904 70 = Xi S 904 70 := (show Xi T4 904 70 = Xi U3 904 70 from w97.x _ _ rfl).trans ((show Xi U3 904 70 = Xi S 904 70 from by rw [eU3]; exact Xi_ne (by omega)))
            have w130 : Xi T4 904 71 = Xi S 904 71 := (show Xi T4 904 71 = Xi U3 904 71 from w97.x _ _ rfl).trans ((show Xi U3 904 71 = Xi S 904 71 from by rw [eU3]; exact Xi_ne (by omega)))
            have w131 : Xi T4 904 72 = Xi S 904 72 := (show Xi T4 904 72 = Xi U3 904 72 from w97.x _ _ rfl).trans ((show Xi U3 904 72 = Xi S 904 72 from by rw [eU3]; exact Xi_ne (by omega)))
            have w132 : Xi T4 904 75 = Xi S 904 75 := (show Xi T4 904 75 = Xi U3 904 75 from w97.x _ _ rfl).trans ((show Xi U3 904 75 = Xi S 904 75 from by rw [eU3]; exact Xi_ne (by omega)))
            have w133 : Xi T4 904 76 = Xi S 904 76 := (show Xi T4 904 76 = Xi U3 904 76 from w97.x _ _ rfl).trans ((show Xi U3 904 76 = Xi S 904 76 from by rw [eU3]; exact Xi_ne (by omega)))
            have w134 : Xi T4 904 78 = Xi S 904 78 := (show Xi T4 904 78 = Xi U3 904 78 from w97.x _ _ rfl).trans ((show Xi U3 904 78 = Xi S 904 78 from by rw [eU3]; exact Xi_ne (by omega)))
            refine y_callV rfl rfl rfl (t_mo_note__p hHT4 4 (Xi T4 950 ((((Xi S 904 71) + 1)).toNat)) ⟨by omega, by omega⟩ ⟨by omega, by omega⟩ _) ?_
            rintro _ T6 ⟨hHT6, w136, rfl, nt210⟩
            have hFT6 : FR md_mo_askFifteen__2 S T6 := FR.tr hFT4 w136 rfl
            show Pl _ _ _ _ _ _ [] _ _
            have K210 : True := trivial
            have h210 : Xi T6 904 142 = 2 := ((by assumption : FR md_mo_note__p T4 T6).x 904 142 rfl).trans h189
            refine y_aload_n rfl rfl ?_
            have n213 : Hid (NT3 T6 = if 1 < Xi S 904 72 then ntF (NT3 T4) 4 (pR S (Xi S 904 71 + 1)) else NT3 T4) := by first | (have t := K210; have t := nt210; rw [if_pos (by omega)]; rw [(SMR_FR hFT4 rfl rfl).2.1 908 _ (by omega), (SMR_FR hFT4 rfl rfl).2.1 950 _ (by omega)] at t; exact t) | (unfold Hid; rw [if_neg (by omega)])
            have h213 : Xi T6 904 142 = 2 := by first | (have t := K210; exact h210) | exact h189
            refine y_iload_n rfl rfl ?_
            have w137 : Xi T6 904 108 = Xi S 904 108 := (show Xi T6 904 108 = Xi T4 904 108 from w136.x _ _ rfl).trans ( (show Xi T4 904 108 = Xi U3 904 108 from w97.x _ _ rfl).trans ((show Xi U3 904 108 = Xi S 904 108 from by rw [eU3]; exact Xi_ne (by omega))))
            have w138 : Xi T6 904 15 = Xi S 904 15 := (show Xi T6 904 15 = Xi T4 904 15 from w136.x _ _ rfl).trans ( (show Xi T4 904 15 = Xi U3 904 15 from w97.x _ _ rfl).trans ((show Xi U3 904 15 = Xi S 904 15 from by rw [eU3]; exact Xi_ne (by omega))))
            have w139 : Xi T6 904 30 = Xi S 904 30 := (show Xi T6 904 30 = Xi T4 904 30 from w136.x _ _ rfl).trans ( (show Xi T4 904 30 = Xi U3 904 30 from w97.x _ _ rfl).trans ((show Xi U3 904 30 = Xi S 904 30 from by rw [eU3]; exact Xi_ne (by omega))))
            have w140 : Xi T6 904 69 = Xi S 904 69 := (show Xi T6 904 69 = Xi T4 904 69 from w136.x _ _ rfl).trans ( (show Xi T4 904 69 = Xi U3 904 69 from w97.x _ _ rfl).trans ((show Xi U3 904 69 = Xi S 904 69 from by rw [eU3]; exact Xi_ne (by omega))))
            have w146 : Xi T6 904 78 = Xi S 904 78 := (show Xi T6 904 78 = Xi T4 904 78 from w136.x _ _ rfl).trans ( (show Xi T4 904 78 = Xi U3 904 78 from w97.x _ _ rfl).trans ((show Xi U3 904 78 = Xi S 904 78 from by rw [eU3]; exact Xi_ne (by omega))))
            refine y_callV rfl rfl rfl (t_mo_askValues__p hHT6 (-1) ⟨by omega, by omega⟩ (by first | assumption | exact (LSP_FR hFT6 rfl rfl (by assumption : LSP S))) (by first | assumption | omega) (by first | assumption | exact (RBD_FR hFT6 rfl (by assumption : RBD S))) (by first | assumption | omega) (by first | assumption | omega) (by first | assumption | omega) _) ?_
            rintro _ T7 ⟨hHT7, w148, rfl, o215⟩
            have hFT7 : FR md_mo_askFifteen__2 S T7 := FR.tr hFT6 w148 rfl
            show Pl _ _ _ _ _ _ [] _ _
            have F215 := Hid.i hFT6
            have h215 := h213
            have z215 : Xi T6 904 108 = 0 := by omega
            have O215 : Hid (RAV T6 T7 (tU5 S)) := by have t := o215; rw [e140] at t; exact t
            refine y_return rfl rfl ?_
            exact ⟨hHT7, hFT7, rfl, (⟨_, _, F215.o, ⟨h215, z215⟩, n189.o, n213.o, O215.o⟩)⟩
        · refine y_iconst rfl ?_
          refine y_goto rfl rfl ?_
          refine y_iconst rfl ?_
          refine y_aload_n rfl rfl ?_
          refine y_gfr rfl rfl rfl rfl rfl (hHU3.r 904 67 950 rfl) ?_
          refine y_iload_n rfl rfl ?_
          refine y_ialoadP (n := 2600) rfl rfl (by unfold rg; omega) (fun w158 w159 => ?_)
          have w160 : -2147483648 ≤ (Xi U3 950 (((Xi S 904 71)).toNat)) ∧ (Xi U3 950 (((Xi S 904 71)).toNat)) ≤ 2147483647 := Xi_rgI
          refine y_callV rfl rfl rfl (t_mo_need__p hHU3 1 4 (Xi U3 950 (((Xi S 904 71)).toNat)) ⟨by omega, by omega⟩ ⟨by omega, by omega⟩ ⟨by omega, by omega⟩ _) ?_
          rintro _ T8 ⟨hHT8, w172, rfl, nt189⟩
          have hFT8 : FR md_mo_askFifteen__2 S T8 := FR.tr hFU3 w172 rfl
          show Pl _ _ _ _ _ _ [] _ _
          have n189 : Hid (NT3 T8 = if 1 < r2R S (Xi S 904 71) 2 3 then NT3 S else ntF (NT3 S) 4 (pR S (Xi S 904 71))) := by have t := nt189; rw [t164, (SMR_FR hFU3 rfl rfl).2.1 908 _ (by omega), (SMR_FR hFU3 rfl rfl).2.1 950 _ (by omega)] at t; first | (rw [if_pos (by omega)]; rw [if_neg (show ¬ (1 : Int) = 0 by decide)] at t; exact t) | (rw [if_neg (by omega)]; rw [if_pos (show (0 : Int) = 0 from rfl)] at t; exact t)
          clear nt189
          have h189 : Xi T8 904 142 = 2 := ((by assumption : FR md_mo_need__p U3 T8).x 904 142 rfl).trans h164
          refine y_aload_n rfl rfl ?_
          refine y_gfi rfl rfl rfl rfl rfl ?_
          have w173 : (Xi T8 904 72) = (Xi S 904 72) := (show Xi T8 904 72 = Xi U3 904 72 from w172.x _ _ rfl).trans ((show Xi U3 904 72 = Xi S 904 72 from by rw [eU3]; exact Xi_ne (by omega)))
          rw [w173]
          refine y_iconst rfl ?_
          refine y_icmp_le rfl rfl (by unfold rg; omega) (by unfold rg; omega) (fun w174 => ?_) (fun w175 => ?_)
          · refine y_aload_n rfl rfl ?_
            have n213 : Hid (NT3 T8 = if 1 < Xi S 904 72 then ntF (NT3 T8) 4 (pR S (Xi S 904 71 + 1)) else NT3 T8) := by first | (have t := K210; have t := nt210; rw [if_pos (by omega)]; rw [(SMR_FR hFU3 rfl rfl).2.1 908 _ (by omega), (SMR_FR hFU3 rfl rfl).2.1 950 _ (by omega)] at t; exact t) | (unfold Hid; rw [if_neg (by omega)])
            have h213 : Xi T8 904 142 = 2 := by first | (have t := K210; exact h210) | exact h189
            refine y_iload_n rfl rfl ?_
            have w176 : Xi T8 904 108 = Xi S 904 108 := (show Xi T8 904 108 = Xi U3 904 108 from w172.x _ _ rfl).trans ((show Xi U3 904 108 = Xi S 904 108 from by rw [eU3]; exact Xi_ne (by omega)))
            have w177 : Xi T8 904 15 = Xi S 904 15 := (show Xi T8 904 15 = Xi U3 904 15 from w172.x _ _ rfl).trans ((show Xi U3 904 15 = Xi S 904 15 from by rw [eU3]; exact Xi_ne (by omega)))
            have w178 : Xi T8 904 30 = Xi S 904 30 := (show Xi T8 904 30 = Xi U3 904 30 from w172.x _ _ rfl).trans ((show Xi U3 904 30 = Xi S 904 30 from by rw [eU3]; exact Xi_ne (by omega)))
            have w179 : Xi T8 904 69 = Xi S 904 69 := (show Xi T8 904 69 = Xi U3 904 69 from w172.x _ _ rfl).trans ((show Xi U3 904 69 = Xi S 904 69 from by rw [eU3]; exact Xi_ne (by omega)))
            have w185 : Xi T8 904 78 = Xi S 904 78 := (show Xi T8 904 78 = Xi U3 904 78 from w172.x _ _ rfl).trans ((show Xi U3 904 78 = Xi S 904 78 from by rw [eU3]; exact Xi_ne (by omega)))
            refine y_callV rfl rfl rfl (t_mo_askValues__p hHT8 (-1) ⟨by omega, by omega⟩ (by first | assumption | exact (LSP_FR hFT8 rfl rfl (by assumption : LSP S))) (by first | assumption | omega) (by first | assumption | exact (RBD_FR hFT8 rfl (by assumption : RBD S))) (by first | assumption | omega) (by first | assumption | omega) (by first | assumption | omega) _) ?_
            rintro _ T9 ⟨hHT9, w187, rfl, o215⟩
            have hFT9 : FR md_mo_askFifteen__2 S T9 := FR.tr hFT8 w187 rfl
            show Pl _ _ _ _ _ _ [] _ _
            have F215 := Hid.i hFT8
            have h215 := h213
            have z215 : Xi T8 904 108 = 0 := by omega
            have O215 : Hid (RAV T8 T9 (tU5 S)) := by have t := o215; rw [e140] at t; exact t
            refine y_return rfl rfl ?_
            exact ⟨hHT9, hFT9, rfl, (⟨_, _, F215.o, ⟨h215, z215⟩, n189.o, n213.o, O215.o⟩)⟩
          · refine y_aload_n rfl rfl ?_
            refine y_iconst rfl ?_
            refine y_aload_n rfl rfl ?_
            refine y_gfr rfl rfl rfl rfl rfl (hHT8.r 904 67 950 rfl) ?_
            refine y_iload_n rfl rfl ?_
            refine y_iconst rfl ?_
            refine y_iadd rfl ?_
            refine y_ialoadP (n := 2600) rfl rfl (by unfold rg; omega) (fun w197 w198 => ?_)
            have w199 : -2147483648 ≤ (Xi T8 950 ((((Xi S 904 71) + 1)).toNat)) ∧ (Xi T8 950 ((((Xi S 904 71) + 1)).toNat)) ≤ 2147483647 := Xi_rgI
            have w200 : Xi T8 904 108 = Xi S 904 108 := (show Xi T8 904 108 = Xi U3 904 108 from w172.x _ _ rfl).trans ((show Xi U3 904 108 = Xi S 904 108 from by rw [eU3]; exact Xi_ne (by omega)))
            have w201 : Xi T8 904 15 = Xi S 904 15 := (show Xi T8 904 15 = Xi U3 904 15 from w172.x _ _ rfl).trans ((show Xi U3 904 15 = Xi S 904 15 from by rw [eU3]; exact Xi_ne (by omega)))
            have w202 : Xi T8 904 30 = Xi S 904 30 := (show Xi T8 904 30 = Xi U3 904 30 from w172.x _ _ rfl).trans ((show Xi U3 904 30 = Xi S 904 30 from by rw [eU3]; exact Xi_ne (by omega)))
            have w203 : Xi T8 904 69 = Xi S 904 69 := (show Xi T8 904 69 = Xi U3 904 69 from w172.x _ _ rfl).trans ((show Xi U3 904 69 = Xi S 904 69 from by rw [eU3]; exact Xi_ne (by omega)))
            have w204 : Xi T8 904 70 = Xi S 904 70 := (show Xi T8 904 70 = Xi U3 904 70 from w172.x _ _ rfl).trans ((show Xi U3 904 70 = Xi S 904 70 from by rw [eU3]; exact Xi_ne (by omega)))
            have w205 : Xi T8 904 71 = Xi S 904 71 := (show Xi T8 904 71 = Xi U3 904 71 from w172.x _ _ rfl).trans ((show Xi U3 904 71 = Xi S 904 71 from by rw [eU3]; exact Xi_ne (by omega)))
            have w206 : Xi T8 904 72 = Xi S 904 72 := (show Xi T8 904 72 = Xi U3 904 72 from w172.x _ _ rfl).trans ((show Xi U3 904 72 = Xi S 904 72 from by rw [eU3]; exact Xi_ne (by omega)))
            have w207 : Xi T8 904 75 = Xi S 904 75 := (show Xi T8 904 75 = Xi U3 904 75 from w172.x _ _ rfl).trans ((show Xi U3 904 75 = Xi S 904 75 from by rw [eU3]; exact Xi_ne (by omega)))
            have w208 : Xi T8 904 76 = Xi S 904 76 := (show Xi T8 904 76 = Xi U3 904 76 from w172.x _ _ rfl).trans ((show Xi U3 904 76 = Xi S 904 76 from by rw [eU3]; exact Xi_ne (by omega)))
            have w209 : Xi T8 904 78 = Xi S 904 78 := (show Xi T8 904 78 = Xi U3 904 78 from w172.x _ _ rfl).trans ((show Xi U3 904 78 = Xi S 904 78 from by rw [eU3]; exact Xi_ne (by omega)))
            refine y_callV rfl rfl rfl (t_mo_note__p hHT8 4 (Xi T8 950 ((((Xi S 904 71) + 1)).toNat)) ⟨by omega, by omega⟩ ⟨by omega, by omega⟩ _) ?_
            rintro _ T10 ⟨hHT10, w211, rfl, nt210⟩
            have hFT10 : FR md_mo_askFifteen__2 S T10 := FR.tr hFT8 w211 rfl
            show Pl _ _ _ _ _ _ [] _ _
            have K210 : True := trivial
            have h210 : Xi T10 904 142 = 2 := ((by assumption : FR md_mo_note__p T8 T10).x 904 142 rfl).trans h189
            refine y_aload_n rfl rfl ?_
            have n213 : Hid (NT3 T10 = if 1 < Xi S 904 72 then ntF (NT3 T8) 4 (pR S (Xi S 904 71 + 1)) else NT3 T8) := by first | (have t := K210; have t := nt210; rw [if_pos (by omega)]; rw [(SMR_FR hFT8 rfl rfl).2.1 908 _ (by omega), (SMR_FR hFT8 rfl rfl).2.1 950 _ (by omega)] at t; exact t) | (unfold Hid; rw [if_neg (by omega)])
            have h213 : Xi T10 904 142 = 2 := by first | (have t := K210; exact h210) | exact h189
            refine y_iload_n rfl rfl ?_
            have w212 : Xi T10 904 108 = Xi S 904 108 := (show Xi T10 904 108 = Xi T8 904 108 from w211.x _ _ rfl).trans ( (show Xi T8 904 108 = Xi U3 904 108 from w172.x _ _ rfl).trans ((show Xi U3 904 108 = Xi S 904 108 from by rw [eU3]; exact Xi_ne (by omega))))
            have w213 : Xi T10 904 15 = Xi S 904 15 := (show Xi T10 904 15 = Xi T8 904 15 from w211.x _ _ rfl).trans ( (show Xi T8 904 15 = Xi U3 904 15 from w172.x _ _ rfl).trans ((show Xi U3 904 15 = Xi S 904 15 from by rw [eU3]; exact Xi_ne (by omega))))
            have w214 : Xi T10 904 30 = Xi S 904 30 := (show Xi T10 904 30 = Xi T8 904 30 from w211.x _ _ rfl).trans ( (show Xi T8 904 30 = Xi U3 904 30 from w172.x _ _ rfl).trans ((show Xi U3 904 30 = Xi S 904 30 from by rw [eU3]; exact Xi_ne (by omega))))
            have w215 : Xi T10 904 69 = Xi S 904 69 := (show Xi T10 904 69 = Xi T8 904 69 from w211.x _ _ rfl).trans ( (show Xi T8 904 69 = Xi U3 904 69 from w172.x _ _ rfl).trans ((show Xi U3 904 69 = Xi S 904 69 from by rw [eU3]; exact Xi_ne (by omega))))
            have w221 : Xi T10 904 78 = Xi S 904 78 := (show Xi T10 904 78 = Xi T8 904 78 from w211.x _ _ rfl).trans ( (show Xi T8 904 78 = Xi U3 904 78 from w172.x _ _ rfl).trans ((show Xi U3 904 78 = Xi S 904 78 from by rw [eU3]; exact Xi_ne (by omega))))
            refine y_callV rfl rfl rfl (t_mo_askValues__p hHT10 (-1) ⟨by omega, by omega⟩ (by first | assumption | exact (LSP_FR hFT10 rfl rfl (by assumption : LSP S))) (by first | assumption | omega) (by first | assumption | exact (RBD_FR hFT10 rfl (by assumption : RBD S))) (by first | assumption | omega) (by first | assumption | omega) (by first | assumption | omega) _) ?_
            rintro _ T11 ⟨hHT11, w223, rfl, o215⟩
            have hFT11 : FR md_mo_askFifteen__2 S T11 := FR.tr hFT10 w223 rfl
            show Pl _ _ _ _ _ _ [] _ _
            have F215 := Hid.i hFT10
            have h215 := h213
            have z215 : Xi T10 904 108 = 0 := by omega
            have O215 : Hid (RAV T10 T11 (tU5 S)) := by have t := o215; rw [e140] at t; exact t
            refine y_return rfl rfl ?_
            exact ⟨hHT11, hFT11, rfl, (⟨_, _, F215.o, ⟨h215, z215⟩, n189.o, n213.o, O215.o⟩)⟩
      · exfalso; omega
    · refine y_aload_n rfl rfl ?_
      refine y_iload_n rfl rfl ?_
      refine y_callV rfl rfl rfl (t_mo_typeOrPlural__p hH (Xi S 904 71) ⟨by omega, by omega⟩ (by first | assumption | exact (LSP_FR hF rfl rfl (by assumption : LSP S))) (by first | assumption | omega) (by first | assumption | exact (RBD_FR hF rfl (by assumption : RBD S))) _) ?_
      rintro _ _ ⟨rfl, z233, rfl, w233, f133⟩
      show Pl _ _ _ _ _ _ [iv z233] _ _
      refine y_goto rfl rfl ?_
      refine y_istore_n rfl rfl rfl ?_
      have e140 : z233 = tU5 S := by unfold tU5; first | (rw [if_pos (by omega)]; exact f133) | (rw [if_neg (by omega)])
      refine y_aload_n rfl rfl ?_
      refine y_gfi rfl rfl rfl rfl rfl ?_
      refine y_bipush rfl rfl ?_
      refine y_icmp_eq rfl rfl (by unfold rg; omega) (by unfold rg; omega) (fun w234 => ?_) (fun w235 => ?_)
      · refine y_aload_n rfl rfl ?_
        refine y_iconst rfl ?_
        refine y_pfi rfl rfl rfl rfl ?_
        obtain ⟨U12, eU12⟩ : ∃ T : sS, T = uI S 904 142 (Int32.ofInt 2) := ⟨_, rfl⟩
        rw [← eU12]
        have hHU12 : RI U12 := by rw [eU12]; exact RI_w hH
        have hFU12 : FR md_mo_askFifteen__2 S U12 := by rw [eU12]; exact FR.wI hF (mdf_i (r := (904, 905, 142, 143)) (List.mem_of_getElem? (i := 9) rfl) (inR_i (by omega) (by omega) (by omega) (by omega)))
        have w236 : Xi U12 904 142 = 2 := by rw [eU12]; exact Xi_same (by unfold rg; omega)
        have ee164 := eU12
        have t164 : NT3 U12 = NT3 S := by unfold NT3; rw [eU12]; repeat rw [Xi_ne (by omega)]
        have h164 : Xi U12 904 142 = 2 := by rw [eU12]; exact Xi_same (by unfold rg; omega)
        refine y_aload_n rfl rfl ?_
        refine y_aload_n rfl rfl ?_
        refine y_iload_n rfl rfl ?_
        have w237 : Xi U12 904 108 = Xi S 904 108 := (show Xi U12 904 108 = Xi S 904 108 from by rw [eU12]; exact Xi_ne (by omega))
        have w238 : Xi U12 904 15 = Xi S 904 15 := (show Xi U12 904 15 = Xi S 904 15 from by rw [eU12]; exact Xi_ne (by omega))
        have w239 : Xi U12 904 30 = Xi S 904 30 := (show Xi U12 904 30 = Xi S 904 30 from by rw [eU12]; exact Xi_ne (by omega))
        have w240 : Xi U12 904 69 = Xi S 904 69 := (show Xi U12 904 69 = Xi S 904 69 from by rw [eU12]; exact Xi_ne (by omega))
        have w241 : Xi U12 904 70 = Xi S 904 70 := (show Xi U12 904 70 = Xi S 904 70 from by rw [eU12]; exact Xi_ne (by omega))
        have w242 : Xi U12 904 71 = Xi S 904 71 := (show Xi U12 904 71 = Xi S 904 71 from by rw [eU12]; exact Xi_ne (by omega))
        have w243 : Xi U12 904 72 = Xi S 904 72 := (show Xi U12 904 72 = Xi S 904 72 from by rw [eU12]; exact Xi_ne (by omega))
        have w244 : Xi U12 904 75 = Xi S 904 75 := (show Xi U12 904 75 = Xi S 904 75 from by rw [eU12]; exact Xi_ne (by omega))
        have w245 : Xi U12 904 76 = Xi S 904 76 := (show Xi U12 904 76 = Xi S 904 76 from by rw [eU12]; exact Xi_ne (by omega))
        have w246 : Xi U12 904 78 = Xi S 904 78 := (show Xi U12 904 78 = Xi S 904 78 from by rw [eU12]; exact Xi_ne (by omega))
        refine y_callV rfl rfl rfl (t_mo_typeOrPlural__p hHU12 (Xi S 904 71) ⟨by omega, by omega⟩ (by first | assumption | exact (LSP_FR hFU12 rfl rfl (by assumption : LSP S))) (by first | assumption | omega) (by first | assumption | exact (RBD_FR hFU12 rfl (by assumption : RBD S))) _) ?_
        rintro _ _ ⟨rfl, z247, rfl, w247, f170⟩
        show Pl _ _ _ _ _ _ [iv z247, .ref 904] _ _
        have e170 : z247 = r2R S (Xi S 904 71) 2 3 := by have t := f170; rw [r2R_FR hFU12 rfl rfl] at t; exact t
        clear f170
        refine y_iconst rfl ?_
        refine y_icmp_le rfl rfl (by unfold rg; omega) (by unfold rg; omega) (fun w248 => ?_) (fun w249 => ?_)
        · refine y_iconst rfl ?_
          refine y_iconst rfl ?_
          refine y_aload_n rfl rfl ?_
          refine y_gfr rfl rfl rfl rfl rfl (hHU12.r 904 67 950 rfl) ?_
          refine y_iload_n rfl rfl ?_
          refine y_ialoadP (n := 2600) rfl rfl (by unfold rg; omega) (fun w250 w251 => ?_)
          have w252 : -2147483648 ≤ (Xi U12 950 (((Xi S 904 71)).toNat)) ∧ (Xi U12 950 (((Xi S 904 71)).toNat)) ≤ 2147483647 := Xi_rgI
          refine y_callV rfl rfl rfl (t_mo_need__p hHU12 0 4 (Xi U12 950 (((Xi S 904 71)).toNat)) ⟨by omega, by omega⟩ ⟨by omega, by omega⟩ ⟨by omega, by omega⟩ _) ?_
          rintro _ T13 ⟨hHT13, w264, rfl, nt189⟩
          have hFT13 : FR md_mo_askFifteen__2 S T13 := FR.tr hFU12 w264 rfl
          show Pl _ _ _ _ _ _ [] _ _
          have n189 : Hid (NT3 T13 = if 1 < r2R S (Xi S 904 71) 2 3 then NT3 S else ntF (NT3 S) 4 (pR S (Xi S 904 71))) := by have t := nt189; rw [t164, (SMR_FR hFU12 rfl rfl).2.1 908 _ (by omega), (SMR_FR hFU12 rfl rfl).2.1 950 _ (by omega)] at t; first | (rw [if_pos (by omega)]; rw [if_neg (show ¬ (1 : Int) = 0 by decide)] at t; exact t) | (rw [if_neg (by omega)]; rw [if_pos (show (0 : Int) = 0 from rfl)] at t; exact t)
          clear nt189
          have h189 : Xi T13 904 142 = 2 := ((by assumption : FR md_mo_need__p U12 T13).x 904 142 rfl).trans h164
          refine y_aload_n rfl rfl ?_
          refine y_gfi rfl rfl rfl rfl rfl ?_
          have w265 : (Xi T13 904 72) = (Xi S 904 72) := (show Xi T13 904 72 = Xi U12 904 72 from w264.x _ _ rfl).trans ((show Xi U12 904 72 = Xi S 904 72 from by rw [eU12]; exact Xi_ne (by omega)))
          rw [w265]
          refine y_iconst rfl ?_
          refine y_icmp_le rfl rfl (by unfold rg; omega) (by unfold rg; omega) (fun w266 => ?_) (fun w267 => ?_)
          · refine y_aload_n rfl rfl ?_
            have n213 : Hid (NT3 T13 = if 1 < Xi S 904 72 then ntF (NT3 T13) 4 (pR S (Xi S 904 71 + 1)) else NT3 T13) := by first | (have t := K210; have t := nt210; rw [if_pos (by omega)]; rw [(SMR_FR hFU12 rfl rfl).2.1 908 _ (by omega), (SMR_FR hFU12 rfl rfl).2.1 950 _ (by omega)] at t; exact t) | (unfold Hid; rw [if_neg (by omega)])
            have h213 : Xi T13 904 142 = 2 := by first | (have t := K210; exact h210) | exact h189
            refine y_iload_n rfl rfl ?_
            have w268 : Xi T13 904 108 = Xi S 904 108 := (show Xi T13 904 108 = Xi U12 904 108 from w264.x _ _ rfl).trans ((show Xi U12 904 108 = Xi S 904 108 from by rw [eU12]; exact Xi_ne (by omega)))
            have w269 : Xi T13 904 15 = Xi S 904 15 := (show Xi T13 904 15 = Xi U12 904 15 from w264.x _ _ rfl).trans ((show Xi U12 904 15 = Xi S 904 15 from by rw [eU12]; exact Xi_ne (by omega)))
            have w270 : Xi T13 904 30 = Xi S 904 30 := (show Xi T13 904 30 = Xi U12 904 30 from w264.x _ _ rfl).trans ((show Xi U12 904 30 = Xi S 904 30 from by rw [eU12]; exact Xi_ne (by omega)))
            have w271 : Xi T13 904 69 = Xi S 904 69 := (show Xi T13 904 69 = Xi U12 904 69 from w264.x _ _ rfl).trans ((show Xi U12 904 69 = Xi S 904 69 from by rw [eU12]; exact Xi_ne (by omega)))
            have w277 : Xi T13 904 78 = Xi S 904 78 := (show Xi T13 904 78 = Xi U12 904 78 from w264.x _ _ rfl).trans ((show Xi U12 904 78 = Xi S 904 78 from by rw [eU12]; exact Xi_ne (by omega)))
            refine y_callV rfl rfl rfl (t_mo_askValues__p hHT13 z233 ⟨by omega, by omega⟩ (by first | assumption | exact (LSP_FR hFT13 rfl rfl (by assumption : LSP S))) (by first | assumption | omega) (by first | assumption | exact (RBD_FR hFT13 rfl (by assumption : RBD S))) (by first | assumption | omega) (by first | assumption | omega) (by first | assumption | omega) _) ?_
            rintro _ T14 ⟨hHT14, w279, rfl, o215⟩
            have hFT14 : FR md_mo_askFifteen__2 S T14 := FR.tr hFT13 w279 rfl
            show Pl _ _ _ _ _ _ [] _ _
            have F215 := Hid.i hFT13
            have h215 := h213
            have z215 : Xi T13 904 108 = 0 := by omega
            have O215 : Hid (RAV T13 T14 (tU5 S)) := by have t := o215; rw [e140] at t; exact t
            refine y_return rfl rfl ?_
            exact ⟨hHT14, hFT14, rfl, (⟨_, _, F215.o, ⟨h215, z215⟩, n189.o, n213.o, O215.o⟩)⟩
          · refine y_aload_n rfl rfl ?_
            refine y_iconst rfl ?_
            refine y_aload_n rfl rfl ?_
            refine y_gfr rfl rfl rfl rfl rfl (hHT13.r 904 67 950 rfl) ?_
            refine y_iload_n rfl rfl ?_
            refine y_iconst rfl ?_
            refine y_iadd rfl ?_
            refine y_ialoadP (n := 2600) rfl rfl (by unfold rg; omega) (fun w289 w290 => ?_)
            have w291 : -2147483648 ≤ (Xi T13 950 ((((Xi S 904 71) + 1)).toNat)) ∧ (Xi T13 950 ((((Xi S 904 71) + 1)).toNat)) ≤ 2147483647 := Xi_rgI
            have w292 : Xi T13 904 108 = Xi S 904 108 := (show Xi T13 904 108 = Xi U12 904 108 from w264.x _ _ rfl).trans ((show Xi U12 904 108 = Xi S 904 108 from by rw [eU12]; exact Xi_ne (by omega)))
            have w293 : Xi T13 904 15 = Xi S 904 15 := (show Xi T13 904 15 = Xi U12 904 15 from w264.x _ _ rfl).trans ((show Xi U12 904 15 = Xi S 904 15 from by rw [eU12]; exact Xi_ne (by omega)))
            have w294 : Xi T13 904 30 = Xi S 904 30 := (show Xi T13 904 30 = Xi U12 904 30 from w264.x _ _ rfl).trans ((show Xi U12 904 30 = Xi S 904 30 from by rw [eU12]; exact Xi_ne (by omega)))
            have w295 : Xi T13 904 69 = Xi S 904 69 := (show Xi T13 904 69 = Xi U12 904 69 from w264.x _ _ rfl).trans ((show Xi U12 904 69 = Xi S 904 69 from by rw [eU12]; exact Xi_ne (by omega)))
            have w296 : Xi T13 904 70 = Xi S 904 70 := (show Xi T13 904 70 = Xi U12 904 70 from w264.x _ _ rfl).trans ((show Xi U12 904 70 = Xi S 904 70 from by rw [eU12]; exact Xi_ne (by omega)))
            have w297 : Xi T13 904 71 = Xi S 904 71 := (show Xi T13 904 71 = Xi U12 904 71 from w264.x _ _ rfl).trans ((show Xi U12 904 71 = Xi S 904 71 from by rw [eU12]; exact Xi_ne (by omega)))
            have w298 : Xi T13 904 72 = Xi S 904 72 := (show Xi T13 904 72 = Xi U12 904 72 from w264.x _ _ rfl).trans ((show Xi U12 904 72 = Xi S 904 72 from by rw [eU12]; exact Xi_ne (by omega)))
            have w299 : Xi T13 904 75 = Xi S 904 75 := (show Xi T13 904 75 = Xi U12 904 75 from w264.x _ _ rfl).trans ((show Xi U12 904 75 = Xi S 904 75 from by rw [eU12]; exact Xi_ne (by omega)))
            have w300 : Xi T13 904 76 = Xi S 904 76 := (show Xi T13 904 76 = Xi U12 904 76 from w264.x _ _ rfl).trans ((show Xi U12 904 76 = Xi S 904 76 from by rw [eU12]; exact Xi_ne (by omega)))
            have w301 : Xi T13 904 78 = Xi S 904 78 := (show Xi T13 904 78 = Xi U12 904 78 from w264.x _ _ rfl).trans ((show Xi U12 904 78 = Xi S 904 78 from by rw [eU12]; exact Xi_ne (by omega)))
            refine y_callV rfl rfl rfl (t_mo_note__p hHT13 4 (Xi T13 950 ((((Xi S 904 71) + 1)).toNat)) ⟨by omega, by omega⟩ ⟨by omega, by omega⟩ _) ?_
            rintro _ T15 ⟨hHT15, w303, rfl, nt210⟩
            have hFT15 : FR md_mo_askFifteen__2 S T15 := FR.tr hFT13 w303 rfl
            show Pl _ _ _ _ _ _ [] _ _
            have K210 : True := trivial
            have h210 : Xi T15 904 142 = 2 := ((by assumption : FR md_mo_note__p T13 T15).x 904 142 rfl).trans h189
            refine y_aload_n rfl rfl ?_
            have n213 : Hid (NT3 T15 = if 1 < Xi S 904 72 then ntF (NT3 T13) 4 (pR S (Xi S 904 71 + 1)) else NT3 T13) := by first | (have t := K210; have t := nt210; rw [if_pos (by omega)]; rw [(SMR_FR hFT13 rfl rfl).2.1 908 _ (by omega), (SMR_FR hFT13 rfl rfl).2.1 950 _ (by omega)] at t; exact t) | (unfold Hid; rw [if_neg (by omega)])
            have h213 : Xi T15 904 142 = 2 := by first | (have t := K210; exact h210) | exact h189
            refine y_iload_n rfl rfl ?_
            have w304 : Xi T15 904 108 = Xi S 904 108 := (show Xi T15 904 108 = Xi T13 904 108 from w303.x _ _ rfl).trans ( (show Xi T13 904 108 = Xi U12 904 108 from w264.x _ _ rfl).trans ((show Xi U12 904 108 = Xi S 904 108 from by rw [eU12]; exact Xi_ne (by omega))))
            have w305 : Xi T15 904 15 = Xi S 904 15 := (show Xi T15 904 15 = Xi T13 904 15 from w303.x _ _ rfl).trans ( (show Xi T13 904 15 = Xi U12 904 15 from w264.x _ _ rfl).trans ((show Xi U12 904 15 = Xi S 904 15 from by rw [eU12]; exact Xi_ne (by omega))))
            have w306 : Xi T15 904 30 = Xi S 904 30 := (show Xi T15 904 30 = Xi T13 904 30 from w303.x _ _ rfl).trans ( (show Xi T13 904 30 = Xi U12 904 30 from w264.x _ _ rfl).trans ((show Xi U12 904 30 = Xi S 904 30 from by rw [eU12]; exact Xi_ne (by omega))))
            have w307 : Xi T15 904 69 = Xi S 904 69 := (show Xi T15 904 69 = Xi T13 904 69 from w303.x _ _ rfl).trans ( (show Xi T13 904 69 = Xi U12 904 69 from w264.x _ _ rfl).trans ((show Xi U12 904 69 = Xi S 904 69 from by rw [eU12]; exact Xi_ne (by omega))))
            have w313 : Xi T15 904 78 = Xi S 904 78 := (show Xi T15 904 78 = Xi T13 904 78 from w303.x _ _ rfl).trans ( (show Xi T13 904 78 = Xi U12 904 78 from w264.x _ _ rfl).trans ((show Xi U12 904 78 = Xi S 904 78 from by rw [eU12]; exact Xi_ne (by omega))))
            refine y_callV rfl rfl rfl (t_mo_askValues__p hHT15 z233 ⟨by omega, by omega⟩ (by first | assumption | exact (LSP_FR hFT15 rfl rfl (by assumption : LSP S))) (by first | assumption | omega) (by first | assumption | exact (RBD_FR hFT15 rfl (by assumption : RBD S))) (by first | assumption | omega) (by first | assumption | omega) (by first | assumption | omega) _) ?_
            rintro _ T16 ⟨hHT16, w315, rfl, o215⟩
            have hFT16 : FR md_mo_askFifteen__2 S T16 := FR.tr hFT15 w315 rfl
            show Pl _ _ _ _ _ _ [] _ _
            have F215 := Hid.i hFT15
            have h215 := h213
            have z215 : Xi T15 904 108 = 0 := by omega
            have O215 : Hid (RAV T15 T16 (tU5 S)) := by have t := o215; rw [e140] at t; exact t
            refine y_return rfl rfl ?_
            exact ⟨hHT16, hFT16, rfl, (⟨_, _, F215.o, ⟨h215, z215⟩, n189.o, n213.o, O215.o⟩)⟩
        · refine y_iconst rfl ?_
          refine y_goto rfl rfl ?_
          refine y_iconst rfl ?_
          refine y_aload_n rfl rfl ?_
          refine y_gfr rfl rfl rfl rfl rfl (hHU12.r 904 67 950 rfl) ?_
          refine y_iload_n rfl rfl ?_
          refine y_ialoadP (n := 2600) rfl rfl (by unfold rg; omega) (fun w325 w326 => ?_)
          have w327 : -2147483648 ≤ (Xi U12 950 (((Xi S 904 71)).toNat)) ∧ (Xi U12 950 (((Xi S 904 71)).toNat)) ≤ 2147483647 := Xi_rgI
          refine y_callV rfl rfl rfl (t_mo_need__p hHU12 1 4 (Xi U12 950 (((Xi S 904 71)).toNat)) ⟨by omega, by omega⟩ ⟨by omega, by omega⟩ ⟨by omega, by omega⟩ _) ?_
          rintro _ T17 ⟨hHT17, w339, rfl, nt189⟩
          have hFT17 : FR md_mo_askFifteen__2 S T17 := FR.tr hFU12 w339 rfl
          show Pl _ _ _ _ _ _ [] _ _
          have n189 : Hid (NT3 T17 = if 1 < r2R S (Xi S 904 71) 2 3 then NT3 S else ntF (NT3 S) 4 (pR S (Xi S 904 71))) := by have t := nt189; rw [t164, (SMR_FR hFU12 rfl rfl).2.1 908 _ (by omega), (SMR_FR hFU12 rfl rfl).2.1 950 _ (by omega)] at t; first | (rw [if_pos (by omega)]; rw [if_neg (show ¬ (1 : Int) = 0 by decide)] at t; exact t) | (rw [if_neg (by omega)]; rw [if_pos (show (0 : Int) = 0 from rfl)] at t; exact t)
          clear nt189
          have h189 : Xi T17 904 142 = 2 := ((by assumption : FR md_mo_need__p U12 T17).x 904 142 rfl).trans h164
          refine y_aload_n rfl rfl ?_
          refine y_gfi rfl rfl rfl rfl rfl ?_
          have w340 : (Xi T17 904 72) = (Xi S 904 72) := (show Xi T17 904 72 = Xi U12 904 72 from w339.x _ _ rfl).trans ((show Xi U12 904 72 = Xi S 904 72 from by rw [eU12]; exact Xi_ne (by omega)))
          rw [w340]
          refine y_iconst rfl ?_
          refine y_icmp_le rfl rfl (by unfold rg; omega) (by unfold rg; omega) (fun w341 => ?_) (fun w342 => ?_)
          · refine y_aload_n rfl rfl ?_
            have n213 : Hid (NT3 T17 = if 1 < Xi S 904 72 then ntF (NT3 T17) 4 (pR S (Xi S 904 71 + 1)) else NT3 T17) := by first | (have t := K210; have t := nt210; rw [if_pos (by omega)]; rw [(SMR_FR hFU12 rfl rfl).2.1 908 _ (by omega), (SMR_FR hFU12 rfl rfl).2.1 950 _ (by omega)] at t; exact t) | (unfold Hid; rw [if_neg (by omega)])
            have h213 : Xi T17 904 142 = 2 := by first | (have t := K210; exact h210) | exact h189
            refine y_iload_n rfl rfl ?_
            have w343 : Xi T17 904 108 = Xi S 904 108 := (show Xi T17 904 108 = Xi U12 904 108 from w339.x _ _ rfl).trans ((show Xi U12 904 108 = Xi S 904 108 from by rw [eU12]; exact Xi_ne (by omega)))
            have w344 : Xi T17 904 15 = Xi S 904 15 := (show Xi T17 904 15 = Xi U12 904 15 from w339.x _ _ rfl).trans ((show Xi U12 904 15 = Xi S 904 15 from by rw [eU12]; exact Xi_ne (by omega)))
            have w345 : Xi T17 904 30 = Xi S 904 30 := (show Xi T17 904 30 = Xi U12 904 30 from w339.x _ _ rfl).trans ((show Xi U12 904 30 = Xi S 904 30 from by rw [eU12]; exact Xi_ne (by omega)))
            have w346 : Xi T17 904 69 = Xi S 904 69 := (show Xi T17 904 69 = Xi U12 904 69 from w339.x _ _ rfl).trans ((show Xi U12 904 69 = Xi S 904 69 from by rw [eU12]; exact Xi_ne (by omega)))
            have w352 : Xi T17 904 78 = Xi S 904 78 := (show Xi T17 904 78 = Xi U12 904 78 from w339.x _ _ rfl).trans ((show Xi U12 904 78 = Xi S 904 78 from by rw [eU12]; exact Xi_ne (by omega)))
            refine y_callV rfl rfl rfl (t_mo_askValues__p hHT17 z233 ⟨by omega, by omega⟩ (by first | assumption | exact (LSP_FR hFT17 rfl rfl (by assumption : LSP S))) (by first | assumption | omega) (by first | assumption | exact (RBD_FR hFT17 rfl (by assumption : RBD S))) (by first | assumption | omega) (by first | assumption | omega) (by first | assumption | omega) _) ?_
            rintro _ T18 ⟨hHT18, w354, rfl, o215⟩
            have hFT18 : FR md_mo_askFifteen__2 S T18 := FR.tr hFT17 w354 rfl
            show Pl _ _ _ _ _ _ [] _ _
            have F215 := Hid.i hFT17
            have h215 := h213
            have z215 : Xi T17 904 108 = 0 := by omega
            have O215 : Hid (RAV T17 T18 (tU5 S)) := by have t := o215; rw [e140] at t; exact t
            refine y_return rfl rfl ?_
            exact ⟨hHT18, hFT18, rfl, (⟨_, _, F215.o, ⟨h215, z215⟩, n189.o, n213.o, O215.o⟩)⟩
          · refine y_aload_n rfl rfl ?_
            refine y_iconst rfl ?_
            refine y_aload_n rfl rfl ?_
            refine y_gfr rfl rfl rfl rfl rfl (hHT17.r 904 67 950 rfl) ?_
            refine y_iload_n rfl rfl ?_
            refine y_iconst rfl ?_
            refine y_iadd rfl ?_
            refine y_ialoadP (n := 2600) rfl rfl (by unfold rg; omega) (fun w364 w365 => ?_)
            have w366 : -2147483648 ≤ (Xi T17 950 ((((Xi S 904 71) + 1)).toNat)) ∧ (Xi T17 950 ((((Xi S 904 71) + 1)).toNat)) ≤ 2147483647 := Xi_rgI
            have w367 : Xi T17 904 108 = Xi S 904 108 := (show Xi T17 904 108 = Xi U12 904 108 from w339.x _ _ rfl).trans ((show Xi U12 904 108 = Xi S 904 108 from by rw [eU12]; exact Xi_ne (by omega)))
            have w368 : Xi T17 904 15 = Xi S 904 15 := (show Xi T17 904 15 = Xi U12 904 15 from w339.x _ _ rfl).trans ((show Xi U12 904 15 = Xi S 904 15 from by rw [eU12]; exact Xi_ne (by omega)))
            have w369 : Xi T17 904 30 = Xi S 904 30 := (show Xi T17 904 30 = Xi U12 904 30 from w339.x _ _ rfl).trans ((show Xi U12 904 30 = Xi S 904 30 from by rw [eU12]; exact Xi_ne (by omega)))
            have w370 : Xi T17 904 69 = Xi S 904 69 := (show Xi T17 904 69 = Xi U12 904 69 from w339.x _ _ rfl).trans ((show Xi U12 904 69 = Xi S 904 69 from by rw [eU12]; exact Xi_ne (by omega)))
            have w371 : Xi T17 904 70 = Xi S 904 70 := (show Xi T17 904 70 = Xi U12 904 70 from w339.x _ _ rfl).trans ((show Xi U12 904 70 = Xi S 904 70 from by rw [eU12]; exact Xi_ne (by omega)))
            have w372 : Xi T17 904 71 = Xi S 904 71 := (show Xi T17 904 71 = Xi U12 904 71 from w339.x _ _ rfl).trans ((show Xi U12 904 71 = Xi S 904 71 from by rw [eU12]; exact Xi_ne (by omega)))
            have w373 : Xi T17 904 72 = Xi S 904 72 := (show Xi T17 904 72 = Xi U12 904 72 from w339.x _ _ rfl).trans ((show Xi U12 904 72 = Xi S 904 72 from by rw [eU12]; exact Xi_ne (by omega)))
            have w374 : Xi T17 904 75 = Xi S 904 75 := (show Xi T17 904 75 = Xi U12 904 75 from w339.x _ _ rfl).trans ((show Xi U12 904 75 = Xi S 904 75 from by rw [eU12]; exact Xi_ne (by omega)))
            have w375 : Xi T17 904 76 = Xi S 904 76 := (show Xi T17 904 76 = Xi U12 904 76 from w339.x _ _ rfl).trans ((show Xi U12 904 76 = Xi S 904 76 from by rw [eU12]; exact Xi_ne (by omega)))
            have w376 : Xi T17 904 78 = Xi S 904 78 := (show Xi T17 904 78 = Xi U12 904 78 from w339.x _ _ rfl).trans ((show Xi U12 904 78 = Xi S 904 78 from by rw [eU12]; exact Xi_ne (by omega)))
            refine y_callV rfl rfl rfl (t_mo_note__p hHT17 4 (Xi T17 950 ((((Xi S 904 71) + 1)).toNat)) ⟨by omega, by omega⟩ ⟨by omega, by omega⟩ _) ?_
            rintro _ T19 ⟨hHT19, w378, rfl, nt210⟩
            have hFT19 : FR md_mo_askFifteen__2 S T19 := FR.tr hFT17 w378 rfl
            show Pl _ _ _ _ _ _ [] _ _
            have K210 : True := trivial
            have h210 : Xi T19 904 142 = 2 := ((by assumption : FR md_mo_note__p T17 T19).x 904 142 rfl).trans h189
            refine y_aload_n rfl rfl ?_
            have n213 : Hid (NT3 T19 = if 1 < Xi S 904 72 then ntF (NT3 T17) 4 (pR S (Xi S 904 71 + 1)) else NT3 T17) := by first | (have t := K210; have t := nt210; rw [if_pos (by omega)]; rw [(SMR_FR hFT17 rfl rfl).2.1 908 _ (by omega), (SMR_FR hFT17 rfl rfl).2.1 950 _ (by omega)] at t; exact t) | (unfold Hid; rw [if_neg (by omega)])
            have h213 : Xi T19 904 142 = 2 := by first | (have t := K210; exact h210) | exact h189
            refine y_iload_n rfl rfl ?_
            have w379 : Xi T19 904 108 = Xi S 904 108 := (show Xi T19 904 108 = Xi T17 904 108 from w378.x _ _ rfl).trans ( (show Xi T17 904 108 = Xi U12 904 108 from w339.x _ _ rfl).trans ((show Xi U12 904 108 = Xi S 904 108 from by rw [eU12]; exact Xi_ne (by omega))))
            have w380 : Xi T19 904 15 = Xi S 904 15 := (show Xi T19 904 15 = Xi T17 904 15 from w378.x _ _ rfl).trans ( (show Xi T17 904 15 = Xi U12 904 15 from w339.x _ _ rfl).trans ((show Xi U12 904 15 = Xi S 904 15 from by rw [eU12]; exact Xi_ne (by omega))))
            have w381 : Xi T19 904 30 = Xi S 904 30 := (show Xi T19 904 30 = Xi T17 904 30 from w378.x _ _ rfl).trans ( (show Xi T17 904 30 = Xi U12 904 30 from w339.x _ _ rfl).trans ((show Xi U12 904 30 = Xi S 904 30 from by rw [eU12]; exact Xi_ne (by omega))))
            have w382 : Xi T19 904 69 = Xi S 904 69 := (show Xi T19 904 69 = Xi T17 904 69 from w378.x _ _ rfl).trans ( (show Xi T17 904 69 = Xi U12 904 69 from w339.x _ _ rfl).trans ((show Xi U12 904 69 = Xi S 904 69 from by rw [eU12]; exact Xi_ne (by omega))))
            have w388 : Xi T19 904 78 = Xi S 904 78 := (show Xi T19 904 78 = Xi T17 904 78 from w378.x _ _ rfl).trans ( (show Xi T17 904 78 = Xi U12 904 78 from w339.x _ _ rfl).trans ((show Xi U12 904 78 = Xi S 904 78 from by rw [eU12]; exact Xi_ne (by omega))))
            refine y_callV rfl rfl rfl (t_mo_askValues__p hHT19 z233 ⟨by omega, by omega⟩ (by first | assumption | exact (LSP_FR hFT19 rfl rfl (by assumption : LSP S))) (by first | assumption | omega) (by first | assumption | exact (RBD_FR hFT19 rfl (by assumption : RBD S))) (by first | assumption | omega) (by first | assumption | omega) (by first | assumption | omega) _) ?_
            rintro _ T20 ⟨hHT20, w390, rfl, o215⟩
            have hFT20 : FR md_mo_askFifteen__2 S T20 := FR.tr hFT19 w390 rfl
            show Pl _ _ _ _ _ _ [] _ _
            have F215 := Hid.i hFT19
            have h215 := h213
            have z215 : Xi T19 904 108 = 0 := by omega
            have O215 : Hid (RAV T19 T20 (tU5 S)) := by have t := o215; rw [e140] at t; exact t
            refine y_return rfl rfl ?_
            exact ⟨hHT20, hFT20, rfl, (⟨_, _, F215.o, ⟨h215, z215⟩, n189.o, n213.o, O215.o⟩)⟩
      · exfalso; omega
  · exfalso; omega
def md_mo_askFifteen__3 : List rec := [(904, 905, 64, 65), (904, 905, 104, 105), (904, 905, 105, 106), (904, 905, 106, 107), (904, 905, 108, 109), (904, 905, 109, 110), (904, 905, 110, 111), (904, 905, 112, 113), (904, 905, 113, 114), (904, 905, 142, 143), (966, 967, 0, 100000), (967, 968, 0, 100000), (968, 969, 0, 100000)]
abbrev Q_mo_askFifteen__3 (S : sS) : pst := fun r S1 => RI S1 ∧ FR md_mo_askFifteen__3 S S1 ∧ (r = none ∧ (RAW md_mo_askFifteen__3 S S1))
set_option maxRecDepth 100000 in
theorem t_mo_askFifteen__3 {S : sS} (hH : RI S) (hLS : LSP S) (h15 : 0 ≤ Xi S 904 15) (hRB : RBD S) (hu : Xi S 904 76 = 0) (hz8 : Xi S 904 108 = 0) (hw : 0 ≤ Xi S 904 78 ∧ Xi S 904 78 ≤ Xi S 904 69 ∧ Xi S 904 69 ≤ 2600) (hv : 0 ≤ Xi S 904 30 ∧ Xi S 904 30 ≤ 64) (hl : 0 ≤ Xi S 904 71 ∧ Xi S 904 71 ≤ 2600) (hs : Xi S 904 70 = 15 ∧ Xi S 904 72 = 1 ∧ 1 < r2R S (Xi S 904 71) 2 3 ∧ Xi S 904 75 = 0) (d : Nat) : Mp lay0 (d + 11) m_mo_askFifteen [.ref 904] S (Q_mo_askFifteen__3 S) := by
  refine Mp_R rfl rfl (fun fu => ?_)
  have hF : FR md_mo_askFifteen__3 S S := FR.rf
  have w1 : -2147483648 ≤ Xi S 904 108 ∧ Xi S 904 108 ≤ 2147483647 := Xi_rgI
  have w2 : -2147483648 ≤ Xi S 904 15 ∧ Xi S 904 15 ≤ 2147483647 := Xi_rgI
  have w3 : -2147483648 ≤ Xi S 904 30 ∧ Xi S 904 30 ≤ 2147483647 := Xi_rgI
  have w4 : -2147483648 ≤ Xi S 904 69 ∧ Xi S 904 69 ≤ 2147483647 := Xi_rgI
  have w5 : -2147483648 ≤ Xi S 904 70 ∧ Xi S 904 70 ≤ 2147483647 := Xi_rgI
  have w6 : -2147483648 ≤ Xi S 904 71 ∧ Xi S 904 71 ≤ 2147483647 := Xi_rgI
  have w7 : -2147483648 ≤ Xi S 904 72 ∧ Xi S 904 72 ≤ 2147483647 := Xi_rgI
  have w8 : -2147483648 ≤ Xi S 904 75 ∧ Xi S 904 75 ≤ 2147483647 := Xi_rgI
  have w9 : -2147483648 ≤ Xi S 904 76 ∧ Xi S 904 76 ≤ 2147483647 := Xi_rgI
  have w10 : -2147483648 ≤ Xi S 904 78 ∧ Xi S 904 78 ≤ 2147483647 := Xi_rgI
  have C361 : ∀ (n361 : Nat) (_ : n361 ≤ fu) (T1 : sS) (_ : RI T1) (_ : FR md_mo_askFifteen__3 S T1) (v1 : Int) (v2 : Int) (v5 : Int) (v6 : Int) (v7 : Int), (-2147483648 ≤ v1 ∧ v1 ≤ 2147483647) → (-2147483648 ≤ v2 ∧ v2 ≤ 2147483647) → (-2147483648 ≤ v5 ∧ v5 ≤ 2147483647) → (-2147483648 ≤ v6 ∧ v6 ≤ 2147483647) → (-2147483648 ≤ v7 ∧ v7 ≤ 2147483647) → ((1 : Int) = 0) → Pl n361 lay0 (d + 10) m_mo_askFifteen 361 [(0, .ref 904), (1, iv v1), (2, iv v2), (5, iv v5), (6, iv v6), (7, iv v7)] [] T1 (Q_mo_askFifteen__3 S) := by
    intro n361
    induction n361 with
    | zero => intros; exact Pl_0
    | succ n361 ih361 =>
      intro hm361 T1 hHT1 hFT1 v1 v2 v5 v6 v7 w11 w12 w13 w14 w15 w16
      have w17 : Xi T1 904 15 = Xi S 904 15 := hFT1.x _ _ rfl
      have w18 : Xi T1 904 16 = Xi S 904 16 := hFT1.x _ _ rfl
      have w19 : Xi T1 904 30 = Xi S 904 30 := hFT1.x _ _ rfl
      have w20 : Xi T1 904 69 = Xi S 904 69 := hFT1.x _ _ rfl
      have w21 : Xi T1 904 70 = Xi S 904 70 := hFT1.x _ _ rfl
      have w22 : Xi T1 904 71 = Xi S 904 71 := hFT1.x _ _ rfl
      have w23 : Xi T1 904 72 = Xi S 904 72 := hFT1.x _ _ rfl
      have w24 : Xi T1 904 75 = Xi S 904 75 := hFT1.x _ _ rfl
      have w25 : Xi T1 904 76 = Xi S 904 76 := hFT1.x _ _ rfl
      have w26 : Xi T1 904 78 = Xi S 904 78 := hFT1.x _ _ rfl
      have w27 : -2147483648 ≤ Xi T1 904 108 ∧ Xi T1 904 108 ≤ 2147483647 := Xi_rgI
      have w28 : -2147483648 ≤ Xi T1 904 15 ∧ Xi T1 904 15 ≤ 2147483647 := Xi_rgI
      have w29 : -2147483648 ≤ Xi T1 904 30 ∧ Xi T1 904 30 ≤ 2147483647 := Xi_rgI
      have w30 : -2147483648 ≤ Xi T1 904 69 ∧ Xi T1 904 69 ≤ 2147483647 := Xi_rgI
      have w31 : -2147483648 ≤ Xi T1 904 70 ∧ Xi T1 904 70 ≤ 2147483647 := Xi_rgI
      have w32 : -2147483648 ≤ Xi T1 904 71 ∧ Xi T1 904 71 ≤ 2147483647 := Xi_rgI
      have w33 : -2147483648 ≤ Xi T1 904 72 ∧ Xi T1 904 72 ≤ 2147483647 := Xi_rgI
      have w34 : -2147483648 ≤ Xi T1 904 75 ∧ Xi T1 904 75 ≤ 2147483647 := Xi_rgI
      have w35 : -2147483648 ≤ Xi T1 904 76 ∧ Xi T1 904 76 ≤ 2147483647 := Xi_rgI
      have w36 : -2147483648 ≤ Xi T1 904 78 ∧ Xi T1 904 78 ≤ 2147483647 := Xi_rgI
      have C432 : ∀ (n432 : Nat) (_ : n432 ≤ n361) (T2 : sS) (_ : RI T2) (_ : FR md_mo_askFifteen__3 S T2) (v1 : Int) (v2 : Int) (v5 : Int) (v7 : Int), (-2147483648 ≤ v1 ∧ v1 ≤ 2147483647) → (-2147483648 ≤ v2 ∧ v2 ≤ 2147483647) → (-2147483648 ≤ v5 ∧ v5 ≤ 2147483647) → (-2147483648 ≤ v7 ∧ v7 ≤ 2147483647) → ((1 : Int) = 0) → Pl n432 lay0 (d + 10) m_mo_askFifteen 432 [(0, .ref 904), (1, iv v1), (2, iv v2), (5, iv v5), (7, iv v7)] [] T2 (Q_mo_askFifteen__3 S) := by
        intro n432
        induction n432 with
        | zero => intros; exact Pl_0
        | succ n432 ih432 =>
          intro hm432 T2 hHT2 hFT2 v1 v2 v5 v7 w37 w38 w39 w40 w41
          have w42 : Xi T2 904 15 = Xi S 904 15 := hFT2.x _ _ rfl
          have w43 : Xi T2 904 16 = Xi S 904 16 := hFT2.x _ _ rfl
          have w44 : Xi T2 904 30 = Xi S 904 30 := hFT2.x _ _ rfl
          have w45 : Xi T2 904 69 = Xi S 904 69 := hFT2.x _ _ rfl
          have w46 : Xi T2 904 70 = Xi S 904 70 := hFT2.x _ _ rfl
          have w47 : Xi T2 904 71 = Xi S 904 71 := hFT2.x _ _ rfl
          have w48 : Xi T2 904 72 = Xi S 904 72 := hFT2.x _ _ rfl
          have w49 : Xi T2 904 75 = Xi S 904 75 := hFT2.x _ _ rfl
          have w50 : Xi T2 904 76 = Xi S 904 76 := hFT2.x _ _ rfl
          have w51 : Xi T2 904 78 = Xi S 904 78 := hFT2.x _ _ rfl
          have w52 : -2147483648 ≤ Xi T2 904 108 ∧ Xi T2 904 108 ≤ 2147483647 := Xi_rgI
          have w53 : -2147483648 ≤ Xi T2 904 15 ∧ Xi T2 904 15 ≤ 2147483647 := Xi_rgI
          have w54 : -2147483648 ≤ Xi T2 904 30 ∧ Xi T2 904 30 ≤ 2147483647 := Xi_rgI
          have w55 : -2147483648 ≤ Xi T2 904 69 ∧ Xi T2 904 69 ≤ 2147483647 := Xi_rgI
          have w56 : -2147483648 ≤ Xi T2 904 70 ∧ Xi T2 904 70 ≤ 2147483647 := Xi_rgI
          have w57 : -2147483648 ≤ Xi T2 904 71 ∧ Xi T2 904 71 ≤ 2147483647 := Xi_rgI
          have w58 : -2147483648 ≤ Xi T2 904 72 ∧ Xi T2 904 72 ≤ 2147483647 := Xi_rgI
          have w59 : -2147483648 ≤ Xi T2 904 75 ∧ Xi T2 904 75 ≤ 2147483647 := Xi_rgI
          have w60 : -2147483648 ≤ Xi T2 904 76 ∧ Xi T2 904 76 ≤ 2147483647 := Xi_rgI
          have w61 : -2147483648 ≤ Xi T2 904 78 ∧ Xi T2 904 78 ≤ 2147483647 := Xi_rgI
          exfalso; omega
      exfalso; omega
  refine y_aload_n rfl rfl ?_
  refine y_gfi rfl rfl rfl rfl rfl ?_
  refine y_istore_n rfl rfl rfl ?_
  refine y_aload_n rfl rfl ?_
  refine y_gfr rfl rfl rfl rfl rfl (hH.r 904 67 950 rfl) ?_
  refine y_aload_n rfl rfl ?_
  refine y_gfi rfl rfl rfl rfl rfl ?_
  refine y_ialoadP (n := 2600) rfl rfl (by unfold rg; omega) (fun w62 w63 => ?_)
  have w64 : -2147483648 ≤ (Xi S 950 (((Xi S 904 78)).toNat)) ∧ (Xi S 950 (((Xi S 904 78)).toNat)) ≤ 2147483647 := Xi_rgI
  refine y_istore_n rfl rfl rfl ?_
  refine y_aload_n rfl rfl ?_
  refine y_gfi rfl rfl rfl rfl rfl ?_
  refine y_if_eq rfl rfl (by unfold rg; omega) (fun w65 => ?_) (fun w66 => ?_)
  · refine y_aload_n rfl rfl ?_
    refine y_gfi rfl rfl rfl rfl rfl ?_
    refine y_iconst rfl ?_
    refine y_icmp_ne rfl rfl (by unfold rg; omega) (by unfold rg; omega) (fun w67 => ?_) (fun w68 => ?_)
    · exfalso; omega
    · refine y_aload_n rfl rfl ?_
      refine y_iload_n rfl rfl ?_
      refine y_callV rfl rfl rfl (t_mo_typeOrPlural__p hH (Xi S 904 71) ⟨by omega, by omega⟩ (by first | assumption | exact (LSP_FR hF rfl rfl (by assumption : LSP S))) (by first | assumption | omega) (by first | assumption | exact (RBD_FR hF rfl (by assumption : RBD S))) _) ?_
      rintro _ _ ⟨rfl, z69, rfl, w69, f133⟩
      show Pl _ _ _ _ _ _ [iv z69] _ _
      refine y_goto rfl rfl ?_
      refine y_istore_n rfl rfl rfl ?_
      have e140 : z69 = tU5 S := by unfold tU5; first | (rw [if_pos (by omega)]; exact f133) | (rw [if_neg (by omega)])
      refine y_aload_n rfl rfl ?_
      refine y_gfi rfl rfl rfl rfl rfl ?_
      refine y_bipush rfl rfl ?_
      refine y_icmp_eq rfl rfl (by unfold rg; omega) (by unfold rg; omega) (fun w70 => ?_) (fun w71 => ?_)
      · refine y_aload_n rfl rfl ?_
        refine y_iconst rfl ?_
        refine y_pfi rfl rfl rfl rfl ?_
        obtain ⟨U3, eU3⟩ : ∃ T : sS, T = uI S 904 142 (Int32.ofInt 2) := ⟨_, rfl⟩
        rw [← eU3]
        have hHU3 : RI U3 := by rw [eU3]; exact RI_w hH
        have hFU3 : FR md_mo_askFifteen__3 S U3 := by rw [eU3]; exact FR.wI hF (mdf_i (r := (904, 905, 142, 143)) (List.mem_of_getElem? (i := 9) rfl) (inR_i (by omega) (by omega) (by omega) (by omega)))
        have w72 : Xi U3 904 142 = 2 := by rw [eU3]; exact Xi_same (by unfold rg; omega)
        have ee164 := eU3
        have t164 : NT3 U3 = NT3 S := by unfold NT3; rw [eU3]; repeat rw [Xi_ne (by omega)]
        have h164 : Xi U3 904 142 = 2 := by rw [eU3]; exact Xi_same (by unfold rg; omega)
        refine y_aload_n rfl rfl ?_
        refine y_aload_n rfl rfl ?_
        refine y_iload_n rfl rfl ?_
        have w73 : Xi U3 904 108 = Xi S 904 108 := (show Xi U3 904 108 = Xi S 904 108 from by rw [eU3]; exact Xi_ne (by omega))
        have w74 : Xi U3 904 15 = Xi S 904 15 := (show Xi U3 904 15 = Xi S 904 15 from by rw [eU3]; exact Xi_ne (by omega))
        have w75 : Xi U3 904 30 = Xi S 904 30 := (show Xi U3 904 30 = Xi S 904 30 from by rw [eU3]; exact Xi_ne (by omega))
        have w76 : Xi U3 904 69 = Xi S 904 69 := (show Xi U3 904 69 = Xi S 904 69 from by rw [eU3]; exact Xi_ne (by omega))
        have w77 : Xi U3 904 70 = Xi S 904 70 := (show Xi U3 904 70 = Xi S 904 70 from by rw [eU3]; exact Xi_ne (by omega))
        have w78 : Xi U3 904 71 = Xi S 904 71 := (show Xi U3 904 71 = Xi S 904 71 from by rw [eU3]; exact Xi_ne (by omega))
        have w79 : Xi U3 904 72 = Xi S 904 72 := (show Xi U3 904 72 = Xi S 904 72 from by rw [eU3]; exact Xi_ne (by omega))
        have w80 : Xi U3 904 75 = Xi S 904 75 := (show Xi U3 904 75 = Xi S 904 75 from by rw [eU3]; exact Xi_ne (by omega))
        have w81 : Xi U3 904 76 = Xi S 904 76 := (show Xi U3 904 76 = Xi S 904 76 from by rw [eU3]; exact Xi_ne (by omega))
        have w82 : Xi U3 904 78 = Xi S 904 78 := (show Xi U3 904 78 = Xi S 904 78 from by rw [eU3]; exact Xi_ne (by omega))
        refine y_callV rfl rfl rfl (t_mo_typeOrPlural__p hHU3 (Xi S 904 71) ⟨by omega, by omega⟩ (by first | assumption | exact (LSP_FR hFU3 rfl rfl (by assumption : LSP S))) (by first | assumption | omega) (by first | assumption | exact (RBD_FR hFU3 rfl (by assumption : RBD S))) _) ?_
        rintro _ _ ⟨rfl, z83, rfl, w83, f170⟩
        show Pl _ _ _ _ _ _ [iv z83, .ref 904] _ _
        have e170 : z83 = r2R S (Xi S 904 71) 2 3 := by have t := f170; rw [r2R_FR hFU3 rfl rfl] at t; exact t
        clear f170
        refine y_iconst rfl ?_
        refine y_icmp_le rfl rfl (by unfold rg; omega) (by unfold rg; omega) (fun w84 => ?_) (fun w85 => ?_)
        · refine y_iconst rfl ?_
          refine y_iconst rfl ?_
          refine y_aload_n rfl rfl ?_
          refine y_gfr rfl rfl rfl rfl rfl (hHU3.r 904 67 950 rfl) ?_
          refine y_iload_n rfl rfl ?_
          refine y_ialoadP (n := 2600) rfl rfl (by unfold rg; omega) (fun w86 w87 => ?_)
          have w88 : -2147483648 ≤ (Xi U3 950 (((Xi S 904 71)).toNat)) ∧ (Xi U3 950 (((Xi S 904 71)).toNat)) ≤ 2147483647 := Xi_rgI
          refine y_callV rfl rfl rfl (t_mo_need__p hHU3 0 4 (Xi U3 950 (((Xi S 904 71)).toNat)) ⟨by omega, by omega⟩ ⟨by omega, by omega⟩ ⟨by omega, by omega⟩ _) ?_
          rintro _ T4 ⟨hHT4, w100, rfl, nt189⟩
          have hFT4 : FR md_mo_askFifteen__3 S T4 := FR.tr hFU3 w100 rfl
          show Pl _ _ _ _ _ _ [] _ _
          have n189 : Hid (NT3 T4 = if 1 < r2R S (Xi S 904 71) 2 3 then NT3 S else ntF (NT3 S) 4 (pR S (Xi S 904 71))) := by have t := nt189; rw [t164, (SMR_FR hFU3 rfl rfl).2.1 908 _ (by omega), (SMR_FR hFU3 rfl rfl).2.1 950 _ (by omega)] at t; first | (rw [if_pos (by omega)]; rw [if_neg (show ¬ (1 : Int) = 0 by decide)] at t; exact t) | (rw [if_neg (by omega)]; rw [if_pos (show (0 : Int) = 0 from rfl)] at t; exact t)
          clear nt189
          have h189 : Xi T4 904 142 = 2 := ((by assumption : FR md_mo_need__p U3 T4).x 904 142 rfl).trans h164
          refine y_aload_n rfl rfl ?_
          refine y_gfi rfl rfl rfl rfl rfl ?_
          have w101 : (Xi T4 904 72) = (Xi S 904 72) := (show Xi T4 904 72 = Xi U3 904 72 from w100.x _ _ rfl).trans ((show Xi U3 904 72 = Xi S 904 72 from by rw [eU3]; exact Xi_ne (by omega)))
          rw [w101]
          refine y_iconst rfl ?_
          refine y_icmp_le rfl rfl (by unfold rg; omega) (by unfold rg; omega) (fun w102 => ?_) (fun w103 => ?_)
          · refine y_aload_n rfl rfl ?_
            have n213 : Hid (NT3 T4 = if 1 < Xi S 904 72 then ntF (NT3 T4) 4 (pR S (Xi S 904 71 + 1)) else NT3 T4) := by first | (have t := K210; have t := nt210; rw [if_pos (by omega)]; rw [(SMR_FR hFU3 rfl rfl).2.1 908 _ (by omega), (SMR_FR hFU3 rfl rfl).2.1 950 _ (by omega)] at t; exact t) | (unfold Hid; rw [if_neg (by omega)])
            have h213 : Xi T4 904 142 = 2 := by first | (have t := K210; exact h210) | exact h189
            refine y_iload_n rfl rfl ?_
            have w104 : Xi T4 904 108 = Xi S 904 108 := (show Xi T4 904 108 = Xi U3 904 108 from w100.x _ _ rfl).trans ((show Xi U3 904 108 = Xi S 904 108 from by rw [eU3]; exact Xi_ne (by omega)))
            have w105 : Xi T4 904 15 = Xi S 904 15 := (show Xi T4 904 15 = Xi U3 904 15 from w100.x _ _ rfl).trans ((show Xi U3 904 15 = Xi S 904 15 from by rw [eU3]; exact Xi_ne (by omega)))
            have w106 : Xi T4 904 30 = Xi S 904 30 := (show Xi T4 904 30 = Xi U3 904 30 from w100.x _ _ rfl).trans ((show Xi U3 904 30 = Xi S 904 30 from by rw [eU3]; exact Xi_ne (by omega)))
            have w107 : Xi T4 904 69 = Xi S 904 69 := (show Xi T4 904 69 = Xi U3 904 69 from w100.x _ _ rfl).trans ((show Xi U3 904 69 = Xi S 904 69 from by rw [eU3]; exact Xi_ne (by omega)))
            have w113 : Xi T4 904 78 = Xi S 904 78 := (show Xi T4 904 78 = Xi U3 904 78 from w100.x _ _ rfl).trans ((show Xi U3 904 78 = Xi S 904 78 from by rw [eU3]; exact Xi_ne (by omega)))
            refine y_callV rfl rfl rfl (t_mo_askValues__p hHT4 z69 ⟨by omega, by omega⟩ (by first | assumption | exact (LSP_FR hFT4 rfl rfl (by assumption : LSP S))) (by first | assumption | omega) (by first | assumption | exact (RBD_FR hFT4 rfl (by assumption : RBD S))) (by first | assumption | omega) (by first | assumption | omega) (by first | assumption | omega) _) ?_
            rintro _ T5 ⟨hHT5, w115, rfl, o215⟩
            have hFT5 : FR md_mo_askFifteen__3 S T5 := FR.tr hFT4 w115 rfl
            show Pl _ _ _ _ _ _ [] _ _
            have F215 := Hid.i hFT4
            have h215 := h213
            have z215 : Xi T4 904 108 = 0 := by omega
            have O215 : Hid (RAV T4 T5 (tU5 S)) := by have t := o215; rw [e140] at t; exact t
            refine y_return rfl rfl ?_
            exact ⟨hHT5, hFT5, rfl, (⟨_, _, F215.o, ⟨h215, z215⟩, n189.o, n213.o, O215.o⟩)⟩
          · refine y_aload_n rfl rfl ?_
            refine y_iconst rfl ?_
            refine y_aload_n rfl rfl ?_
            refine y_gfr rfl rfl rfl rfl rfl (hHT4.r 904 67 950 rfl) ?_
            refine y_iload_n rfl rfl ?_
            refine y_iconst rfl ?_
            refine y_iadd rfl ?_
            refine y_ialoadP (n := 2600) rfl rfl (by unfold rg; omega) (fun w125 w126 => ?_)
            have w127 : -2147483648 ≤ (Xi T4 950 ((((Xi S 904 71) + 1)).toNat)) ∧ (Xi T4 950 ((((Xi S 904 71) + 1)).toNat)) ≤ 2147483647 := Xi_rgI
            have w128 : Xi T4 904 108 = Xi S 904 108 := (show Xi T4 904 108 = Xi U3 904 108 from w100.x _ _ rfl).trans ((show Xi U3 904 108 = Xi S 904 108 from by rw [eU3]; exact Xi_ne (by omega)))
            have w129 : Xi T4 904 15 = Xi S 904 15 := (show Xi T4 904 15 = Xi U3 904 15 from w100.x _ _ rfl).trans ((show Xi U3 904 15 = Xi S 904 15 from by rw [eU3]; exact Xi_ne (by omega)))
            have w130 : Xi T4 904 30 = Xi S 904 30 := (show Xi T4 904 30 = Xi U3 904 30 from w100.x _ _ rfl).trans ((show Xi U3 904 30 = Xi S 904 30 from by rw [eU3]; exact Xi_ne (by omega)))
            have w131 : Xi T4 904 69 = Xi S 904 69 := (show Xi T4 904 69 = Xi U3 904 69 from w100.x _ _ rfl).trans ((show Xi U3 904 69 = Xi S 904 69 from by rw [eU3]; exact Xi_ne (by omega)))
            have w132 : Xi T4 904 70 = Xi S 904 70 := (show Xi T4 904 70 = Xi U3 904 70 from w100.x _ _ rfl).trans ((show Xi U3 904 70 = Xi S 904 70 from by rw [eU3]; exact Xi_ne (by omega)))
            have w133 : Xi T4 904 71 = Xi S 904 71 := (show Xi T4 904 71 = Xi U3 904 71 from w100.x _ _ rfl).trans ((show Xi U3 904 71 = Xi S 904 71 from by rw [eU3]; exact Xi_ne (by omega)))
            have w134 : Xi T4 904 72 = Xi S 904 72 := (show Xi T4 904 72 = Xi U3 904 72 from w100.x _ _ rfl).trans ((show Xi U3 904 72 = Xi S 904 72 from by rw [eU3]; exact Xi_ne (by omega)))
            have w135 : Xi T4 904 75 = Xi S 904 75 := (show Xi T4 904 75 = Xi U3 904 75 from w100.x _ _ rfl).trans ((show Xi U3 904 75 = Xi S 904 75 from by rw [eU3]; exact Xi_ne (by omega)))
            have w136 : Xi T4 904 76 = Xi S 904 76 := (show Xi T4 904 76 = Xi U3 904 76 from w100.x _ _ rfl).trans ((show Xi U3 904 76 = Xi S 904 76 from by rw [eU3]; exact Xi_ne (by omega)))
            have w137 : Xi T4 904 78 = Xi S 904 78 := (show Xi T4 904 78 = Xi U3 904 78 from w100.x _ _ rfl).trans ((show Xi U3 904 78 = Xi S 904 78 from by rw [eU3]; exact Xi_ne (by omega)))
            refine y_callV rfl rfl rfl (t_mo_note__p hHT4 4 (Xi T4 950 ((((Xi S 904 71) + 1)).toNat)) ⟨by omega, by omega⟩ ⟨by omega, by omega⟩ _) ?_
            rintro _ T6 ⟨hHT6, w139, rfl, nt210⟩
            have hFT6 : FR md_mo_askFifteen__3 S T6 := FR.tr hFT4 w139 rfl
            show Pl _ _ _ _ _ _ [] _ _
            have K210 : True := trivial
            have h210 : Xi T6 904 142 = 2 := ((by assumption : FR md_mo_note__p T4 T6).x 904 142 rfl).trans h189
            refine y_aload_n rfl rfl ?_
            have n213 : Hid (NT3 T6 = if 1 < Xi S 904 72 then ntF (NT3 T4) 4 (pR S (Xi S 904 71 + 1)) else NT3 T4) := by first | (have t := K210; have t := nt210; rw [if_pos (by omega)]; rw [(SMR_FR hFT4 rfl rfl).2.1 908 _ (by omega), (SMR_FR hFT4 rfl rfl).2.1 950 _ (by omega)] at t; exact t) | (unfold Hid; rw [if_neg (by omega)])
            have h213 : Xi T6 904 142 = 2 := by first | (have t := K210; exact h210) | exact h189
            refine y_iload_n rfl rfl ?_
            have w140 : Xi T6 904 108 = Xi S 904 108 := (show Xi T6 904 108 = Xi T4 904 108 from w139.x _ _ rfl).trans ( (show Xi T4 904 108 = Xi U3 904 108 from w100.x _ _ rfl).trans ((show Xi U3 904 108 = Xi S 904 108 from by rw [eU3]; exact Xi_ne (by omega))))
            have w141 : Xi T6 904 15 = Xi S 904 15 := (show Xi T6 904 15 = Xi T4 904 15 from w139.x _ _ rfl).trans ( (show Xi T4 904 15 = Xi U3 904 15 from w100.x _ _ rfl).trans ((show Xi U3 904 15 = Xi S 904 15 from by rw [eU3]; exact Xi_ne (by omega))))
            have w142 : Xi T6 904 30 = Xi S 904 30 := (show Xi T6 904 30 = Xi T4 904 30 from w139.x _ _ rfl).trans ( (show Xi T4 904 30 = Xi U3 904 30 from w100.x _ _ rfl).trans ((show Xi U3 904 30 = Xi S 904 30 from by rw [eU3]; exact Xi_ne (by omega))))
            have w143 : Xi T6 904 69 = Xi S 904 69 := (show Xi T6 904 69 = Xi T4 904 69 from w139.x _ _ rfl).trans ( (show Xi T4 904 69 = Xi U3 904 69 from w100.x _ _ rfl).trans ((show Xi U3 904 69 = Xi S 904 69 from by rw [eU3]; exact Xi_ne (by omega))))
            have w149 : Xi T6 904 78 = Xi S 904 78 := (show Xi T6 904 78 = Xi T4 904 78 from w139.x _ _ rfl).trans ( (show Xi T4 904 78 = Xi U3 904 78 from w100.x _ _ rfl).trans ((show Xi U3 904 78 = Xi S 904 78 from by rw [eU3]; exact Xi_ne (by omega))))
            refine y_callV rfl rfl rfl (t_mo_askValues__p hHT6 z69 ⟨by omega, by omega⟩ (by first | assumption | exact (LSP_FR hFT6 rfl rfl (by assumption : LSP S))) (by first | assumption | omega) (by first | assumption | exact (RBD_FR hFT6 rfl (by assumption : RBD S))) (by first | assumption | omega) (by first | assumption | omega) (by first | assumption | omega) _) ?_
            rintro _ T7 ⟨hHT7, w151, rfl, o215⟩
            have hFT7 : FR md_mo_askFifteen__3 S T7 := FR.tr hFT6 w151 rfl
            show Pl _ _ _ _ _ _ [] _ _
            have F215 := Hid.i hFT6
            have h215 := h213
            have z215 : Xi T6 904 108 = 0 := by omega
            have O215 : Hid (RAV T6 T7 (tU5 S)) := by have t := o215; rw [e140] at t; exact t
            refine y_return rfl rfl ?_
            exact ⟨hHT7, hFT7, rfl, (⟨_, _, F215.o, ⟨h215, z215⟩, n189.o, n213.o, O215.o⟩)⟩
        · refine y_iconst rfl ?_
          refine y_goto rfl rfl ?_
          refine y_iconst rfl ?_
          refine y_aload_n rfl rfl ?_
          refine y_gfr rfl rfl rfl rfl rfl (hHU3.r 904 67 950 rfl) ?_
          refine y_iload_n rfl rfl ?_
          refine y_ialoadP (n := 2600) rfl rfl (by unfold rg; omega) (fun w161 w162 => ?_)
          have w163 : -2147483648 ≤ (Xi U3 950 (((Xi S 904 71)).toNat)) ∧ (Xi U3 950 (((Xi S 904 71)).toNat)) ≤ 2147483647 := Xi_rgI
          refine y_callV rfl rfl rfl (t_mo_need__p hHU3 1 4 (Xi U3 950 (((Xi S 904 71)).toNat)) ⟨by omega, by omega⟩ ⟨by omega, by omega⟩ ⟨by omega, by omega⟩ _) ?_
          rintro _ T8 ⟨hHT8, w175, rfl, nt189⟩
          have hFT8 : FR md_mo_askFifteen__3 S T8 := FR.tr hFU3 w175 rfl
          show Pl _ _ _ _ _ _ [] _ _
          have n189 : Hid (NT3 T8 = if 1 < r2R S (Xi S 904 71) 2 3 then NT3 S else ntF (NT3 S) 4 (pR S (Xi S 904 71))) := by have t := nt189; rw [t164, (SMR_FR hFU3 rfl rfl).2.1 908 _ (by omega), (SMR_FR hFU3 rfl rfl).2.1 950 _ (by omega)] at t; first | (rw [if_pos (by omega)]; rw [if_neg (show ¬ (1 : Int) = 0 by decide)] at t; exact t) | (rw [if_neg (by omega)]; rw [if_pos (show (0 : Int) = 0 from rfl)] at t; exact t)
          clear nt189
          have h189 : Xi T8 904 142 = 2 := ((by assumption : FR md_mo_need__p U3 T8).x 904 142 rfl).trans h164
          refine y_aload_n rfl rfl ?_
          refine y_gfi rfl rfl rfl rfl rfl ?_
          have w176 : (Xi T8 904 72) = (Xi S 904 72) := (show Xi T8 904 72 = Xi U3 904 72 from w175.x _ _ rfl).trans ((show Xi U3 904 72 = Xi S 904 72 from by rw [eU3]; exact Xi_ne (by omega)))
          rw [w176]
          refine y_iconst rfl ?_
          refine y_icmp_le rfl rfl (by unfold rg; omega) (by unfold rg; omega) (fun w177 => ?_) (fun w178 => ?_)
          · refine y_aload_n rfl rfl ?_
            have n213 : Hid (NT3 T8 = if 1 < Xi S 904 72 then ntF (NT3 T8) 4 (pR S (Xi S 904 71 + 1)) else NT3 T8) := by first | (have t := K210; have t := nt210; rw [if_pos (by omega)]; rw [(SMR_FR hFU3 rfl rfl).2.1 908 _ (by omega), (SMR_FR hFU3 rfl rfl).2.1 950 _ (by omega)] at t; exact t) | (unfold Hid; rw [if_neg (by omega)])
            have h213 : Xi T8 904 142 = 2 := by first | (have t := K210; exact h210) | exact h189
            refine y_iload_n rfl rfl ?_
            have w179 : Xi T8 904 108 = Xi S 904 108 := (show Xi T8 904 108 = Xi U3 904 108 from w175.x _ _ rfl).trans ((show Xi U3 904 108 = Xi S 904 108 from by rw [eU3]; exact Xi_ne (by omega)))
            have w180 : Xi T8 904 15 = Xi S 904 15 := (show Xi T8 904 15 = Xi U3 904 15 from w175.x _ _ rfl).trans ((show Xi U3 904 15 = Xi S 904 15 from by rw [eU3]; exact Xi_ne (by omega)))
            have w181 : Xi T8 904 30 = Xi S 904 30 := (show Xi T8 904 30 = Xi U3 904 30 from w175.x _ _ rfl).trans ((show Xi U3 904 30 = Xi S 904 30 from by rw [eU3]; exact Xi_ne (by omega)))
            have w182 : Xi T8 904 69 = Xi S 904 69 := (show Xi T8 904 69 = Xi U3 904 69 from w175.x _ _ rfl).trans ((show Xi U3 904 69 = Xi S 904 69 from by rw [eU3]; exact Xi_ne (by omega)))
            have w188 : Xi T8 904 78 = Xi S 904 78 := (show Xi T8 904 78 = Xi U3 904 78 from w175.x _ _ rfl).trans ((show Xi U3 904 78 = Xi S 904 78 from by rw [eU3]; exact Xi_ne (by omega)))
            refine y_callV rfl rfl rfl (t_mo_askValues__p hHT8 z69 ⟨by omega, by omega⟩ (by first | assumption | exact (LSP_FR hFT8 rfl rfl (by assumption : LSP S))) (by first | assumption | omega) (by first | assumption | exact (RBD_FR hFT8 rfl (by assumption : RBD S))) (by first | assumption | omega) (by first | assumption | omega) (by first | assumption | omega) _) ?_
            rintro _ T9 ⟨hHT9, w190, rfl, o215⟩
            have hFT9 : FR md_mo_askFifteen__3 S T9 := FR.tr hFT8 w190 rfl
            show Pl _ _ _ _ _ _ [] _ _
            have F215 := Hid.i hFT8
            have h215 := h213
            have z215 : Xi T8 904 108 = 0 := by omega
            have O215 : Hid (RAV T8 T9 (tU5 S)) := by have t := o215; rw [e140] at t; exact t
            refine y_return rfl rfl ?_
            exact ⟨hHT9, hFT9, rfl, (⟨_, _, F215.o, ⟨h215, z215⟩, n189.o, n213.o, O215.o⟩)⟩
          · refine y_aload_n rfl rfl ?_
            refine y_iconst rfl ?_
            refine y_aload_n rfl rfl ?_
            refine y_gfr rfl rfl rfl rfl rfl (hHT8.r 904 67 950 rfl) ?_
            refine y_iload_n rfl rfl ?_
            refine y_iconst rfl ?_
            refine y_iadd rfl ?_
            refine y_ialoadP (n := 2600) rfl rfl (by unfold rg; omega) (fun w200 w201 => ?_)
            have w202 : -2147483648 ≤ (Xi T8 950 ((((Xi S 904 71) + 1)).toNat)) ∧ (Xi T8 950 ((((Xi S 904 71) + 1)).toNat)) ≤ 2147483647 := Xi_rgI
            have w203 : Xi T8 904 108 = Xi S 904 108 := (show Xi T8 904 108 = Xi U3 904 108 from w175.x _ _ rfl).trans ((show Xi U3 904 108 = Xi S 904 108 from by rw [eU3]; exact Xi_ne (by omega)))
            have w204 : Xi T8 904 15 = Xi S 904 15 := (show Xi T8 904 15 = Xi U3 904 15 from w175.x _ _ rfl).trans ((show Xi U3 904 15 = Xi S 904 15 from by rw [eU3]; exact Xi_ne (by omega)))
            have w205 : Xi T8 904 30 = Xi S 904 30 := (show Xi T8 904 30 = Xi U3 904 30 from w175.x _ _ rfl).trans ((show Xi U3 904 30 = Xi S 904 30 from by rw [eU3]; exact Xi_ne (by omega)))
            have w206 : Xi T8 904 69 = Xi S 904 69 := (show Xi T8 904 69 = Xi U3 904 69 from w175.x _ _ rfl).trans ((show Xi U3 904 69 = Xi S 904 69 from by rw [eU3]; exact Xi_ne (by omega)))
            have w207 : Xi T8 904 70 = Xi S 904 70 := (show Xi T8 904 70 = Xi U3 904 70 from w175.x _ _ rfl).trans ((show Xi U3 904 70 = Xi S 904 70 from by rw [eU3]; exact Xi_ne (by omega)))
            have w208 : Xi T8 904 71 = Xi S 904 71 := (show Xi T8 904 71 = Xi U3 904 71 from w175.x _ _ rfl).trans ((show Xi U3 904 71 = Xi S 904 71 from by rw [eU3]; exact Xi_ne (by omega)))
            have w209 : Xi T8 904 72 = Xi S 904 72 := (show Xi T8 904 72 = Xi U3 904 72 from w175.x _ _ rfl).trans ((show Xi U3 904 72 = Xi S 904 72 from by rw [eU3]; exact Xi_ne (by omega)))
            have w210 : Xi T8 904 75 = Xi S 904 75 := (show Xi T8 904 75 = Xi U3 904 75 from w175.x _ _ rfl).trans ((show Xi U3 904 75 = Xi S 904 75 from by rw [eU3]; exact Xi_ne (by omega)))
            have w211 : Xi T8 904 76 = Xi S 904 76 := (show Xi T8 904 76 = Xi U3 904 76 from w175.x _ _ rfl).trans ((show Xi U3 904 76 = Xi S 904 76 from by rw [eU3]; exact Xi_ne (by omega)))
            have w212 : Xi T8 904 78 = Xi S 904 78 := (show Xi T8 904 78 = Xi U3 904 78 from w175.x _ _ rfl).trans ((show Xi U3 904 78 = Xi S 904 78 from by rw [eU3]; exact Xi_ne (by omega)))
            refine y_callV rfl rfl rfl (t_mo_note__p hHT8 4 (Xi T8 950 ((((Xi S 904 71) + 1)).toNat)) ⟨by omega, by omega⟩ ⟨by omega, by omega⟩ _) ?_
            rintro _ T10 ⟨hHT10, w214, rfl, nt210⟩
            have hFT10 : FR md_mo_askFifteen__3 S T10 := FR.tr hFT8 w214 rfl
            show Pl _ _ _ _ _ _ [] _ _
            have K210 : True := trivial
            have h210 : Xi T10 904 142 = 2 := ((by assumption : FR md_mo_note__p T8 T10).x 904 142 rfl).trans h189
            refine y_aload_n rfl rfl ?_
            have n213 : Hid (NT3 T10 = if 1 < Xi S 904 72 then ntF (NT3 T8) 4 (pR S (Xi S 904 71 + 1)) else NT3 T8) := by first | (have t := K210; have t := nt210; rw [if_pos (by omega)]; rw [(SMR_FR hFT8 rfl rfl).2.1 908 _ (by omega), (SMR_FR hFT8 rfl rfl).2.1 950 _ (by omega)] at t; exact t) | (unfold Hid; rw [if_neg (by omega)])
            have h213 : Xi T10 904 142 = 2 := by first | (have t := K210; exact h210) | exact h189
            refine y_iload_n rfl rfl ?_
            have w215 : Xi T10 904 108 = Xi S 904 108 := (show Xi T10 904 108 = Xi T8 904 108 from w214.x _ _ rfl).trans ( (show Xi T8 904 108 = Xi U3 904 108 from w175.x _ _ rfl).trans ((show Xi U3 904 108 = Xi S 904 108 from by rw [eU3]; exact Xi_ne (by omega))))
            have w216 : Xi T10 904 15 = Xi S 904 15 := (show Xi T10 904 15 = Xi T8 904 15 from w214.x _ _ rfl).trans ( (show Xi T8 904 15 = Xi U3 904 15 from w175.x _ _ rfl).trans ((show Xi U3 904 15 = Xi S 904 15 from by rw [eU3]; exact Xi_ne (by omega))))
            have w217 : Xi T10 904 30 = Xi S 904 30 := (show Xi T10 904 30 = Xi T8 904 30 from w214.x _ _ rfl).trans ( (show Xi T8 904 30 = Xi U3 904 30 from w175.x _ _ rfl).trans ((show Xi U3 904 30 = Xi S 904 30 from by rw [eU3]; exact Xi_ne (by omega))))
            have w218 : Xi T10 904 69 = Xi S 904 69 := (show Xi T10 904 69 = Xi T8 904 69 from w214.x _ _ rfl).trans ( (show Xi T8 904 69 = Xi U3 904 69 from w175.x _ _ rfl).trans ((show Xi U3 904 69 = Xi S 904 69 from by rw [eU3]; exact Xi_ne (by omega))))
            have w224 : Xi T10 904 78 = Xi S 904 78 := (show Xi T10 904 78 = Xi T8 904 78 from w214.x _ _ rfl).trans ( (show Xi T8 904 78 = Xi U3 904 78 from w175.x _ _ rfl).trans ((show Xi U3 904 78 = Xi S 904 78 from by rw [eU3]; exact Xi_ne (by omega))))
            refine y_callV rfl rfl rfl (t_mo_askValues__p hHT10 z69 ⟨by omega, by omega⟩ (by first | assumption | exact (LSP_FR hFT10 rfl rfl (by assumption : LSP S))) (by first | assumption | omega) (by first | assumption | exact (RBD_FR hFT10 rfl (by assumption : RBD S))) (by first | assumption | omega) (by first | assumption | omega) (by first | assumption | omega) _) ?_
            rintro _ T11 ⟨hHT11, w226, rfl, o215⟩
            have hFT11 : FR md_mo_askFifteen__3 S T11 := FR.tr hFT10 w226 rfl
            show Pl _ _ _ _ _ _ [] _ _
            have F215 := Hid.i hFT10
            have h215 := h213
            have z215 : Xi T10 904 108 = 0 := by omega
            have O215 : Hid (RAV T10 T11 (tU5 S)) := by have t := o215; rw [e140] at t; exact t
            refine y_return rfl rfl ?_
            exact ⟨hHT11, hFT11, rfl, (⟨_, _, F215.o, ⟨h215, z215⟩, n189.o, n213.o, O215.o⟩)⟩
      · refine y_iload_n rfl rfl ?_
        refine y_iconst rfl ?_
        refine y_icmp_le rfl rfl (by unfold rg; omega) (by unfold rg; omega) (fun w236 => ?_) (fun w237 => ?_)
        · exfalso; omega
        · refine y_aload_n rfl rfl ?_
          refine y_gfi rfl rfl rfl rfl rfl ?_
          refine y_if_ne rfl rfl (by unfold rg; omega) (fun w238 => ?_) (fun w239 => ?_)
          · exfalso; omega
          · refine y_aload_n rfl rfl ?_
            refine y_iconst rfl ?_
            refine y_pfi rfl rfl rfl rfl ?_
            obtain ⟨U12, eU12⟩ : ∃ T : sS, T = uI S 904 142 (Int32.ofInt 2) := ⟨_, rfl⟩
            rw [← eU12]
            have hHU12 : RI U12 := by rw [eU12]; exact RI_w hH
            have hFU12 : FR md_mo_askFifteen__3 S U12 := by rw [eU12]; exact FR.wI hF (mdf_i (r := (904, 905, 142, 143)) (List.mem_of_getElem? (i := 9) rfl) (inR_i (by omega) (by omega) (by omega) (by omega)))
            have w240 : Xi U12 904 142 = 2 := by rw [eU12]; exact Xi_same (by unfold rg; omega)
            have ee164 := eU12
            have t164 : NT3 U12 = NT3 S := by unfold NT3; rw [eU12]; repeat rw [Xi_ne (by omega)]
            have h164 : Xi U12 904 142 = 2 := by rw [eU12]; exact Xi_same (by unfold rg; omega)
            refine y_aload_n rfl rfl ?_
            refine y_aload_n rfl rfl ?_
            refine y_iload_n rfl rfl ?_
            have w241 : Xi U12 904 108 = Xi S 904 108 := (show Xi U12 904 108 = Xi S 904 108 from by rw [eU12]; exact Xi_ne (by omega))
            have w242 : Xi U12 904 15 = Xi S 904 15 := (show Xi U12 904 15 = Xi S 904 15 from by rw [eU12]; exact Xi_ne (by omega))
            have w243 : Xi U12 904 30 = Xi S 904 30 := (show Xi U12 904 30 = Xi S 904 30 from by rw [eU12]; exact Xi_ne (by omega))
            have w244 : Xi U12 904 69 = Xi S 904 69 := (show Xi U12 904 69 = Xi S 904 69 from by rw [eU12]; exact Xi_ne (by omega))
            have w245 : Xi U12 904 70 = Xi S 904 70 := (show Xi U12 904 70 = Xi S 904 70 from by rw [eU12]; exact Xi_ne (by omega))
            have w246 : Xi U12 904 71 = Xi S 904 71 := (show Xi U12 904 71 = Xi S 904 71 from by rw [eU12]; exact Xi_ne (by omega))
            have w247 : Xi U12 904 72 = Xi S 904 72 := (show Xi U12 904 72 = Xi S 904 72 from by rw [eU12]; exact Xi_ne (by omega))
            have w248 : Xi U12 904 75 = Xi S 904 75 := (show Xi U12 904 75 = Xi S 904 75 from by rw [eU12]; exact Xi_ne (by omega))
            have w249 : Xi U12 904 76 = Xi S 904 76 := (show Xi U12 904 76 = Xi S 904 76 from by rw [eU12]; exact Xi_ne (by omega))
            have w250 : Xi U12 904 78 = Xi S 904 78 := (show Xi U12 904 78 = Xi S 904 78 from by rw [eU12]; exact Xi_ne (by omega))
            refine y_callV rfl rfl rfl (t_mo_typeOrPlural__p hHU12 (Xi S 904 71) ⟨by omega, by omega⟩ (by first | assumption | exact (LSP_FR hFU12 rfl rfl (by assumption : LSP S))) (by first | assumption | omega) (by first | assumption | exact (RBD_FR hFU12 rfl (by assumption : RBD S))) _) ?_
            rintro _ _ ⟨rfl, z251, rfl, w251, f170⟩
            show Pl _ _ _ _ _ _ [iv z251, .ref 904] _ _
            have e170 : z251 = r2R S (Xi S 904 71) 2 3 := by have t := f170; rw [r2R_FR hFU12 rfl rfl] at t; exact t
            clear f170
            refine y_iconst rfl ?_
            refine y_icmp_le rfl rfl (by unfold rg; omega) (by unfold rg; omega) (fun w252 => ?_) (fun w253 => ?_)
            · refine y_iconst rfl ?_
              refine y_iconst rfl ?_
              refine y_aload_n rfl rfl ?_
              refine y_gfr rfl rfl rfl rfl rfl (hHU12.r 904 67 950 rfl) ?_
              refine y_iload_n rfl rfl ?_
              refine y_ialoadP (n := 2600) rfl rfl (by unfold rg; omega) (fun w254 w255 => ?_)
              have w256 : -2147483648 ≤ (Xi U12 950 (((Xi S 904 71)).toNat)) ∧ (Xi U12 950 (((Xi S 904 71)).toNat)) ≤ 2147483647 := Xi_rgI
              refine y_callV rfl rfl rfl (t_mo_need__p hHU12 0 4 (Xi U12 950 (((Xi S 904 71)).toNat)) ⟨by omega, by omega⟩ ⟨by omega, by omega⟩ ⟨by omega, by omega⟩ _) ?_
              rintro _ T13 ⟨hHT13, w268, rfl, nt189⟩
              have hFT13 : FR md_mo_askFifteen__3 S T13 := FR.tr hFU12 w268 rfl
              show Pl _ _ _ _ _ _ [] _ _
              have n189 : Hid (NT3 T13 = if 1 < r2R S (Xi S 904 71) 2 3 then NT3 S else ntF (NT3 S) 4 (pR S (Xi S 904 71))) := by have t := nt189; rw [t164, (SMR_FR hFU12 rfl rfl).2.1 908 _ (by omega), (SMR_FR hFU12 rfl rfl).2.1 950 _ (by omega)] at t; first | (rw [if_pos (by omega)]; rw [if_neg (show ¬ (1 : Int) = 0 by decide)] at t; exact t) | (rw [if_neg (by omega)]; rw [if_pos (show (0 : Int) = 0 from rfl)] at t; exact t)
              clear nt189
              have h189 : Xi T13 904 142 = 2 := ((by assumption : FR md_mo_need__p U12 T13).x 904 142 rfl).trans h164
              refine y_aload_n rfl rfl ?_
              refine y_gfi rfl rfl rfl rfl rfl ?_
              have w269 : (Xi T13 904 72) = (Xi S 904 72) := (show Xi T13 904 72 = Xi U12 904 72 from w268.x _ _ rfl).trans ((show Xi U12 904 72 = Xi S 904 72 from by rw [eU12]; exact Xi_ne (by omega)))
              rw [w269]
              refine y_iconst rfl ?_
              refine y_icmp_le rfl rfl (by unfold rg; omega) (by unfold rg; omega) (fun w270 => ?_) (fun w271 => ?_)
              · refine y_aload_n rfl rfl ?_
                have n213 : Hid (NT3 T13 = if 1 < Xi S 904 72 then ntF (NT3 T13) 4 (pR S (Xi S 904 71 + 1)) else NT3 T13) := by first | (have t := K210; have t := nt210; rw [if_pos (by omega)]; rw [(SMR_FR hFU12 rfl rfl).2.1 908 _ (by omega), (SMR_FR hFU12 rfl rfl).2.1 950 _ (by omega)] at t; exact t) | (unfold Hid; rw [if_neg (by omega)])
                have h213 : Xi T13 904 142 = 2 := by first | (have t := K210; exact h210) | exact h189
                refine y_iload_n rfl rfl ?_
                have w272 : Xi T13 904 108 = Xi S 904 108 := (show Xi T13 904 108 = Xi U12 904 108 from w268.x _ _ rfl).trans ((show Xi U12 904 108 = Xi S 904 108 from by rw [eU12]; exact Xi_ne (by omega)))
                have w273 : Xi T13 904 15 = Xi S 904 15 := (show Xi T13 904 15 = Xi U12 904 15 from w268.x _ _ rfl).trans ((show Xi U12 904 15 = Xi S 904 15 from by rw [eU12]; exact Xi_ne (by omega)))
                have w274 : Xi T13 904 30 = Xi S 904 30 := (show Xi T13 904 30 = Xi U12 904 30 from w268.x _ _ rfl).trans ((show Xi U12 904 30 = Xi S 904 30 from by rw [eU12]; exact Xi_ne (by omega)))
                have w275 : Xi T13 904 69 = Xi S 904 69 := (show Xi T13 904 69 = Xi U12 904 69 from w268.x _ _ rfl).trans ((show Xi U12 904 69 = Xi S 904 69 from by rw [eU12]; exact Xi_ne (by omega)))
                have w281 : Xi T13 904 78 = Xi S 904 78 := (show Xi T13 904 78 = Xi U12 904 78 from w268.x _ _ rfl).trans ((show Xi U12 904 78 = Xi S 904 78 from by rw [eU12]; exact Xi_ne (by omega)))
                refine y_callV rfl rfl rfl (t_mo_askValues__p hHT13 z69 ⟨by omega, by omega⟩ (by first | assumption | exact (LSP_FR hFT13 rfl rfl (by assumption : LSP S))) (by first | assumption | omega) (by first | assumption | exact (RBD_FR hFT13 rfl (by assumption : RBD S))) (by first | assumption | omega) (by first | assumption | omega) (by first | assumption | omega) _) ?_
                rintro _ T14 ⟨hHT14, w283, rfl, o215⟩
                have hFT14 : FR md_mo_askFifteen__3 S T14 := FR.tr hFT13 w283 rfl
                show Pl _ _ _ _ _ _ [] _ _
                have F215 := Hid.i hFT13
                have h215 := h213
                have z215 : Xi T13 904 108 = 0 := by omega
                have O215 : Hid (RAV T13 T14 (tU5 S)) := by have t := o215; rw [e140] at t; exact t
                refine y_return rfl rfl ?_
                exact ⟨hHT14, hFT14, rfl, (⟨_, _, F215.o, ⟨h215, z215⟩, n189.o, n213.o, O215.o⟩)⟩
              · refine y_aload_n rfl rfl ?_
                refine y_iconst rfl ?_
                refine y_aload_n rfl rfl ?_
                refine y_gfr rfl rfl rfl rfl rfl (hHT13.r 904 67 950 rfl) ?_
                refine y_iload_n rfl rfl ?_
                refine y_iconst rfl ?_
                refine y_iadd rfl ?_
                refine y_ialoadP (n := 2600) rfl rfl (by unfold rg; omega) (fun w293 w294 => ?_)
                have w295 : -2147483648 ≤ (Xi T13 950 ((((Xi S 904 71) + 1)).toNat)) ∧ (Xi T13 950 ((((Xi S 904 71) + 1)).toNat)) ≤ 2147483647 := Xi_rgI
                have w296 : Xi T13 904 108 = Xi S 904 108 := (show Xi T13 904 108 = Xi U12 904 108 from w268.x _ _ rfl).trans ((show Xi U12 904 108 = Xi S 904 108 from by rw [eU12]; exact Xi_ne (by omega)))
                have w297 : Xi T13 904 15 = Xi S 904 15 := (show Xi T13 904 15 = Xi U12 904 15 from w268.x _ _ rfl).trans ((show Xi U12 904 15 = Xi S 904 15 from by rw [eU12]; exact Xi_ne (by omega)))
                have w298 : Xi T13 904 30 = Xi S 904 30 := (show Xi T13 904 30 = Xi U12 904 30 from w268.x _ _ rfl).trans ((show Xi U12 904 30 = Xi S 904 30 from by rw [eU12]; exact Xi_ne (by omega)))
                have w299 : Xi T13 904 69 = Xi S 904 69 := (show Xi T13 904 69 = Xi U12 904 69 from w268.x _ _ rfl).trans ((show Xi U12 904 69 = Xi S 904 69 from by rw [eU12]; exact Xi_ne (by omega)))
                have w300 : Xi T13 904 70 = Xi S 904 70 := (show Xi T13 904 70 = Xi U12 904 70 from w268.x _ _ rfl).trans ((show Xi U12 904 70 = Xi S 904 70 from by rw [eU12]; exact Xi_ne (by omega)))
                have w301 : Xi T13 904 71 = Xi S 904 71 := (show Xi T13 904 71 = Xi U12 904 71 from w268.x _ _ rfl).trans ((show Xi U12 904 71 = Xi S 904 71 from by rw [eU12]; exact Xi_ne (by omega)))
                have w302 : Xi T13 904 72 = Xi S 904 72 := (show Xi T13 904 72 = Xi U12 904 72 from w268.x _ _ rfl).trans ((show Xi U12 904 72 = Xi S 904 72 from by rw [eU12]; exact Xi_ne (by omega)))
                have w303 : Xi T13 904 75 = Xi S 904 75 := (show Xi T13 904 75 = Xi U12 904 75 from w268.x _ _ rfl).trans ((show Xi U12 904 75 = Xi S 904 75 from by rw [eU12]; exact Xi_ne (by omega)))
                have w304 : Xi T13 904 76 = Xi S 904 76 := (show Xi T13 904 76 = Xi U12 904 76 from w268.x _ _ rfl).trans ((show Xi U12 904 76 = Xi S 904 76 from by rw [eU12]; exact Xi_ne (by omega)))
                have w305 : Xi T13 904 78 = Xi S 904 78 := (show Xi T13 904 78 = Xi U12 904 78 from w268.x _ _ rfl).trans ((show Xi U12 904 78 = Xi S 904 78 from by rw [eU12]; exact Xi_ne (by omega)))
                refine y_callV rfl rfl rfl (t_mo_note__p hHT13 4 (Xi T13 950 ((((Xi S 904 71) + 1)).toNat)) ⟨by omega, by omega⟩ ⟨by omega, by omega⟩ _) ?_
                rintro _ T15 ⟨hHT15, w307, rfl, nt210⟩
                have hFT15 : FR md_mo_askFifteen__3 S T15 := FR.tr hFT13 w307 rfl
                show Pl _ _ _ _ _ _ [] _ _
                have K210 : True := trivial
                have h210 : Xi T15 904 142 = 2 := ((by assumption : FR md_mo_note__p T13 T15).x 904 142 rfl).trans h189
                refine y_aload_n rfl rfl ?_
                have n213 : Hid (NT3 T15 = if 1 < Xi S 904 72 then ntF (NT3 T13) 4 (pR S (Xi S 904 71 + 1)) else NT3 T13) := by first | (have t := K210; have t := nt210; rw [if_pos (by omega)]; rw [(SMR_FR hFT13 rfl rfl).2.1 908 _ (by omega), (SMR_FR hFT13 rfl rfl).2.1 950 _ (by omega)] at t; exact t) | (unfold Hid; rw [if_neg (by omega)])
                have h213 : Xi T15 904 142 = 2 := by first | (have t := K210; exact h210) | exact h189
                refine y_iload_n rfl rfl ?_
                have w308 : Xi T15 904 108 = Xi S 904 108 := (show Xi T15 904 108 = Xi T13 904 108 from w307.x _ _ rfl).trans ( (show Xi T13 904 108 = Xi U12 904 108 from w268.x _ _ rfl).trans ((show Xi U12 904 108 = Xi S 904 108 from by rw [eU12]; exact Xi_ne (by omega))))
                have w309 : Xi T15 904 15 = Xi S 904 15 := (show Xi T15 904 15 = Xi T13 904 15 from w307.x _ _ rfl).trans ( (show Xi T13 904 15 = Xi U12 904 15 from w268.x _ _ rfl).trans ((show Xi U12 904 15 = Xi S 904 15 from by rw [eU12]; exact Xi_ne (by omega))))
                have w310 : Xi T15 904 30 = Xi S 904 30 := (show Xi T15 904 30 = Xi T13 904 30 from w307.x _ _ rfl).trans ( (show Xi T13 904 30 = Xi U12 904 30 from w268.x _ _ rfl).trans ((show Xi U12 904 30 = Xi S 904 30 from by rw [eU12]; exact Xi_ne (by omega))))
                have w311 : Xi T15 904 69 = Xi S 904 69 := (show Xi T15 904 69 = Xi T13 904 69 from w307.x _ _ rfl).trans ( (show Xi T13 904 69 = Xi U12 904 69 from w268.x _ _ rfl).trans ((show Xi U12 904 69 = Xi S 904 69 from by rw [eU12]; exact Xi_ne (by omega))))
                have w317 : Xi T15 904 78 = Xi S 904 78 := (show Xi T15 904 78 = Xi T13 904 78 from w307.x _ _ rfl).trans ( (show Xi T13 904 78 = Xi U12 904 78 from w268.x _ _ rfl).trans ((show Xi U12 904 78 = Xi S 904 78 from by rw [eU12]; exact Xi_ne (by omega))))
                refine y_callV rfl rfl rfl (t_mo_askValues__p hHT15 z69 ⟨by omega, by omega⟩ (by first | assumption | exact (LSP_FR hFT15 rfl rfl (by assumption : LSP S))) (by first | assumption | omega) (by first | assumption | exact (RBD_FR hFT15 rfl (by assumption : RBD S))) (by first | assumption | omega) (by first | assumption | omega) (by first | assumption | omega) _) ?_
                rintro _ T16 ⟨hHT16, w319, rfl, o215⟩
                have hFT16 : FR md_mo_askFifteen__3 S T16 := FR.tr hFT15 w319 rfl
                show Pl _ _ _ _ _ _ [] _ _
                have F215 := Hid.i hFT15
                have h215 := h213
                have z215 : Xi T15 904 108 = 0 := by omega
                have O215 : Hid (RAV T15 T16 (tU5 S)) := by have t := o215; rw [e140] at t; exact t
                refine y_return rfl rfl ?_
                exact ⟨hHT16, hFT16, rfl, (⟨_, _, F215.o, ⟨h215, z215⟩, n189.o, n213.o, O215.o⟩)⟩
            · refine y_iconst rfl ?_
              refine y_goto rfl rfl ?_
              refine y_iconst rfl ?_
              refine y_aload_n rfl rfl ?_
              refine y_gfr rfl rfl rfl rfl rfl (hHU12.r 904 67 950 rfl) ?_
              refine y_iload_n rfl rfl ?_
              refine y_ialoadP (n := 2600) rfl rfl (by unfold rg; omega) (fun w329 w330 => ?_)
              have w331 : -2147483648 ≤ (Xi U12 950 (((Xi S 904 71)).toNat)) ∧ (Xi U12 950 (((Xi S 904 71)).toNat)) ≤ 2147483647 := Xi_rgI
              refine y_callV rfl rfl rfl (t_mo_need__p hHU12 1 4 (Xi U12 950 (((Xi S 904 71)).toNat)) ⟨by omega, by omega⟩ ⟨by omega, by omega⟩ ⟨by omega, by omega⟩ _) ?_
              rintro _ T17 ⟨hHT17, w343, rfl, nt189⟩
              have hFT17 : FR md_mo_askFifteen__3 S T17 := FR.tr hFU12 w343 rfl
              show Pl _ _ _ _ _ _ [] _ _
              have n189 : Hid (NT3 T17 = if 1 < r2R S (Xi S 904 71) 2 3 then NT3 S else ntF (NT3 S) 4 (pR S (Xi S 904 71))) := by have t := nt189; rw [t164, (SMR_FR hFU12 rfl rfl).2.1 908 _ (by omega), (SMR_FR hFU12 rfl rfl).2.1 950 _ (by omega)] at t; first | (rw [if_pos (by omega)]; rw [if_neg (show ¬ (1 : Int) = 0 by decide)] at t; exact t) | (rw [if_neg (by omega)]; rw [if_pos (show (0 : Int) = 0 from rfl)] at t; exact t)
              clear nt189
              have h189 : Xi T17 904 142 = 2 := ((by assumption : FR md_mo_need__p U12 T17).x 904 142 rfl).trans h164
              refine y_aload_n rfl rfl ?_
              refine y_gfi rfl rfl rfl rfl rfl ?_
              have w344 : (Xi T17 904 72) = (Xi S 904 72) := (show Xi T17 904 72 = Xi U12 904 72 from w343.x _ _ rfl).trans ((show Xi U12 904 72 = Xi S 904 72 from by rw [eU12]; exact Xi_ne (by omega)))
              rw [w344]
              refine y_iconst rfl ?_
              refine y_icmp_le rfl rfl (by unfold rg; omega) (by unfold rg; omega) (fun w345 => ?_) (fun w346 => ?_)
              · refine y_aload_n rfl rfl ?_
                have n213 : Hid (NT3 T17 = if 1 < Xi S 904 72 then ntF (NT3 T17) 4 (pR S (Xi S 904 71 + 1)) else NT3 T17) := by first | (have t := K210; have t := nt210; rw [if_pos (by omega)]; rw [(SMR_FR hFU12 rfl rfl).2.1 908 _ (by omega), (SMR_FR hFU12 rfl rfl).2.1 950 _ (by omega)] at t; exact t) | (unfold Hid; rw [if_neg (by omega)])
                have h213 : Xi T17 904 142 = 2 := by first | (have t := K210; exact h210) | exact h189
                refine y_iload_n rfl rfl ?_
                have w347 : Xi T17 904 108 = Xi S 904 108 := (show Xi T17 904 108 = Xi U12 904 108 from w343.x _ _ rfl).trans ((show Xi U12 904 108 = Xi S 904 108 from by rw [eU12]; exact Xi_ne (by omega)))
                have w348 : Xi T17 904 15 = Xi S 904 15 := (show Xi T17 904 15 = Xi U12 904 15 from w343.x _ _ rfl).trans ((show Xi U12 904 15 = Xi S 904 15 from by rw [eU12]; exact Xi_ne (by omega)))
                have w349 : Xi T17 904 30 = Xi S 904 30 := (show Xi T17 904 30 = Xi U12 904 30 from w343.x _ _ rfl).trans ((show Xi U12 904 30 = Xi S 904 30 from by rw [eU12]; exact Xi_ne (by omega)))
                have w350 : Xi T17 904 69 = Xi S 904 69 := (show Xi T17 904 69 = Xi U12 904 69 from w343.x _ _ rfl).trans ((show Xi U12 904 69 = Xi S 904 69 from by rw [eU12]; exact Xi_ne (by omega)))
                have w356 : Xi T17 904 78 = Xi S 904 78 := (show Xi T17 904 78 = Xi U12 904 78 from w343.x _ _ rfl).trans ((show Xi U12 904 78 = Xi S 904 78 from by rw [eU12]; exact Xi_ne (by omega)))
                refine y_callV rfl rfl rfl (t_mo_askValues__p hHT17 z69 ⟨by omega, by omega⟩ (by first | assumption | exact (LSP_FR hFT17 rfl rfl (by assumption : LSP S))) (by first | assumption | omega) (by first | assumption | exact (RBD_FR hFT17 rfl (by assumption : RBD S))) (by first | assumption | omega) (by first | assumption | omega) (by first | assumption | omega) _) ?_
                rintro _ T18 ⟨hHT18, w358, rfl, o215⟩
                have hFT18 : FR md_mo_askFifteen__3 S T18 := FR.tr hFT17 w358 rfl
                show Pl _ _ _ _ _ _ [] _ _
                have F215 := Hid.i hFT17
                have h215 := h213
                have z215 : Xi T17 904 108 = 0 := by omega
                have O215 : Hid (RAV T17 T18 (tU5 S)) := by have t := o215; rw [e140] at t; exact t
                refine y_return rfl rfl ?_
                exact ⟨hHT18, hFT18, rfl, (⟨_, _, F215.o, ⟨h215, z215⟩, n189.o, n213.o, O215.o⟩)⟩
              · refine y_aload_n rfl rfl ?_
                refine y_iconst rfl ?_
                refine y_aload_n rfl rfl ?_
                refine y_gfr rfl rfl rfl rfl rfl (hHT17.r 904 67 950 rfl) ?_
                refine y_iload_n rfl rfl ?_
                refine y_iconst rfl ?_
                refine y_iadd rfl ?_
                refine y_ialoadP (n := 2600) rfl rfl (by unfold rg; omega) (fun w368 w369 => ?_)
                have w370 : -2147483648 ≤ (Xi T17 950 ((((Xi S 904 71) + 1)).toNat)) ∧ (Xi T17 950 ((((Xi S 904 71) + 1)).toNat)) ≤ 2147483647 := Xi_rgI
                have w371 : Xi T17 904 108 = Xi S 904 108 := (show Xi T17 904 108 = Xi U12 904 108 from w343.x _ _ rfl).trans ((show Xi U12 904 108 = Xi S 904 108 from by rw [eU12]; exact Xi_ne (by omega)))
                have w372 : Xi T17 904 15 = Xi S 904 15 := (show Xi T17 904 15 = Xi U12 904 15 from w343.x _ _ rfl).trans ((show Xi U12 904 15 = Xi S 904 15 from by rw [eU12]; exact Xi_ne (by omega)))
                have w373 : Xi T17 904 30 = Xi S 904 30 := (show Xi T17 904 30 = Xi U12 904 30 from w343.x _ _ rfl).trans ((show Xi U12 904 30 = Xi S 904 30 from by rw [eU12]; exact Xi_ne (by omega)))
                have w374 : Xi T17 904 69 = Xi S 904 69 := (show Xi T17 904 69 = Xi U12 904 69 from w343.x _ _ rfl).trans ((show Xi U12 904 69 = Xi S 904 69 from by rw [eU12]; exact Xi_ne (by omega)))
                have w375 : Xi T17 904 70 = Xi S 904 70 := (show Xi T17 904 70 = Xi U12 904 70 from w343.x _ _ rfl).trans ((show Xi U12 904 70 = Xi S 904 70 from by rw [eU12]; exact Xi_ne (by omega)))
                have w376 : Xi T17 904 71 = Xi S 904 71 := (show Xi T17 904 71 = Xi U12 904 71 from w343.x _ _ rfl).trans ((show Xi U12 904 71 = Xi S 904 71 from by rw [eU12]; exact Xi_ne (by omega)))
                have w377 : Xi T17 904 72 = Xi S 904 72 := (show Xi T17 904 72 = Xi U12 904 72 from w343.x _ _ rfl).trans ((show Xi U12 904 72 = Xi S 904 72 from by rw [eU12]; exact Xi_ne (by omega)))
                have w378 : Xi T17 904 75 = Xi S 904 75 := (show Xi T17 904 75 = Xi U12 904 75 from w343.x _ _ rfl).trans ((show Xi U12 904 75 = Xi S 904 75 from by rw [eU12]; exact Xi_ne (by omega)))
                have w379 : Xi T17 904 76 = Xi S 904 76 := (show Xi T17 904 76 = Xi U12 904 76 from w343.x _ _ rfl).trans ((show Xi U12 904 76 = Xi S 904 76 from by rw [eU12]; exact Xi_ne (by omega)))
                have w380 : Xi T17 904 78 = Xi S 904 78 := (show Xi T17 904 78 = Xi U12 904 78 from w343.x _ _ rfl).trans ((show Xi U12 904 78 = Xi S 904 78 from by rw [eU12]; exact Xi_ne (by omega)))
                refine y_callV rfl rfl rfl (t_mo_note__p hHT17 4 (Xi T17 950 ((((Xi S 904 71) + 1)).toNat)) ⟨by omega, by omega⟩ ⟨by omega, by omega⟩ _) ?_
                rintro _ T19 ⟨hHT19, w382, rfl, nt210⟩
                have hFT19 : FR md_mo_askFifteen__3 S T19 := FR.tr hFT17 w382 rfl
                show Pl _ _ _ _ _ _ [] _ _
                have K210 : True := trivial
                have h210 : Xi T19 904 142 = 2 := ((by assumption : FR md_mo_note__p T17 T19).x 904 142 rfl).trans h189
                refine y_aload_n rfl rfl ?_
                have n213 : Hid (NT3 T19 = if 1 < Xi S 904 72 then ntF (NT3 T17) 4 (pR S (Xi S 904 71 + 1)) else NT3 T17) := by first | (have t := K210; have t := nt210; rw [if_pos (by omega)]; rw [(SMR_FR hFT17 rfl rfl).2.1 908 _ (by omega), (SMR_FR hFT17 rfl rfl).2.1 950 _ (by omega)] at t; exact t) | (unfold Hid; rw [if_neg (by omega)])
                have h213 : Xi T19 904 142 = 2 := by first | (have t := K210; exact h210) | exact h189
                refine y_iload_n rfl rfl ?_
                have w383 : Xi T19 904 108 = Xi S 904 108 := (show Xi T19 904 108 = Xi T17 904 108 from w382.x _ _ rfl).trans ( (show Xi T17 904 108 = Xi U12 904 108 from w343.x _ _ rfl).trans ((show Xi U12 904 108 = Xi S 904 108 from by rw [eU12]; exact Xi_ne (by omega))))
                have w384 : Xi T19 904 15 = Xi S 904 15 := (show Xi T19 904 15 = Xi T17 904 15 from w382.x _ _ rfl).trans ( (show Xi T17 904 15 = Xi U12 904 15 from w343.x _ _ rfl).trans ((show Xi U12 904 15 = Xi S 904 15 from by rw [eU12]; exact Xi_ne (by omega))))
                have w385 : Xi T19 904 30 = Xi S 904 30 := (show Xi T19 904 30 = Xi T17 904 30 from w382.x _ _ rfl).trans ( (show Xi T17 904 30 = Xi U12 904 30 from w343.x _ _ rfl).trans ((show Xi U12 904 30 = Xi S 904 30 from by rw [eU12]; exact Xi_ne (by omega))))
                have w386 : Xi T19 904 69 = Xi S 904 69 := (show Xi T19 904 69 = Xi T17 904 69 from w382.x _ _ rfl).trans ( (show Xi T17 904 69 = Xi U12 904 69 from w343.x _ _ rfl).trans ((show Xi U12 904 69 = Xi S 904 69 from by rw [eU12]; exact Xi_ne (by omega))))
                have w392 : Xi T19 904 78 = Xi S 904 78 := (show Xi T19 904 78 = Xi T17 904 78 from w382.x _ _ rfl).trans ( (show Xi T17 904 78 = Xi U12 904 78 from w343.x _ _ rfl).trans ((show Xi U12 904 78 = Xi S 904 78 from by rw [eU12]; exact Xi_ne (by omega))))
                refine y_callV rfl rfl rfl (t_mo_askValues__p hHT19 z69 ⟨by omega, by omega⟩ (by first | assumption | exact (LSP_FR hFT19 rfl rfl (by assumption : LSP S))) (by first | assumption | omega) (by first | assumption | exact (RBD_FR hFT19 rfl (by assumption : RBD S))) (by first | assumption | omega) (by first | assumption | omega) (by first | assumption | omega) _) ?_
                rintro _ T20 ⟨hHT20, w394, rfl, o215⟩
                have hFT20 : FR md_mo_askFifteen__3 S T20 := FR.tr hFT19 w394 rfl
                show Pl _ _ _ _ _ _ [] _ _
                have F215 := Hid.i hFT19
                have h215 := h213
                have z215 : Xi T19 904 108 = 0 := by omega
                have O215 : Hid (RAV T19 T20 (tU5 S)) := by have t := o215; rw [e140] at t; exact t
                refine y_return rfl rfl ?_
                exact ⟨hHT20, hFT20, rfl, (⟨_, _, F215.o, ⟨h215, z215⟩, n189.o, n213.o, O215.o⟩)⟩
  · exfalso; omega
end
