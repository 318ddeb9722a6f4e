section
def md_mo_doFifteen__1f : List rec := [(904, 905, 105, 106), (904, 905, 106, 107), (925, 926, 0, 100000), (926, 927, 0, 100000), (933, 934, 0, 100000), (934, 935, 0, 100000), (935, 936, 0, 100000)]
abbrev Q_mo_doFifteen__1f (S : sS) : pst := fun r S1 => RI S1 ∧ FR md_mo_doFifteen__1f S S1 ∧ (r = none)
set_option maxRecDepth 100000 in
theorem t_mo_doFifteen__1f {S : sS} (hH : RI S) (hLS : LSP S) (h15 : 0 ≤ Xi S 904 15) (hRB : RBD S) (hLX : LXR S) (hct : Hid (∀ j : Nat, -1 ≤ Xi S 922 j ∧ Xi S 922 j ≤ 23)) (hh : Xi S 904 142 = 1) (hz0 : Xi S 904 106 = 0) (hk : rnR S (Xi S 904 71) 0 ≠ -1 ∧ rnR S (Xi S 904 71) 0 ≤ 15) (hra : 0 ≤ Xi S 967 0 ∧ Xi S 967 0 ≤ 7000) (d : Nat) : Mp lay0 (d + 7) m_mo_doFifteen [.ref 904] S (Q_mo_doFifteen__1f S) := by
  refine Mp_R rfl rfl (fun fu => ?_)
  have hF : FR md_mo_doFifteen__1f S S := FR.rf
  have w1 : -2147483648 ≤ Xi S 904 106 ∧ Xi S 904 106 ≤ 2147483647 := Xi_rgI
  have w2 : -2147483648 ≤ Xi S 904 142 ∧ Xi S 904 142 ≤ 2147483647 := Xi_rgI
  have w3 : -2147483648 ≤ Xi S 904 15 ∧ Xi S 904 15 ≤ 2147483647 := Xi_rgI
  have w4 : -2147483648 ≤ Xi S 904 71 ∧ Xi S 904 71 ≤ 2147483647 := Xi_rgI
  have w5 : -2147483648 ≤ Xi S 967 0 ∧ Xi S 967 0 ≤ 2147483647 := Xi_rgI
  have C120 : ∀ (n120 : Nat) (_ : n120 ≤ fu) (T1 : sS) (_ : RI T1) (_ : FR md_mo_doFifteen__1f S T1) (v2 : Int) (v3 : Int), (-2147483648 ≤ v2 ∧ v2 ≤ 2147483647) → (-2147483648 ≤ v3 ∧ v3 ≤ 2147483647) → ((1 : Int) = 0) → Pl n120 lay0 (d + 6) m_mo_doFifteen 120 [(0, .ref 904), (2, iv v2), (3, iv v3)] [] T1 (Q_mo_doFifteen__1f S) := by
    intro n120
    induction n120 with
    | zero => intros; exact Pl_0
    | succ n120 ih120 =>
      intro hm120 T1 hHT1 hFT1 v2 v3 w6 w7 w8
      have w9 : Xi T1 904 110 = Xi S 904 110 := hFT1.x _ _ rfl
      have w10 : Xi T1 904 112 = Xi S 904 112 := hFT1.x _ _ rfl
      have w11 : Xi T1 904 113 = Xi S 904 113 := hFT1.x _ _ rfl
      have w12 : Xi T1 904 142 = Xi S 904 142 := hFT1.x _ _ rfl
      have w13 : Xi T1 904 15 = Xi S 904 15 := hFT1.x _ _ rfl
      have w14 : Xi T1 904 16 = Xi S 904 16 := hFT1.x _ _ rfl
      have w15 : Xi T1 904 19 = Xi S 904 19 := hFT1.x _ _ rfl
      have w16 : Xi T1 904 23 = Xi S 904 23 := hFT1.x _ _ rfl
      have w17 : Xi T1 904 32 = Xi S 904 32 := hFT1.x _ _ rfl
      have w18 : Xi T1 904 60 = Xi S 904 60 := hFT1.x _ _ rfl
      have w19 : Xi T1 904 69 = Xi S 904 69 := hFT1.x _ _ rfl
      have w20 : Xi T1 904 70 = Xi S 904 70 := hFT1.x _ _ rfl
      have w21 : Xi T1 904 71 = Xi S 904 71 := hFT1.x _ _ rfl
      have w22 : Xi T1 904 72 = Xi S 904 72 := hFT1.x _ _ rfl
      have w23 : Xi T1 904 73 = Xi S 904 73 := hFT1.x _ _ rfl
      have w24 : Xi T1 904 74 = Xi S 904 74 := hFT1.x _ _ rfl
      have w25 : Xi T1 967 0 = Xi S 967 0 := hFT1.x _ _ rfl
      have w26 : -2147483648 ≤ Xi T1 904 106 ∧ Xi T1 904 106 ≤ 2147483647 := Xi_rgI
      have w27 : -2147483648 ≤ Xi T1 904 142 ∧ Xi T1 904 142 ≤ 2147483647 := Xi_rgI
      have w28 : -2147483648 ≤ Xi T1 904 15 ∧ Xi T1 904 15 ≤ 2147483647 := Xi_rgI
      have w29 : -2147483648 ≤ Xi T1 904 71 ∧ Xi T1 904 71 ≤ 2147483647 := Xi_rgI
      exfalso; omega
  have C190 : ∀ (n190 : Nat) (_ : n190 ≤ fu) (T2 : sS) (_ : RI T2) (_ : FR md_mo_doFifteen__1f S T2) (v1 : Int) (v2 : Int), (-2147483648 ≤ v1 ∧ v1 ≤ 2147483647) → (-2147483648 ≤ v2 ∧ v2 ≤ 2147483647) → ((1 : Int) = 0) → Pl n190 lay0 (d + 6) m_mo_doFifteen 190 [(0, .ref 904), (1, iv v1), (2, iv v2)] [] T2 (Q_mo_doFifteen__1f S) := by
    intro n190
    induction n190 with
    | zero => intros; exact Pl_0
    | succ n190 ih190 =>
      intro hm190 T2 hHT2 hFT2 v1 v2 w30 w31 w32
      have w33 : Xi T2 904 110 = Xi S 904 110 := hFT2.x _ _ rfl
      have w34 : Xi T2 904 112 = Xi S 904 112 := hFT2.x _ _ rfl
      have w35 : Xi T2 904 113 = Xi S 904 113 := hFT2.x _ _ rfl
      have w36 : Xi T2 904 142 = Xi S 904 142 := hFT2.x _ _ rfl
      have w37 : Xi T2 904 15 = Xi S 904 15 := hFT2.x _ _ rfl
      have w38 : Xi T2 904 16 = Xi S 904 16 := hFT2.x _ _ rfl
      have w39 : Xi T2 904 19 = Xi S 904 19 := hFT2.x _ _ rfl
      have w40 : Xi T2 904 23 = Xi S 904 23 := hFT2.x _ _ rfl
      have w41 : Xi T2 904 32 = Xi S 904 32 := hFT2.x _ _ rfl
      have w42 : Xi T2 904 60 = Xi S 904 60 := hFT2.x _ _ rfl
      have w43 : Xi T2 904 69 = Xi S 904 69 := hFT2.x _ _ rfl
      have w44 : Xi T2 904 70 = Xi S 904 70 := hFT2.x _ _ rfl
      have w45 : Xi T2 904 71 = Xi S 904 71 := hFT2.x _ _ rfl
      have w46 : Xi T2 904 72 = Xi S 904 72 := hFT2.x _ _ rfl
      have w47 : Xi T2 904 73 = Xi S 904 73 := hFT2.x _ _ rfl
      have w48 : Xi T2 904 74 = Xi S 904 74 := hFT2.x _ _ rfl
      have w49 : Xi T2 967 0 = Xi S 967 0 := hFT2.x _ _ rfl
      have w50 : -2147483648 ≤ Xi T2 904 106 ∧ Xi T2 904 106 ≤ 2147483647 := Xi_rgI
      have w51 : -2147483648 ≤ Xi T2 904 142 ∧ Xi T2 904 142 ≤ 2147483647 := Xi_rgI
      have w52 : -2147483648 ≤ Xi T2 904 15 ∧ Xi T2 904 15 ≤ 2147483647 := Xi_rgI
      have w53 : -2147483648 ≤ Xi T2 904 71 ∧ Xi T2 904 71 ≤ 2147483647 := Xi_rgI
      exfalso; omega
  refine y_aload_n rfl rfl ?_
  refine y_gfr rfl rfl rfl rfl rfl (hH.r 904 67 950 rfl) ?_
  refine y_aload_n rfl rfl ?_
  refine y_gfi rfl rfl rfl rfl rfl ?_
  have w54 : -2147483648 ≤ (Xi S 904 78) ∧ (Xi S 904 78) ≤ 2147483647 := Xi_rgI
  refine y_ialoadP (n := 2600) rfl rfl (by unfold rg; omega) (fun w55 w56 => ?_)
  have w57 : -2147483648 ≤ (Xi S 950 (((Xi S 904 78)).toNat)) ∧ (Xi S 950 (((Xi S 904 78)).toNat)) ≤ 2147483647 := Xi_rgI
  refine y_istore_n rfl rfl rfl ?_
  refine y_aload_n rfl rfl ?_
  refine y_gfi rfl rfl rfl rfl rfl ?_
  refine y_iconst rfl ?_
  refine y_icmp_ne rfl rfl (by unfold rg; omega) (by unfold rg; omega) (fun w58 => ?_) (fun w59 => ?_)
  · exfalso; omega
  · refine y_aload_n rfl rfl ?_
    refine y_aload_n rfl rfl ?_
    refine y_gfi rfl rfl rfl rfl rfl ?_
    refine y_iconst rfl ?_
    refine y_callV rfl rfl rfl (t_mo_meansRun__p hH (Xi S 904 71) 0 ⟨by omega, by omega⟩ ⟨by omega, by omega⟩ (by first | assumption | exact (LSP_FR hF rfl rfl (by assumption : LSP S))) (by first | assumption | omega) (by first | assumption | exact (RBD_FR hF rfl (by assumption : RBD S))) _) ?_
    rintro _ _ ⟨rfl, z60, rfl, w60, f24⟩
    show Pl _ _ _ _ _ _ [iv z60] _ _
    have b24 := rnR_ix (r := Xi S 904 71) (s := 0) hLX h15
    refine y_istore_n rfl rfl rfl ?_
    refine y_aload_n rfl rfl ?_
    refine y_gfr rfl rfl rfl rfl rfl (hH.r 904 111 967 rfl) ?_
    refine y_iconst rfl ?_
    refine y_ialoadP (n := 6) rfl rfl (by unfold rg; omega) (fun w61 w62 => ?_)
    have w63 : -2147483648 ≤ (Xi S 967 ((0 : Int).toNat)) ∧ (Xi S 967 ((0 : Int).toNat)) ≤ 2147483647 := Xi_rgI
    have w64 : (Xi S 967 ((0 : Int).toNat)) = Xi S 967 0 := rfl
    have a33 : (Xi S 967 ((0 : Int).toNat)) = Xi S 967 0 := rfl
    refine y_istore_n rfl rfl rfl ?_
    refine y_iload_n rfl rfl ?_
    refine y_bipush rfl rfl ?_
    refine y_icmp_ge rfl rfl (by unfold rg; omega) (by unfold rg; omega) (fun w65 => ?_) (fun w66 => ?_)
    · refine y_aload_n rfl rfl ?_
      refine y_iload_n rfl rfl ?_
      refine y_iload_n rfl rfl ?_
      refine y_bipush rfl rfl ?_
      refine y_iremP rfl (by omega) (by omega) (by unfold rg; omega) (by unfold rg; omega) ?_
      refine y_iload_n rfl rfl ?_
      refine y_bipush rfl rfl ?_
      refine y_idivP rfl (by omega) (by omega) (by unfold rg; omega) (by unfold rg; omega) ?_
      refine y_iconst rfl ?_
      refine y_isub rfl ?_
      refine y_iconst rfl ?_
      refine y_callV rfl rfl rfl (t_mo_tellKind__p hH z60 ((Xi S 967 ((0 : Int).toNat)) % 100) (((Xi S 967 ((0 : Int).toNat)) / 100) - 1) 0 ⟨by omega, by omega⟩ ⟨by omega, by omega⟩ ⟨by omega, by omega⟩ ⟨by omega, by omega⟩ _) ?_
      rintro _ T3 ⟨hHT3, w70, z69, rfl, w69, o71⟩
      have hFT3 : FR md_mo_doFifteen__1f S T3 := FR.tr hF w70 rfl
      show Pl _ _ _ _ _ _ [iv z69] _ _
      have E71 : RUK S T3 z69 (rnR S (Xi S 904 71) 0) (Xi S 967 0) := ⟨fun q => absurd q (by omega), fun _ => by have t := o71; rw [f24, a33] at t; exact t⟩
      have z71 : Xi T3 904 106 = 0 := ((by assumption : FR md_mo_tellKind__p S T3).x 904 106 rfl).trans hz0
      refine y_istore rfl rfl rfl ?_
      refine y_iload rfl rfl ?_
      refine y_if_ne rfl rfl (by unfold rg; omega) (fun w71 => ?_) (fun w72 => ?_)
      · refine y_goto rfl rfl ?_
        refine y_return rfl rfl ?_
        exact ⟨hHT3, hFT3, rfl⟩
      · refine y_aload_n rfl rfl ?_
        refine y_iconst rfl ?_
        refine y_aload_n rfl rfl ?_
        refine y_gfr rfl rfl rfl rfl rfl (hHT3.r 904 67 950 rfl) ?_
        refine y_aload_n rfl rfl ?_
        refine y_gfi rfl rfl rfl rfl rfl ?_
        have w77 : (Xi T3 904 71) = (Xi S 904 71) := (show Xi T3 904 71 = Xi S 904 71 from w70.x _ _ rfl)
        rw [w77]
        refine y_ialoadP (n := 2600) rfl rfl (by unfold rg; omega) (fun w78 w79 => ?_)
        have w80 : -2147483648 ≤ (Xi T3 950 (((Xi S 904 71)).toNat)) ∧ (Xi T3 950 (((Xi S 904 71)).toNat)) ≤ 2147483647 := Xi_rgI
        have w81 : Xi T3 904 106 = Xi S 904 106 := (show Xi T3 904 106 = Xi S 904 106 from w70.x _ _ rfl)
        have w84 : Xi T3 904 71 = Xi S 904 71 := (show Xi T3 904 71 = Xi S 904 71 from w70.x _ _ rfl)
        refine y_callV rfl rfl rfl (t_mo_wrong__p hHT3 5 (Xi T3 950 (((Xi S 904 71)).toNat)) ⟨by omega, by omega⟩ ⟨by omega, by omega⟩ _) ?_
        rintro _ T4 ⟨hHT4, w87, rfl, w92n_, w85⟩
        have hFT4 : FR md_mo_doFifteen__1f S T4 := FR.tr hFT3 w87 rfl
        show Pl _ _ _ _ _ _ [] _ _
        have K92 : True := trivial
        have Y92 : NTB (NT3 T4) 5 (pR S (Xi S 904 71)) := by have t := w92n_ (by first | exact z52 | exact z71); rw [(hFT3.cx 908 rfl _).1, (hFT3.cx 950 rfl _).1] at t; exact t
        refine y_goto rfl rfl ?_
        refine y_return rfl rfl ?_
        exact ⟨hHT4, hFT4, rfl⟩
    · refine y_aload_n rfl rfl ?_
      refine y_aload_n rfl rfl ?_
      refine y_gfr rfl rfl rfl rfl rfl (hH.r 904 29 926 rfl) ?_
      refine y_bipush rfl rfl ?_
      refine y_iload_n rfl rfl ?_
      refine y_imul rfl ?_
      refine y_iload_n rfl rfl ?_
      refine y_iconst rfl ?_
      refine y_callV rfl rfl rfl (t_mo_tellIs__q hH (24 * z60) (Xi S 967 ((0 : Int).toNat)) 1 ⟨by omega, by omega⟩ ⟨by omega, by omega⟩ ⟨by omega, by omega⟩ (by have t := hct.o (Xi S 967 0).toNat; rw [show ((0 : Int).toNat) = 0 from rfl]; omega) _) ?_
      rintro _ T5 ⟨hHT5, w92, z91, rfl, w91, e52_⟩
      have hFT5 : FR md_mo_doFifteen__1f S T5 := FR.tr hF w92 rfl
      show Pl _ _ _ _ _ _ [iv z91] _ _
      have E52 : RUK S T5 z91 (rnR S (Xi S 904 71) 0) (Xi S 967 0) := ⟨fun _ => by have t := e52_; rw [f24, a33] at t; exact t, fun q => absurd q (by omega)⟩
      have z52 : Xi T5 904 106 = 0 := ((by assumption : FR md_mo_tellIs__q S T5).x 904 106 rfl).trans hz0
      refine y_goto rfl rfl ?_
      refine y_istore rfl rfl rfl ?_
      refine y_iload rfl rfl ?_
      refine y_if_ne rfl rfl (by unfold rg; omega) (fun w93 => ?_) (fun w94 => ?_)
      · refine y_goto rfl rfl ?_
        refine y_return rfl rfl ?_
        exact ⟨hHT5, hFT5, rfl⟩
      · refine y_aload_n rfl rfl ?_
        refine y_iconst rfl ?_
        refine y_aload_n rfl rfl ?_
        refine y_gfr rfl rfl rfl rfl rfl (hHT5.r 904 67 950 rfl) ?_
        refine y_aload_n rfl rfl ?_
        refine y_gfi rfl rfl rfl rfl rfl ?_
        have w99 : (Xi T5 904 71) = (Xi S 904 71) := (show Xi T5 904 71 = Xi S 904 71 from w92.x _ _ rfl)
        rw [w99]
        refine y_ialoadP (n := 2600) rfl rfl (by unfold rg; omega) (fun w100 w101 => ?_)
        have w102 : -2147483648 ≤ (Xi T5 950 (((Xi S 904 71)).toNat)) ∧ (Xi T5 950 (((Xi S 904 71)).toNat)) ≤ 2147483647 := Xi_rgI
        have w103 : Xi T5 904 106 = Xi S 904 106 := (show Xi T5 904 106 = Xi S 904 106 from w92.x _ _ rfl)
        have w106 : Xi T5 904 71 = Xi S 904 71 := (show Xi T5 904 71 = Xi S 904 71 from w92.x _ _ rfl)
        refine y_callV rfl rfl rfl (t_mo_wrong__p hHT5 5 (Xi T5 950 (((Xi S 904 71)).toNat)) ⟨by omega, by omega⟩ ⟨by omega, by omega⟩ _) ?_
        rintro _ T6 ⟨hHT6, w109, rfl, w92n_, w107⟩
        have hFT6 : FR md_mo_doFifteen__1f S T6 := FR.tr hFT5 w109 rfl
        show Pl _ _ _ _ _ _ [] _ _
        have K92 : True := trivial
        have Y92 : NTB (NT3 T6) 5 (pR S (Xi S 904 71)) := by have t := w92n_ (by first | exact z52 | exact z71); rw [(hFT5.cx 908 rfl _).1, (hFT5.cx 950 rfl _).1] at t; exact t
        refine y_goto rfl rfl ?_
        refine y_return rfl rfl ?_
        exact ⟨hHT6, hFT6, rfl⟩
def md_mo_doFifteen__2f : List rec := [(904, 905, 15, 16), (904, 905, 30, 31), (912, 913, 0, 100000), (913, 914, 0, 100000), (914, 915, 0, 100000), (915, 916, 0, 100000), (916, 917, 0, 100000), (927, 928, 0, 100000)]
abbrev Q_mo_doFifteen__2f (S : sS) : pst := fun r S1 => RI S1 ∧ FR md_mo_doFifteen__2f S S1 ∧ (r = none)
set_option maxRecDepth 100000 in
theorem t_mo_doFifteen__2f {S : sS} (hH : RI S) (hLS : LSP S) (h15 : 0 ≤ Xi S 904 15) (hRB : RBD S) (hLX : LXR S) (hh : Xi S 904 142 = 2) (hw : 0 ≤ Xi S 904 78 ∧ Xi S 904 78 ≤ Xi S 904 69 ∧ Xi S 904 69 ≤ 2600) (hv : 0 ≤ Xi S 904 30 ∧ Xi S 904 30 + (Xi S 904 69 - Xi S 904 78) ≤ 64) (d : Nat) : Mp lay0 (d + 7) m_mo_doFifteen [.ref 904] S (Q_mo_doFifteen__2f S) := by
  refine Mp_R rfl rfl (fun fu => ?_)
  have hF : FR md_mo_doFifteen__2f S S := FR.rf
  have w1 : -2147483648 ≤ Xi S 904 142 ∧ Xi S 904 142 ≤ 2147483647 := Xi_rgI
  have w2 : -2147483648 ≤ Xi S 904 15 ∧ Xi S 904 15 ≤ 2147483647 := Xi_rgI
  have w3 : -2147483648 ≤ Xi S 904 30 ∧ Xi S 904 30 ≤ 2147483647 := Xi_rgI
  have w4 : -2147483648 ≤ Xi S 904 69 ∧ Xi S 904 69 ≤ 2147483647 := Xi_rgI
  have w5 : -2147483648 ≤ Xi S 904 71 ∧ Xi S 904 71 ≤ 2147483647 := Xi_rgI
  have w6 : -2147483648 ≤ Xi S 904 78 ∧ Xi S 904 78 ≤ 2147483647 := Xi_rgI
  have C120 : ∀ (n120 : Nat) (_ : n120 ≤ fu) (T1 : sS) (_ : RI T1) (_ : FR md_mo_doFifteen__2f S T1) (v2 : Int) (v3 : Int), (-2147483648 ≤ v2 ∧ v2 ≤ 2147483647) → (0 ≤ v3 ∧ v3 ≤ 2600) → (Xi S 904 78 ≤ v3 ∧ v3 ≤ Xi S 904 69) → (v2 = r2R S (Xi S 904 71) 2 3) → (Hid (RTC S v2 (v3 - Xi S 904 78).toNat T1)) → (Xi T1 904 69 = Xi S 904 69) → (Xi T1 904 78 = Xi S 904 78) → (Xi T1 904 142 = 2) → (Xi T1 904 30 = Xi S 904 30 + (v3 - Xi S 904 78)) → Pl n120 lay0 (d + 6) m_mo_doFifteen 120 [(0, .ref 904), (2, iv v2), (3, iv v3)] [] T1 (Q_mo_doFifteen__2f S) := by
    intro n120
    induction n120 with
    | zero => intros; exact Pl_0
    | succ n120 ih120 =>
      intro hm120 T1 hHT1 hFT1 v2 v3 w7 w8 w9 i120 T4 w10 w11 w12 w13
      have w14 : Xi T1 904 106 = Xi S 904 106 := hFT1.x _ _ rfl
      have w15 : Xi T1 904 110 = Xi S 904 110 := hFT1.x _ _ rfl
      have w16 : Xi T1 904 112 = Xi S 904 112 := hFT1.x _ _ rfl
      have w17 : Xi T1 904 113 = Xi S 904 113 := hFT1.x _ _ rfl
      have w18 : Xi T1 904 142 = Xi S 904 142 := hFT1.x _ _ rfl
      have w19 : Xi T1 904 16 = Xi S 904 16 := hFT1.x _ _ rfl
      have w20 : Xi T1 904 19 = Xi S 904 19 := hFT1.x _ _ rfl
      have w21 : Xi T1 904 23 = Xi S 904 23 := hFT1.x _ _ rfl
      have w22 : Xi T1 904 32 = Xi S 904 32 := hFT1.x _ _ rfl
      have w23 : Xi T1 904 60 = Xi S 904 60 := hFT1.x _ _ rfl
      have w24 : Xi T1 904 69 = Xi S 904 69 := hFT1.x _ _ rfl
      have w25 : Xi T1 904 70 = Xi S 904 70 := hFT1.x _ _ rfl
      have w26 : Xi T1 904 71 = Xi S 904 71 := hFT1.x _ _ rfl
      have w27 : Xi T1 904 72 = Xi S 904 72 := hFT1.x _ _ rfl
      have w28 : Xi T1 904 73 = Xi S 904 73 := hFT1.x _ _ rfl
      have w29 : Xi T1 904 74 = Xi S 904 74 := hFT1.x _ _ rfl
      have w30 : Xi T1 904 78 = Xi S 904 78 := hFT1.x _ _ rfl
      have w31 : -2147483648 ≤ Xi T1 904 142 ∧ Xi T1 904 142 ≤ 2147483647 := Xi_rgI
      have w32 : -2147483648 ≤ Xi T1 904 15 ∧ Xi T1 904 15 ≤ 2147483647 := Xi_rgI
      have w33 : -2147483648 ≤ Xi T1 904 30 ∧ Xi T1 904 30 ≤ 2147483647 := Xi_rgI
      have w34 : -2147483648 ≤ Xi T1 904 69 ∧ Xi T1 904 69 ≤ 2147483647 := Xi_rgI
      have w35 : -2147483648 ≤ Xi T1 904 71 ∧ Xi T1 904 71 ≤ 2147483647 := Xi_rgI
      have w36 : -2147483648 ≤ Xi T1 904 78 ∧ Xi T1 904 78 ≤ 2147483647 := Xi_rgI
      refine ys_iload_n rfl rfl ?_
      refine y_aload_n rfl rfl ?_
      refine y_gfi rfl rfl rfl rfl rfl ?_
      refine y_icmp_ge rfl rfl (by unfold rg; omega) (by unfold rg; omega) (fun w37 => ?_) (fun w38 => ?_)
      · refine y_goto rfl rfl ?_
        refine y_return rfl rfl ?_
        exact ⟨hHT1, hFT1, rfl⟩
      · refine y_aload_n rfl rfl ?_
        refine y_gfr rfl rfl rfl rfl rfl (hHT1.r 904 31 927 rfl) ?_
        refine y_aload_n rfl rfl ?_
        refine y_gfi rfl rfl rfl rfl rfl ?_
        refine y_iload_n rfl rfl ?_
        refine y_iastoreP (n := 64) rfl rfl (by unfold rg; omega) (fun w39 w40 => ?_)
        obtain ⟨U2, eU2⟩ : ∃ T : sS, T = uI T1 927 (((Xi T1 904 30)).toNat) (Int32.ofInt v2) := ⟨_, rfl⟩
        rw [← eU2]
        have hHU2 : RI U2 := by rw [eU2]; exact RI_w hHT1
        have hFU2 : FR md_mo_doFifteen__2f S U2 := by rw [eU2]; exact FR.wI hFT1 (mdf_i (r := (927, 928, 0, 100000)) (List.mem_of_getElem? (i := 7) rfl) (inR_i (by omega) (by omega) (by omega) (by omega)))
        have w41 : Xi U2 927 (((Xi T1 904 30)).toNat) = v2 := by rw [eU2]; exact Xi_same (by unfold rg; omega)
        have ee137 := eU2
        refine y_aload_n rfl rfl ?_
        refine y_bipush rfl rfl ?_
        refine y_aload_n rfl rfl ?_
        refine y_gfi rfl rfl rfl rfl rfl ?_
        have w42 : (Xi U2 904 30) = (Xi T1 904 30) := (show Xi U2 904 30 = Xi T1 904 30 from by rw [eU2]; exact Xi_ne (by omega))
        rw [w42]
        refine y_iload_n rfl rfl ?_
        have w45 : Xi U2 904 30 = Xi T1 904 30 := (show Xi U2 904 30 = Xi T1 904 30 from by rw [eU2]; exact Xi_ne (by omega))
        refine y_callV rfl rfl rfl (t_mo_tellRun__p hHU2 6 (Xi T1 904 30) v3 ⟨by omega, by omega⟩ ⟨by omega, by omega⟩ ⟨by omega, by omega⟩ (by first | assumption | exact (RBD_FR hFU2 rfl (by assumption : RBD S))) _) ?_
        rintro _ T3 ⟨hHT3, w50, rfl, e146⟩
        have hFT3 : FR md_mo_doFifteen__2f S T3 := FR.tr hFU2 w50 rfl
        show Pl _ _ _ _ _ _ [] _ _
        have F146 := (by assumption : FR md_mo_tellRun__p U2 T3)
        have E146 := Hid.i e146
        clear e146
        refine y_aload_n rfl rfl ?_
        refine y_dup rfl rfl ?_
        refine y_gfi rfl rfl rfl rfl rfl ?_
        have w51 : (Xi T3 904 30) = (Xi T1 904 30) := (show Xi T3 904 30 = Xi U2 904 30 from w50.x _ _ rfl).trans ((show Xi U2 904 30 = Xi T1 904 30 from by rw [eU2]; exact Xi_ne (by omega)))
        rw [w51]
        refine y_iconst rfl ?_
        refine y_iadd rfl ?_
        refine y_pfi rfl rfl rfl rfl ?_
        obtain ⟨U4, eU4⟩ : ∃ T : sS, T = uI T3 904 30 (Int32.ofInt ((Xi T1 904 30) + 1)) := ⟨_, rfl⟩
        rw [← eU4]
        have hHU4 : RI U4 := by rw [eU4]; exact RI_w hHT3
        have hFU4 : FR md_mo_doFifteen__2f S U4 := by rw [eU4]; exact FR.wI hFT3 (mdf_i (r := (904, 905, 30, 31)) (List.mem_of_getElem? (i := 1) rfl) (inR_i (by omega) (by omega) (by omega) (by omega)))
        have w52 : Xi U4 904 30 = ((Xi T1 904 30) + 1) := by rw [eU4]; exact Xi_same (by unfold rg; omega)
        have ee156 : U4 = uI T3 904 30 (Int32.ofInt (Xi T1 904 30 + 1)) := by first | exact eU4 | (rw [eU4]; rw [show Xi T3 904 30 = Xi T1 904 30 by omega])
        refine y_iinc rfl rfl rfl rfl ?_
        refine y_goto rfl rfl ?_
        have w53 : Xi U4 904 142 = Xi T1 904 142 := (show Xi U4 904 142 = Xi T3 904 142 from by rw [eU4]; exact Xi_ne (by omega)).trans ( (show Xi T3 904 142 = Xi U2 904 142 from w50.x _ _ rfl).trans ((show Xi U2 904 142 = Xi T1 904 142 from by rw [eU2]; exact Xi_ne (by omega))))
        have w54 : Xi U4 904 15 = Xi T3 904 15 := (show Xi U4 904 15 = Xi T3 904 15 from by rw [eU4]; exact Xi_ne (by omega))
        have w55 : Xi U4 904 69 = Xi T1 904 69 := (show Xi U4 904 69 = Xi T3 904 69 from by rw [eU4]; exact Xi_ne (by omega)).trans ( (show Xi T3 904 69 = Xi U2 904 69 from w50.x _ _ rfl).trans ((show Xi U2 904 69 = Xi T1 904 69 from by rw [eU2]; exact Xi_ne (by omega))))
        have w56 : Xi U4 904 71 = Xi T1 904 71 := (show Xi U4 904 71 = Xi T3 904 71 from by rw [eU4]; exact Xi_ne (by omega)).trans ( (show Xi T3 904 71 = Xi U2 904 71 from w50.x _ _ rfl).trans ((show Xi U2 904 71 = Xi T1 904 71 from by rw [eU2]; exact Xi_ne (by omega))))
        have w57 : Xi U4 904 78 = Xi T1 904 78 := (show Xi U4 904 78 = Xi T3 904 78 from by rw [eU4]; exact Xi_ne (by omega)).trans ( (show Xi T3 904 78 = Xi U2 904 78 from w50.x _ _ rfl).trans ((show Xi U2 904 78 = Xi T1 904 78 from by rw [eU2]; exact Xi_ne (by omega))))
        exact Pl_weak (ih120 (by omega) U4 hHU4 hFU4 (v2) ((v3 + 1)) (by omega) (by omega) (by omega) (by first | exact i120 | exact f111) (by first | (rw [show (v3 + 1 - Xi S 904 78).toNat = (v3 - Xi S 904 78).toNat + 1 by omega]; exact ⟨_, T4.o, _, _, ee137, F146, (by have t := E146.o; rw [show Xi S 904 78 + (((v3 - Xi S 904 78).toNat : Nat) : Int) = v3 by omega]; exact t), ee156⟩) | (rw [show (Xi S 904 78 - Xi S 904 78).toNat = 0 by omega]; rfl)) (by omega) (by omega) (by omega) (by omega)) (by omega) (And.intro rfl (And.intro rfl (And.intro rfl (True.intro))))
  have C190 : ∀ (n190 : Nat) (_ : n190 ≤ fu) (T5 : sS) (_ : RI T5) (_ : FR md_mo_doFifteen__2f S T5) (v1 : Int) (v2 : Int), (-2147483648 ≤ v1 ∧ v1 ≤ 2147483647) → (-2147483648 ≤ v2 ∧ v2 ≤ 2147483647) → ((1 : Int) = 0) → Pl n190 lay0 (d + 6) m_mo_doFifteen 190 [(0, .ref 904), (1, iv v1), (2, iv v2)] [] T5 (Q_mo_doFifteen__2f S) := by
    intro n190
    induction n190 with
    | zero => intros; exact Pl_0
    | succ n190 ih190 =>
      intro hm190 T5 hHT5 hFT5 v1 v2 w58 w59 w60
      have w61 : Xi T5 904 106 = Xi S 904 106 := hFT5.x _ _ rfl
      have w62 : Xi T5 904 110 = Xi S 904 110 := hFT5.x _ _ rfl
      have w63 : Xi T5 904 112 = Xi S 904 112 := hFT5.x _ _ rfl
      have w64 : Xi T5 904 113 = Xi S 904 113 := hFT5.x _ _ rfl
      have w65 : Xi T5 904 142 = Xi S 904 142 := hFT5.x _ _ rfl
      have w66 : Xi T5 904 16 = Xi S 904 16 := hFT5.x _ _ rfl
      have w67 : Xi T5 904 19 = Xi S 904 19 := hFT5.x _ _ rfl
      have w68 : Xi T5 904 23 = Xi S 904 23 := hFT5.x _ _ rfl
      have w69 : Xi T5 904 32 = Xi S 904 32 := hFT5.x _ _ rfl
      have w70 : Xi T5 904 60 = Xi S 904 60 := hFT5.x _ _ rfl
      have w71 : Xi T5 904 69 = Xi S 904 69 := hFT5.x _ _ rfl
      have w72 : Xi T5 904 70 = Xi S 904 70 := hFT5.x _ _ rfl
      have w73 : Xi T5 904 71 = Xi S 904 71 := hFT5.x _ _ rfl
      have w74 : Xi T5 904 72 = Xi S 904 72 := hFT5.x _ _ rfl
      have w75 : Xi T5 904 73 = Xi S 904 73 := hFT5.x _ _ rfl
      have w76 : Xi T5 904 74 = Xi S 904 74 := hFT5.x _ _ rfl
      have w77 : Xi T5 904 78 = Xi S 904 78 := hFT5.x _ _ rfl
      have w78 : -2147483648 ≤ Xi T5 904 142 ∧ Xi T5 904 142 ≤ 2147483647 := Xi_rgI
      have w79 : -2147483648 ≤ Xi T5 904 15 ∧ Xi T5 904 15 ≤ 2147483647 := Xi_rgI
      have w80 : -2147483648 ≤ Xi T5 904 30 ∧ Xi T5 904 30 ≤ 2147483647 := Xi_rgI
      have w81 : -2147483648 ≤ Xi T5 904 69 ∧ Xi T5 904 69 ≤ 2147483647 := Xi_rgI
      have w82 : -2147483648 ≤ Xi T5 904 71 ∧ Xi T5 904 71 ≤ 2147483647 := Xi_rgI
      have w83 : -2147483648 ≤ Xi T5 904 78 ∧ Xi T5 904 78 ≤ 2147483647 := Xi_rgI
      exfalso; omega
  refine y_aload_n rfl rfl ?_
  refine y_gfr rfl rfl rfl rfl rfl (hH.r 904 67 950 rfl) ?_
  refine y_aload_n rfl rfl ?_
  refine y_gfi rfl rfl rfl rfl rfl ?_
  refine y_ialoadP (n := 2600) rfl rfl (by unfold rg; omega) (fun w84 w85 => ?_)
  have w86 : -2147483648 ≤ (Xi S 950 (((Xi S 904 78)).toNat)) ∧ (Xi S 950 (((Xi S 904 78)).toNat)) ≤ 2147483647 := Xi_rgI
  refine y_istore_n rfl rfl rfl ?_
  refine y_aload_n rfl rfl ?_
  refine y_gfi rfl rfl rfl rfl rfl ?_
  refine y_iconst rfl ?_
  refine y_icmp_ne rfl rfl (by unfold rg; omega) (by unfold rg; omega) (fun w87 => ?_) (fun w88 => ?_)
  · refine y_aload_n rfl rfl ?_
    refine y_gfi rfl rfl rfl rfl rfl ?_
    refine y_iconst rfl ?_
    refine y_icmp_ne rfl rfl (by unfold rg; omega) (by unfold rg; omega) (fun w89 => ?_) (fun w90 => ?_)
    · refine y_aload_n rfl rfl ?_
      refine y_gfi rfl rfl rfl rfl rfl ?_
      refine y_iconst rfl ?_
      refine y_icmp_ne rfl rfl (by unfold rg; omega) (by unfold rg; omega) (fun w91 => ?_) (fun w92 => ?_)
      · exfalso; omega
      · exfalso; omega
    · refine y_aload_n rfl rfl ?_
      refine y_aload_n rfl rfl ?_
      refine y_gfi rfl rfl rfl rfl rfl ?_
      refine y_callV rfl rfl rfl (t_mo_typeOrPlural__p hH (Xi S 904 71) ⟨by omega, by omega⟩ (by first | assumption | exact (by assumption : LSP S)) (by first | assumption | omega) (by first | assumption | exact (RBD_FR hF rfl (by assumption : RBD S))) _) ?_
      rintro _ _ ⟨rfl, z93, rfl, w93, f111⟩
      show Pl _ _ _ _ _ _ [iv z93] _ _
      refine y_istore_n rfl rfl rfl ?_
      refine y_aload_n rfl rfl ?_
      refine y_gfi rfl rfl rfl rfl rfl ?_
      refine y_istore_n rfl rfl rfl ?_
      exact Pl_weak (C120 fu (by omega) S hH hF (z93) ((Xi S 904 78)) (by omega) (by omega) (by omega) (by first | exact i120 | exact f111) (by first | (rw [show (v3 + 1 - Xi S 904 78).toNat = (v3 - Xi S 904 78).toNat + 1 by omega]; exact ⟨_, T4.o, _, _, ee137, F146, (by have t := E146.o; rw [show Xi S 904 78 + (((v3 - Xi S 904 78).toNat : Nat) : Int) = v3 by omega]; exact t), ee156⟩) | (rw [show (Xi S 904 78 - Xi S 904 78).toNat = 0 by omega]; rfl)) (by omega) (by omega) (by omega) (by omega)) (by omega) (And.intro rfl (And.intro rfl (And.intro rfl (True.intro))))
  · exfalso; omega
def md_mo_doFifteen__3f : List rec := [(904, 905, 15, 16), (904, 905, 19, 20), (904, 905, 60, 61), (904, 905, 73, 74), (904, 905, 105, 106), (904, 905, 106, 107), (912, 913, 0, 100000), (913, 914, 0, 100000), (914, 915, 0, 100000), (915, 916, 0, 100000), (916, 917, 0, 100000), (918, 919, 0, 100000), (919, 920, 0, 100000), (920, 921, 0, 100000), (925, 926, 0, 100000), (926, 927, 0, 100000), (930, 931, 0, 100000), (931, 932, 0, 100000), (932, 933, 0, 100000)]
abbrev Q_mo_doFifteen__3f (S : sS) : pst := fun r S1 => RI S1 ∧ FR md_mo_doFifteen__3f S S1 ∧ (r = none)
set_option maxRecDepth 100000 in
theorem t_mo_doFifteen__3f {S : sS} (hH : RI S) (hLS : LSP S) (h15 : 0 ≤ Xi S 904 15) (hRB : RBD S) (hLX : LXR S) (hB : ABV S) (hl : 0 ≤ Xi S 904 71 ∧ Xi S 904 71 ≤ 2600 ∧ 0 ≤ Xi S 904 72 ∧ Xi S 904 72 ≤ 2600) (hkb : Hid (KB3 S)) (ho4 : Hid (OB4 S)) (hct : Hid (∀ j : Nat, -1 ≤ Xi S 922 j ∧ Xi S 922 j ≤ 23)) (hz0 : Xi S 904 106 = 0) (ha : 0 ≤ Xi S 904 19 ∧ Xi S 904 19 ≤ 24) (hr74 : -1 ≤ Xi S 904 74 ∧ Xi S 904 74 ≤ 2600) (hlq : Hid (LOQ S (Xi S 904 71) (Xi S 904 72).toNat)) (h110 : -1 ≤ Xi S 904 110 ∧ Xi S 904 110 ≤ 15) (h112 : 0 ≤ Xi S 904 112 ∧ Xi S 904 112 ≤ 6) (hra : Hid (Xi S 904 70 ≠ 13 → ∀ i : Nat, (i : Int) < Xi S 904 112 → 0 ≤ Xi S 967 i ∧ Xi S 967 i ≤ 7000)) (hh : Xi S 904 142 = 3) (d : Nat) : Mp lay0 (d + 7) m_mo_doFifteen [.ref 904] S (Q_mo_doFifteen__3f S) := by
  refine Mp_R rfl rfl (fun fu => ?_)
  have hF : FR md_mo_doFifteen__3f S S := FR.rf
  have w1 : -2147483648 ≤ Xi S 904 106 ∧ Xi S 904 106 ≤ 2147483647 := Xi_rgI
  have w2 : -2147483648 ≤ Xi S 904 110 ∧ Xi S 904 110 ≤ 2147483647 := Xi_rgI
  have w3 : -2147483648 ≤ Xi S 904 112 ∧ Xi S 904 112 ≤ 2147483647 := Xi_rgI
  have w4 : -2147483648 ≤ Xi S 904 142 ∧ Xi S 904 142 ≤ 2147483647 := Xi_rgI
  have w5 : -2147483648 ≤ Xi S 904 15 ∧ Xi S 904 15 ≤ 2147483647 := Xi_rgI
  have w6 : -2147483648 ≤ Xi S 904 19 ∧ Xi S 904 19 ≤ 2147483647 := Xi_rgI
  have w7 : -2147483648 ≤ Xi S 904 70 ∧ Xi S 904 70 ≤ 2147483647 := Xi_rgI
  have w8 : -2147483648 ≤ Xi S 904 71 ∧ Xi S 904 71 ≤ 2147483647 := Xi_rgI
  have w9 : -2147483648 ≤ Xi S 904 72 ∧ Xi S 904 72 ≤ 2147483647 := Xi_rgI
  have w10 : -2147483648 ≤ Xi S 904 73 ∧ Xi S 904 73 ≤ 2147483647 := Xi_rgI
  have w11 : -2147483648 ≤ Xi S 904 74 ∧ Xi S 904 74 ≤ 2147483647 := Xi_rgI
  have C120 : ∀ (n120 : Nat) (_ : n120 ≤ fu) (T1 : sS) (_ : RI T1) (_ : FR md_mo_doFifteen__3f S T1) (v2 : Int) (v3 : Int), (-2147483648 ≤ v2 ∧ v2 ≤ 2147483647) → (-2147483648 ≤ v3 ∧ v3 ≤ 2147483647) → ((1 : Int) = 0) → Pl n120 lay0 (d + 6) m_mo_doFifteen 120 [(0, .ref 904), (2, iv v2), (3, iv v3)] [] T1 (Q_mo_doFifteen__3f S) := by
    intro n120
    induction n120 with
    | zero => intros; exact Pl_0
    | succ n120 ih120 =>
      intro hm120 T1 hHT1 hFT1 v2 v3 w12 w13 w14
      have w15 : Xi T1 904 110 = Xi S 904 110 := hFT1.x _ _ rfl
      have w16 : Xi T1 904 112 = Xi S 904 112 := hFT1.x _ _ rfl
      have w17 : Xi T1 904 113 = Xi S 904 113 := hFT1.x _ _ rfl
      have w18 : Xi T1 904 142 = Xi S 904 142 := hFT1.x _ _ rfl
      have w19 : Xi T1 904 16 = Xi S 904 16 := hFT1.x _ _ rfl
      have w20 : Xi T1 904 23 = Xi S 904 23 := hFT1.x _ _ rfl
      have w21 : Xi T1 904 32 = Xi S 904 32 := hFT1.x _ _ rfl
      have w22 : Xi T1 904 69 = Xi S 904 69 := hFT1.x _ _ rfl
      have w23 : Xi T1 904 70 = Xi S 904 70 := hFT1.x _ _ rfl
      have w24 : Xi T1 904 71 = Xi S 904 71 := hFT1.x _ _ rfl
      have w25 : Xi T1 904 72 = Xi S 904 72 := hFT1.x _ _ rfl
      have w26 : Xi T1 904 74 = Xi S 904 74 := hFT1.x _ _ rfl
      have w27 : -2147483648 ≤ Xi T1 904 106 ∧ Xi T1 904 106 ≤ 2147483647 := Xi_rgI
      have w28 : -2147483648 ≤ Xi T1 904 110 ∧ Xi T1 904 110 ≤ 2147483647 := Xi_rgI
      have w29 : -2147483648 ≤ Xi T1 904 112 ∧ Xi T1 904 112 ≤ 2147483647 := Xi_rgI
      have w30 : -2147483648 ≤ Xi T1 904 142 ∧ Xi T1 904 142 ≤ 2147483647 := Xi_rgI
      have w31 : -2147483648 ≤ Xi T1 904 15 ∧ Xi T1 904 15 ≤ 2147483647 := Xi_rgI
      have w32 : -2147483648 ≤ Xi T1 904 19 ∧ Xi T1 904 19 ≤ 2147483647 := Xi_rgI
      have w33 : -2147483648 ≤ Xi T1 904 70 ∧ Xi T1 904 70 ≤ 2147483647 := Xi_rgI
      have w34 : -2147483648 ≤ Xi T1 904 71 ∧ Xi T1 904 71 ≤ 2147483647 := Xi_rgI
      have w35 : -2147483648 ≤ Xi T1 904 72 ∧ Xi T1 904 72 ≤ 2147483647 := Xi_rgI
      have w36 : -2147483648 ≤ Xi T1 904 73 ∧ Xi T1 904 73 ≤ 2147483647 := Xi_rgI
      have w37 : -2147483648 ≤ Xi T1 904 74 ∧ Xi T1 904 74 ≤ 2147483647 := Xi_rgI
      exfalso; omega
  have C190 : ∀ (n190 : Nat) (_ : n190 ≤ fu) (T2 : sS) (_ : RI T2) (_ : FR md_mo_doFifteen__3f S T2) (v1 : Int) (v2 : Int), (-2147483648 ≤ v1 ∧ v1 ≤ 2147483647) → (-2147483648 ≤ v2 ∧ v2 ≤ 2147483647) → ((1 : Int) = 0) → Pl n190 lay0 (d + 6) m_mo_doFifteen 190 [(0, .ref 904), (1, iv v1), (2, iv v2)] [] T2 (Q_mo_doFifteen__3f S) := by
    intro n190
    induction n190 with
    | zero => intros; exact Pl_0
    | succ n190 ih190 =>
      intro hm190 T2 hHT2 hFT2 v1 v2 w38 w39 w40
      have w41 : Xi T2 904 110 = Xi S 904 110 := hFT2.x _ _ rfl
      have w42 : Xi T2 904 112 = Xi S 904 112 := hFT2.x _ _ rfl
      have w43 : Xi T2 904 113 = Xi S 904 113 := hFT2.x _ _ rfl
      have w44 : Xi T2 904 142 = Xi S 904 142 := hFT2.x _ _ rfl
      have w45 : Xi T2 904 16 = Xi S 904 16 := hFT2.x _ _ rfl
      have w46 : Xi T2 904 23 = Xi S 904 23 := hFT2.x _ _ rfl
      have w47 : Xi T2 904 32 = Xi S 904 32 := hFT2.x _ _ rfl
      have w48 : Xi T2 904 69 = Xi S 904 69 := hFT2.x _ _ rfl
      have w49 : Xi T2 904 70 = Xi S 904 70 := hFT2.x _ _ rfl
      have w50 : Xi T2 904 71 = Xi S 904 71 := hFT2.x _ _ rfl
      have w51 : Xi T2 904 72 = Xi S 904 72 := hFT2.x _ _ rfl
      have w52 : Xi T2 904 74 = Xi S 904 74 := hFT2.x _ _ rfl
      have w53 : -2147483648 ≤ Xi T2 904 106 ∧ Xi T2 904 106 ≤ 2147483647 := Xi_rgI
      have w54 : -2147483648 ≤ Xi T2 904 110 ∧ Xi T2 904 110 ≤ 2147483647 := Xi_rgI
      have w55 : -2147483648 ≤ Xi T2 904 112 ∧ Xi T2 904 112 ≤ 2147483647 := Xi_rgI
      have w56 : -2147483648 ≤ Xi T2 904 142 ∧ Xi T2 904 142 ≤ 2147483647 := Xi_rgI
      have w57 : -2147483648 ≤ Xi T2 904 15 ∧ Xi T2 904 15 ≤ 2147483647 := Xi_rgI
      have w58 : -2147483648 ≤ Xi T2 904 19 ∧ Xi T2 904 19 ≤ 2147483647 := Xi_rgI
      have w59 : -2147483648 ≤ Xi T2 904 70 ∧ Xi T2 904 70 ≤ 2147483647 := Xi_rgI
      have w60 : -2147483648 ≤ Xi T2 904 71 ∧ Xi T2 904 71 ≤ 2147483647 := Xi_rgI
      have w61 : -2147483648 ≤ Xi T2 904 72 ∧ Xi T2 904 72 ≤ 2147483647 := Xi_rgI
      have w62 : -2147483648 ≤ Xi T2 904 73 ∧ Xi T2 904 73 ≤ 2147483647 := Xi_rgI
      have w63 : -2147483648 ≤ Xi T2 904 74 ∧ Xi T2 904 74 ≤ 2147483647 := Xi_rgI
      exfalso; omega
  refine y_aload_n rfl rfl ?_
  refine y_gfr rfl rfl rfl rfl rfl (hH.r 904 67 950 rfl) ?_
  refine y_aload_n rfl rfl ?_
  refine y_gfi rfl rfl rfl rfl rfl ?_
  have w64 : -2147483648 ≤ (Xi S 904 78) ∧ (Xi S 904 78) ≤ 2147483647 := Xi_rgI
  refine y_ialoadP (n := 2600) rfl rfl (by unfold rg; omega) (fun w65 w66 => ?_)
  have w67 : -2147483648 ≤ (Xi S 950 (((Xi S 904 78)).toNat)) ∧ (Xi S 950 (((Xi S 904 78)).toNat)) ≤ 2147483647 := Xi_rgI
  refine y_istore_n rfl rfl rfl ?_
  refine y_aload_n rfl rfl ?_
  refine y_gfi rfl rfl rfl rfl rfl ?_
  refine y_iconst rfl ?_
  refine y_icmp_ne rfl rfl (by unfold rg; omega) (by unfold rg; omega) (fun w68 => ?_) (fun w69 => ?_)
  · refine y_aload_n rfl rfl ?_
    refine y_gfi rfl rfl rfl rfl rfl ?_
    refine y_iconst rfl ?_
    refine y_icmp_ne rfl rfl (by unfold rg; omega) (by unfold rg; omega) (fun w70 => ?_) (fun w71 => ?_)
    · refine y_aload_n rfl rfl ?_
      refine y_gfi rfl rfl rfl rfl rfl ?_
      refine y_iconst rfl ?_
      refine y_icmp_ne rfl rfl (by unfold rg; omega) (by unfold rg; omega) (fun w72 => ?_) (fun w73 => ?_)
      · exfalso; omega
      · refine y_aload_n rfl rfl ?_
        refine y_iconst rfl ?_
        refine y_pfi rfl rfl rfl rfl ?_
        obtain ⟨U3, eU3⟩ : ∃ T : sS, T = uI S 904 73 (Int32.ofInt 0) := ⟨_, rfl⟩
        rw [← eU3]
        have hHU3 : RI U3 := by rw [eU3]; exact RI_w hH
        have hFU3 : FR md_mo_doFifteen__3f S U3 := by rw [eU3]; exact FR.wI hF (mdf_i (r := (904, 905, 73, 74)) (List.mem_of_getElem? (i := 3) rfl) (inR_i (by omega) (by omega) (by omega) (by omega)))
        have w74 : Xi U3 904 73 = 0 := by rw [eU3]; exact Xi_same (by unfold rg; omega)
        have ee178 := eU3
        have k178 : Hid (SMR S U3) := SMR_w SMR.rf eU3 (by omega) (by omega)
        refine y_aload_n rfl rfl ?_
        have w75 : Xi U3 904 106 = Xi S 904 106 := (show Xi U3 904 106 = Xi S 904 106 from by rw [eU3]; exact Xi_ne (by omega))
        have w76 : Xi U3 904 110 = Xi S 904 110 := (show Xi U3 904 110 = Xi S 904 110 from by rw [eU3]; exact Xi_ne (by omega))
        have w77 : Xi U3 904 112 = Xi S 904 112 := (show Xi U3 904 112 = Xi S 904 112 from by rw [eU3]; exact Xi_ne (by omega))
        have w78 : Xi U3 904 142 = Xi S 904 142 := (show Xi U3 904 142 = Xi S 904 142 from by rw [eU3]; exact Xi_ne (by omega))
        have w79 : Xi U3 904 15 = Xi S 904 15 := (show Xi U3 904 15 = Xi S 904 15 from by rw [eU3]; exact Xi_ne (by omega))
        have w80 : Xi U3 904 19 = Xi S 904 19 := (show Xi U3 904 19 = Xi S 904 19 from by rw [eU3]; exact Xi_ne (by omega))
        have w81 : Xi U3 904 70 = Xi S 904 70 := (show Xi U3 904 70 = Xi S 904 70 from by rw [eU3]; exact Xi_ne (by omega))
        have w82 : Xi U3 904 71 = Xi S 904 71 := (show Xi U3 904 71 = Xi S 904 71 from by rw [eU3]; exact Xi_ne (by omega))
        have w83 : Xi U3 904 72 = Xi S 904 72 := (show Xi U3 904 72 = Xi S 904 72 from by rw [eU3]; exact Xi_ne (by omega))
        have w84 : Xi U3 904 74 = Xi S 904 74 := (show Xi U3 904 74 = Xi S 904 74 from by rw [eU3]; exact Xi_ne (by omega))
        refine y_callV rfl rfl rfl (t_mo_doDescribed__p hHU3 (by first | assumption | exact (LSP_FR (FR_e eU3) rfl rfl (by assumption : LSP S))) (by first | assumption | omega) (by first | assumption | exact (RBD_FR hFU3 rfl (by assumption : RBD S))) (by first | assumption | exact (LXR_FR (FR_e eU3) rfl rfl (by assumption : LXR S))) (by first | assumption | exact (ABV_FR hFU3 rfl (by assumption : ABV S))) (by first | assumption | omega) ((dd_w ee178).2.1 hkb.o) ((dd_w ee178).2.2.1 ho4.o) (fun j => by rw [ee178, Xi_ne (by omega)]; exact hct.o j) (by first | assumption | omega) (by first | assumption | omega) (by first | assumption | omega) (by rw [show Xi U3 904 71 = Xi S 904 71 by omega, show Xi U3 904 72 = Xi S 904 72 by omega]; exact (dd_w ee178).2.2.2 _ _ hlq.o) (by first | assumption | omega) (by first | assumption | omega) (fun s i hi => by rw [ee178, Xi_ne (by omega)]; exact hra.o (fun w => s (by rw [ee178, Xi_ne (by omega)]; exact w)) i (by omega)) _) ?_
        rintro _ T4 ⟨hHT4, w86, rfl, o182⟩
        have hFT4 : FR md_mo_doFifteen__3f S T4 := FR.tr hFU3 w86 rfl
        show Pl _ _ _ _ _ _ [] _ _
        have R182 : RDB (uI S 904 73 (Int32.ofInt 0)) T4 := by rw [← ee178]; exact o182
        refine y_goto rfl rfl ?_
        refine y_return rfl rfl ?_
        exact ⟨hHT4, hFT4, rfl⟩
    · exfalso; omega
  · exfalso; omega
def md_mo_doFifteen__4f : List rec := [(904, 905, 60, 61), (904, 905, 64, 65), (904, 905, 105, 106), (904, 905, 106, 107), (904, 905, 113, 114), (925, 926, 0, 100000), (926, 927, 0, 100000), (930, 931, 0, 100000), (931, 932, 0, 100000), (932, 933, 0, 100000)]
abbrev Q_mo_doFifteen__4f (S : sS) : pst := fun r S1 => RI S1 ∧ FR md_mo_doFifteen__4f S S1 ∧ (r = none)
set_option maxRecDepth 100000 in
theorem t_mo_doFifteen__4f {S : sS} (hH : RI S) (hLS : LSP S) (h15 : 0 ≤ Xi S 904 15) (hRB : RBD S) (hLX : LXR S) (hB : ABV S) (hl : 0 ≤ Xi S 904 71 ∧ Xi S 904 71 ≤ 2600 ∧ 0 ≤ Xi S 904 72 ∧ Xi S 904 72 ≤ 2600) (hkb : Hid (KB3 S)) (hct : Hid (∀ j : Nat, -1 ≤ Xi S 922 j ∧ Xi S 922 j ≤ 23)) (hp32 : 0 ≤ Xi S 904 32 ∧ Xi S 904 32 ≤ 12) (hh : Xi S 904 142 = 4) (hz0 : Xi S 904 106 = 0) (hfw : 0 ≤ Xi S 950 (Xi S 904 78).toNat ∧ Xi S 950 (Xi S 904 78).toNat ≤ 5100) (hac : Hid (∀ i : Nat, (i : Int) < Xi S 904 72 → (0 ≤ o15R S i ∧ o15R S i ≤ 23) ∧ 0 ≤ a15R S (o15R S i) ∧ a15R S (o15R S i) ≤ 7000)) (d : Nat) : Mp lay0 (d + 7) m_mo_doFifteen [.ref 904] S (Q_mo_doFifteen__4f S) := by
  refine Mp_R rfl rfl (fun fu => ?_)
  have hF : FR md_mo_doFifteen__4f S S := FR.rf
  have w1 : -2147483648 ≤ Xi S 904 106 ∧ Xi S 904 106 ≤ 2147483647 := Xi_rgI
  have w2 : -2147483648 ≤ Xi S 904 142 ∧ Xi S 904 142 ≤ 2147483647 := Xi_rgI
  have w3 : -2147483648 ≤ Xi S 904 15 ∧ Xi S 904 15 ≤ 2147483647 := Xi_rgI
  have w4 : -2147483648 ≤ Xi S 904 32 ∧ Xi S 904 32 ≤ 2147483647 := Xi_rgI
  have w5 : -2147483648 ≤ Xi S 904 71 ∧ Xi S 904 71 ≤ 2147483647 := Xi_rgI
  have w6 : -2147483648 ≤ Xi S 904 72 ∧ Xi S 904 72 ≤ 2147483647 := Xi_rgI
  have w7 : -2147483648 ≤ Xi S 904 75 ∧ Xi S 904 75 ≤ 2147483647 := Xi_rgI
  have w8 : -2147483648 ≤ Xi S 904 78 ∧ Xi S 904 78 ≤ 2147483647 := Xi_rgI
  have C120 : ∀ (n120 : Nat) (_ : n120 ≤ fu) (T1 : sS) (_ : RI T1) (_ : FR md_mo_doFifteen__4f S T1) (v2 : Int) (v3 : Int), (0 ≤ v2 ∧ v2 ≤ 2600) → (-2147483648 ≤ v3 ∧ v3 ≤ 2147483647) → ((1 : Int) = 0) → Pl n120 lay0 (d + 6) m_mo_doFifteen 120 [(0, .ref 904), (2, iv v2), (3, iv v3)] [] T1 (Q_mo_doFifteen__4f S) := by
    intro n120
    induction n120 with
    | zero => intros; exact Pl_0
    | succ n120 ih120 =>
      intro hm120 T1 hHT1 hFT1 v2 v3 w9 w10 w11
      have w12 : Xi T1 904 110 = Xi S 904 110 := hFT1.x _ _ rfl
      have w13 : Xi T1 904 112 = Xi S 904 112 := hFT1.x _ _ rfl
      have w14 : Xi T1 904 142 = Xi S 904 142 := hFT1.x _ _ rfl
      have w15 : Xi T1 904 15 = Xi S 904 15 := hFT1.x _ _ rfl
      have w16 : Xi T1 904 16 = Xi S 904 16 := hFT1.x _ _ rfl
      have w17 : Xi T1 904 19 = Xi S 904 19 := hFT1.x _ _ rfl
      have w18 : Xi T1 904 23 = Xi S 904 23 := hFT1.x _ _ rfl
      have w19 : Xi T1 904 32 = Xi S 904 32 := hFT1.x _ _ rfl
      have w20 : Xi T1 904 69 = Xi S 904 69 := hFT1.x _ _ rfl
      have w21 : Xi T1 904 70 = Xi S 904 70 := hFT1.x _ _ rfl
      have w22 : Xi T1 904 71 = Xi S 904 71 := hFT1.x _ _ rfl
      have w23 : Xi T1 904 72 = Xi S 904 72 := hFT1.x _ _ rfl
      have w24 : Xi T1 904 73 = Xi S 904 73 := hFT1.x _ _ rfl
      have w25 : Xi T1 904 74 = Xi S 904 74 := hFT1.x _ _ rfl
      have w26 : Xi T1 904 75 = Xi S 904 75 := hFT1.x _ _ rfl
      have w27 : Xi T1 904 78 = Xi S 904 78 := hFT1.x _ _ rfl
      have w28 : -2147483648 ≤ Xi T1 904 106 ∧ Xi T1 904 106 ≤ 2147483647 := Xi_rgI
      have w29 : -2147483648 ≤ Xi T1 904 142 ∧ Xi T1 904 142 ≤ 2147483647 := Xi_rgI
      have w30 : -2147483648 ≤ Xi T1 904 15 ∧ Xi T1 904 15 ≤ 2147483647 := Xi_rgI
      have w31 : -2147483648 ≤ Xi T1 904 32 ∧ Xi T1 904 32 ≤ 2147483647 := Xi_rgI
      have w32 : -2147483648 ≤ Xi T1 904 71 ∧ Xi T1 904 71 ≤ 2147483647 := Xi_rgI
      have w33 : -2147483648 ≤ Xi T1 904 72 ∧ Xi T1 904 72 ≤ 2147483647 := Xi_rgI
      have w34 : -2147483648 ≤ Xi T1 904 75 ∧ Xi T1 904 75 ≤ 2147483647 := Xi_rgI
      have w35 : -2147483648 ≤ Xi T1 904 78 ∧ Xi T1 904 78 ≤ 2147483647 := Xi_rgI
      exfalso; omega
  have C190 : ∀ (n190 : Nat) (_ : n190 ≤ fu) (T2 : sS) (_ : RI T2) (_ : FR md_mo_doFifteen__4f S T2) (v1 : Int) (v2 : Int), (-2147483648 ≤ v1 ∧ v1 ≤ 2147483600) → (0 ≤ v2 ∧ v2 ≤ 2600) → (0 ≤ v2 ∧ v2 ≤ Xi S 904 72) → (v1 = fW S) → (Hid (Xi T2 904 106 = 0 → RVC S (v2).toNat T2)) → (Hid (Xi T2 904 106 ≠ 0 → RVF S T2)) → (Hid (AMR S T2)) → (Hid (∀ j, Xi T2 918 j = Xi S 918 j)) → (LSP T2) → (LXR T2) → (Xi T2 904 15 = Xi S 904 15) → (Xi T2 904 71 = Xi S 904 71) → (Xi T2 904 72 = Xi S 904 72) → (Xi T2 904 75 = Xi S 904 75) → (Xi T2 904 78 = Xi S 904 78) → (Xi T2 904 32 = Xi S 904 32) → (Xi T2 904 142 = Xi S 904 142) → Pl n190 lay0 (d + 6) m_mo_doFifteen 190 [(0, .ref 904), (1, iv v1), (2, iv v2)] [] T2 (Q_mo_doFifteen__4f S) := by
    intro n190
    induction n190 with
    | zero => intros; exact Pl_0
    | succ n190 ih190 =>
      intro hm190 T2 hHT2 hFT2 v1 v2 w36 w37 w38 i190 D4 G4 M4 K4 hLS4 hLX4 w39 w40 w41 w42 w43 w44 w45
      have w46 : Xi T2 904 110 = Xi S 904 110 := hFT2.x _ _ rfl
      have w47 : Xi T2 904 112 = Xi S 904 112 := hFT2.x _ _ rfl
      have w48 : Xi T2 904 142 = Xi S 904 142 := hFT2.x _ _ rfl
      have w49 : Xi T2 904 15 = Xi S 904 15 := hFT2.x _ _ rfl
      have w50 : Xi T2 904 16 = Xi S 904 16 := hFT2.x _ _ rfl
      have w51 : Xi T2 904 19 = Xi S 904 19 := hFT2.x _ _ rfl
      have w52 : Xi T2 904 23 = Xi S 904 23 := hFT2.x _ _ rfl
      have w53 : Xi T2 904 32 = Xi S 904 32 := hFT2.x _ _ rfl
      have w54 : Xi T2 904 69 = Xi S 904 69 := hFT2.x _ _ rfl
      have w55 : Xi T2 904 70 = Xi S 904 70 := hFT2.x _ _ rfl
      have w56 : Xi T2 904 71 = Xi S 904 71 := hFT2.x _ _ rfl
      have w57 : Xi T2 904 72 = Xi S 904 72 := hFT2.x _ _ rfl
      have w58 : Xi T2 904 73 = Xi S 904 73 := hFT2.x _ _ rfl
      have w59 : Xi T2 904 74 = Xi S 904 74 := hFT2.x _ _ rfl
      have w60 : Xi T2 904 75 = Xi S 904 75 := hFT2.x _ _ rfl
      have w61 : Xi T2 904 78 = Xi S 904 78 := hFT2.x _ _ rfl
      have w62 : -2147483648 ≤ Xi T2 904 106 ∧ Xi T2 904 106 ≤ 2147483647 := Xi_rgI
      have w63 : -2147483648 ≤ Xi T2 904 142 ∧ Xi T2 904 142 ≤ 2147483647 := Xi_rgI
      have w64 : -2147483648 ≤ Xi T2 904 15 ∧ Xi T2 904 15 ≤ 2147483647 := Xi_rgI
      have w65 : -2147483648 ≤ Xi T2 904 32 ∧ Xi T2 904 32 ≤ 2147483647 := Xi_rgI
      have w66 : -2147483648 ≤ Xi T2 904 71 ∧ Xi T2 904 71 ≤ 2147483647 := Xi_rgI
      have w67 : -2147483648 ≤ Xi T2 904 72 ∧ Xi T2 904 72 ≤ 2147483647 := Xi_rgI
      have w68 : -2147483648 ≤ Xi T2 904 75 ∧ Xi T2 904 75 ≤ 2147483647 := Xi_rgI
      have w69 : -2147483648 ≤ Xi T2 904 78 ∧ Xi T2 904 78 ≤ 2147483647 := Xi_rgI
      refine ys_iload_n rfl rfl ?_
      refine y_aload_n rfl rfl ?_
      refine y_gfi rfl rfl rfl rfl rfl ?_
      refine y_icmp_ge rfl rfl (by unfold rg; omega) (by unfold rg; omega) (fun w70 => ?_) (fun w71 => ?_)
      · refine y_return rfl rfl ?_
        exact ⟨hHT2, hFT2, rfl⟩
      · refine y_aload_n rfl rfl ?_
        refine y_gfi rfl rfl rfl rfl rfl ?_
        refine y_if_ne rfl rfl (by unfold rg; omega) (fun w72 => ?_) (fun w73 => ?_)
        · refine y_return rfl rfl ?_
          exact ⟨hHT2, hFT2, rfl⟩
        · refine y_aload_n rfl rfl ?_
          have D205 := Hid.i (D4.o (by omega))
          have c205 := hac.o v2.toNat (by omega)
          have M205 := M4
          refine y_aload_n rfl rfl ?_
          refine y_gfi rfl rfl rfl rfl rfl ?_
          refine y_iload_n rfl rfl ?_
          refine y_iadd rfl ?_
          refine y_iconst rfl ?_
          refine y_callV rfl rfl rfl (t_mo_meansRun__p hHT2 ((Xi T2 904 71) + v2) 4 ⟨by omega, by omega⟩ ⟨by omega, by omega⟩ (by first | assumption | exact (LSP_FR hFT2 rfl rfl (by assumption : LSP S))) (by first | assumption | omega) (by first | assumption | exact (RBD_FR hFT2 rfl (by assumption : RBD S))) _) ?_
          rintro _ _ ⟨rfl, z74, rfl, w74, f213⟩
          show Pl _ _ _ _ _ _ [iv z74] _ _
          have e213 : z74 = o15R S (v2.toNat) := by have t := f213; rw [rnR_sm M205.o.1, show (Xi T2 904 71 + v2 : Int) = Xi S 904 71 + ((v2.toNat : Nat) : Int) by omega] at t; exact t
          clear f213
          refine y_istore_n rfl rfl rfl ?_
          refine y_aload_n rfl rfl ?_
          refine y_iload_n rfl rfl ?_
          refine y_if_ne rfl rfl (by unfold rg; omega) (fun w75 => ?_) (fun w76 => ?_)
          · refine y_aload_n rfl rfl ?_
            refine y_gfi rfl rfl rfl rfl rfl ?_
            have w77 : -2147483648 ≤ (Xi T2 904 60) ∧ (Xi T2 904 60) ≤ 2147483647 := Xi_rgI
            refine y_pfi rfl rfl rfl rfl ?_
            obtain ⟨U3, eU3⟩ : ∃ T : sS, T = uI T2 904 60 (Int32.ofInt (Xi T2 904 60)) := ⟨_, rfl⟩
            rw [← eU3]
            have hHU3 : RI U3 := by rw [eU3]; exact RI_w hHT2
            have hFU3 : FR md_mo_doFifteen__4f S U3 := by rw [eU3]; exact FR.wI hFT2 (mdf_i (r := (904, 905, 60, 61)) (List.mem_of_getElem? (i := 0) rfl) (inR_i (by omega) (by omega) (by omega) (by omega)))
            have w78 : Xi U3 904 60 = (Xi T2 904 60) := by rw [eU3]; exact Xi_same (by unfold rg; omega)
            have F230 : FR l15 T2 U3 := by rw [eU3]; exact FR.wI FR.rf (mdf_i (r := (904, 905, 60, 61)) (List.mem_of_getElem? (i := 0) rfl) (inR_i (by omega) (by omega) (by omega) (by omega)))
            have x230 : Xi U3 904 60 = (if (v2.toNat) = 0 then o15R S (v2.toNat) else Xi T2 904 60) := by first | (rw [if_pos (by omega), ← e213, eU3]; exact Xi_same (by unfold rg; omega)) | (rw [if_neg (by omega), eU3]; exact Xi_same (by unfold rg; omega))
            have m230 : Hid (AMR S U3) := AMR_t M4.o (AMR_FR F230 rfl rfl)
            have z230 : Xi U3 904 106 = 0 := (F230.x 904 106 rfl).trans (by omega)
            refine y_aload_n rfl rfl ?_
            refine y_iload_n rfl rfl ?_
            refine y_aload_n rfl rfl ?_
            refine y_gfr rfl rfl rfl rfl rfl (hHU3.r 904 68 951 rfl) ?_
            refine y_aload_n rfl rfl ?_
            refine y_gfi rfl rfl rfl rfl rfl ?_
            have w79 : (Xi U3 904 78) = (Xi T2 904 78) := (show Xi U3 904 78 = Xi T2 904 78 from by rw [eU3]; exact Xi_ne (by omega))
            rw [w79]
            refine y_ialoadP (n := 2600) rfl rfl (by unfold rg; omega) (fun w80 w81 => ?_)
            have w82 : -2147483648 ≤ (Xi U3 951 (((Xi T2 904 78)).toNat)) ∧ (Xi U3 951 (((Xi T2 904 78)).toNat)) ≤ 2147483647 := Xi_rgI
            have e243 : (Xi U3 951 (((Xi T2 904 78)).toNat)) = nW S := by unfold nW; rw [m230.o.1.2.1 951 _ (by omega), show Xi T2 904 78 = Xi S 904 78 by omega]
            refine y_aload_n rfl rfl ?_
            refine y_gfr rfl rfl rfl rfl rfl (hHU3.r 904 20 918 rfl) ?_
            refine y_iload_n rfl rfl ?_
            refine y_ialoadP (n := 24) rfl rfl (by unfold rg; omega) (fun w83 w84 => ?_)
            have w85 : -2147483648 ≤ (Xi U3 918 ((z74).toNat)) ∧ (Xi U3 918 ((z74).toNat)) ≤ 2147483647 := Xi_rgI
            have e249 : (Xi U3 918 ((z74).toNat)) = Xi S 918 (o15R S (v2.toNat)).toNat := by rw [F230.x 918 _ rfl, K4.o, e213]
            have k249 := hkb.o (o15R S (v2.toNat)).toNat
            refine y_iconst rfl ?_
            refine y_aload_n rfl rfl ?_
            refine y_gfi rfl rfl rfl rfl rfl ?_
            have w86 : (Xi U3 904 75) = (Xi T2 904 75) := (show Xi U3 904 75 = Xi T2 904 75 from by rw [eU3]; exact Xi_ne (by omega))
            rw [w86]
            have e252 : (Xi T2 904 75) = Xi S 904 75 := by omega
            refine y_if_ne rfl rfl (by unfold rg; omega) (fun w87 => ?_) (fun w88 => ?_)
            · refine y_iconst rfl ?_
              have w89 : Xi U3 904 106 = Xi T2 904 106 := (show Xi U3 904 106 = Xi T2 904 106 from by rw [eU3]; exact Xi_ne (by omega))
              have w90 : Xi U3 904 142 = Xi T2 904 142 := (show Xi U3 904 142 = Xi T2 904 142 from by rw [eU3]; exact Xi_ne (by omega))
              have w91 : Xi U3 904 15 = Xi T2 904 15 := (show Xi U3 904 15 = Xi T2 904 15 from by rw [eU3]; exact Xi_ne (by omega))
              have w92 : Xi U3 904 32 = Xi T2 904 32 := (show Xi U3 904 32 = Xi T2 904 32 from by rw [eU3]; exact Xi_ne (by omega))
              have w93 : Xi U3 904 71 = Xi T2 904 71 := (show Xi U3 904 71 = Xi T2 904 71 from by rw [eU3]; exact Xi_ne (by omega))
              have w94 : Xi U3 904 72 = Xi T2 904 72 := (show Xi U3 904 72 = Xi T2 904 72 from by rw [eU3]; exact Xi_ne (by omega))
              have w95 : Xi U3 904 75 = Xi T2 904 75 := (show Xi U3 904 75 = Xi T2 904 75 from by rw [eU3]; exact Xi_ne (by omega))
              have w96 : Xi U3 904 78 = Xi T2 904 78 := (show Xi U3 904 78 = Xi T2 904 78 from by rw [eU3]; exact Xi_ne (by omega))
              refine y_callV rfl rfl rfl (t_mo_adjective__p hHU3 v1 (Xi U3 951 (((Xi T2 904 78)).toNat)) (Xi U3 918 ((z74).toNat)) 0 0 ⟨by omega, by omega⟩ ⟨by omega, by omega⟩ ⟨by omega, by omega⟩ ⟨by omega, by omega⟩ ⟨by omega, by omega⟩ (by first | assumption | exact (LSP_FR hFU3 rfl rfl (by assumption : LSP S))) (by first | assumption | omega) (by first | assumption | exact (LXR_FR hFU3 rfl rfl (by assumption : LXR S))) (by first | assumption | exact (ABV_FR hFU3 rfl (by assumption : ABV S))) (by first | assumption | omega) _) ?_
              rintro _ T4 ⟨hHT4, w98, z97, rfl, w97, f263, g263⟩
              have hFT4 : FR md_mo_doFifteen__4f S T4 := FR.tr hFU3 w98 rfl
              show Pl _ _ _ _ _ _ [iv z97] _ _
              have F263 : FR l15 T2 T4 := FR.tr F230 (by assumption : FR md_mo_adjective__p U3 T4) rfl
              have x263 : Xi T4 904 60 = (if (v2.toNat) = 0 then o15R S (v2.toNat) else Xi T2 904 60) := ((by assumption : FR md_mo_adjective__p U3 T4).x 904 60 rfl).trans x230
              have e263 : Xi T4 904 113 = a15R S (o15R S (v2.toNat)) := by have t := g263; rw [acR_am m230.o, i190, e243, e249] at t; unfold a15R h15R; first | (rw [if_pos (by omega)]; exact t) | (rw [if_neg (by omega)]; exact t)
              have m263 : Hid (AMR S T4) := AMR_t M4.o (AMR_FR F263 rfl rfl)
              have k263 : Hid (∀ j, Xi T4 918 j = Xi S 918 j) := fun j => (F263.x 918 j rfl).trans (K4.o j)
              have z263 : Xi T4 904 106 = 0 := ((by assumption : FR md_mo_adjective__p U3 T4).x 904 106 rfl).trans z230
              clear f263 g263
              refine y_pop rfl rfl ?_
              refine y_aload_n rfl rfl ?_
              refine y_iload_n rfl rfl ?_
              refine y_aload_n rfl rfl ?_
              refine y_gfi rfl rfl rfl rfl rfl ?_
              have w99 : -2147483648 ≤ (Xi T4 904 113) ∧ (Xi T4 904 113) ≤ 2147483647 := Xi_rgI
              refine y_aload_n rfl rfl ?_
              refine y_gfi rfl rfl rfl rfl rfl ?_
              have w100 : (Xi T4 904 75) = (Xi T2 904 75) := (show Xi T4 904 75 = Xi U3 904 75 from w98.x _ _ rfl).trans ((show Xi U3 904 75 = Xi T2 904 75 from by rw [eU3]; exact Xi_ne (by omega)))
              rw [w100]
              have e274 : (Xi T2 904 75) = Xi S 904 75 := by omega
              refine y_if_ne rfl rfl (by unfold rg; omega) (fun w101 => ?_) (fun w102 => ?_)
              · refine y_iconst rfl ?_
                have w103 : Xi T4 904 106 = Xi T2 904 106 := (show Xi T4 904 106 = Xi U3 904 106 from w98.x _ _ rfl).trans ((show Xi U3 904 106 = Xi T2 904 106 from by rw [eU3]; exact Xi_ne (by omega)))
                have w104 : Xi T4 904 142 = Xi T2 904 142 := (show Xi T4 904 142 = Xi U3 904 142 from w98.x _ _ rfl).trans ((show Xi U3 904 142 = Xi T2 904 142 from by rw [eU3]; exact Xi_ne (by omega)))
                have w105 : Xi T4 904 15 = Xi T2 904 15 := (show Xi T4 904 15 = Xi U3 904 15 from w98.x _ _ rfl).trans ((show Xi U3 904 15 = Xi T2 904 15 from by rw [eU3]; exact Xi_ne (by omega)))
                have w106 : Xi T4 904 32 = Xi T2 904 32 := (show Xi T4 904 32 = Xi U3 904 32 from w98.x _ _ rfl).trans ((show Xi U3 904 32 = Xi T2 904 32 from by rw [eU3]; exact Xi_ne (by omega)))
                have w107 : Xi T4 904 71 = Xi T2 904 71 := (show Xi T4 904 71 = Xi U3 904 71 from w98.x _ _ rfl).trans ((show Xi U3 904 71 = Xi T2 904 71 from by rw [eU3]; exact Xi_ne (by omega)))
                have w108 : Xi T4 904 72 = Xi T2 904 72 := (show Xi T4 904 72 = Xi U3 904 72 from w98.x _ _ rfl).trans ((show Xi U3 904 72 = Xi T2 904 72 from by rw [eU3]; exact Xi_ne (by omega)))
                have w109 : Xi T4 904 75 = Xi T2 904 75 := (show Xi T4 904 75 = Xi U3 904 75 from w98.x _ _ rfl).trans ((show Xi U3 904 75 = Xi T2 904 75 from by rw [eU3]; exact Xi_ne (by omega)))
                have w110 : Xi T4 904 78 = Xi T2 904 78 := (show Xi T4 904 78 = Xi U3 904 78 from w98.x _ _ rfl).trans ((show Xi U3 904 78 = Xi T2 904 78 from by rw [eU3]; exact Xi_ne (by omega)))
                refine y_callV rfl rfl rfl (t_mo_tellRead__p hHT4 z74 (Xi T4 904 113) 0 ⟨by omega, by omega⟩ ⟨by omega, by omega⟩ ⟨by omega, by omega⟩ (fun j => by rw [(hFT4.cx 922 rfl j).1]; exact hct.o j) _) ?_
                rintro _ T5 ⟨hHT5, w112, z111, rfl, w111, o285⟩
                have hFT5 : FR md_mo_doFifteen__4f S T5 := FR.tr hFT4 w112 rfl
                show Pl _ _ _ _ _ _ [iv z111] _ _
                have O285 : Hid (∀ y : Int, y = z111 → RV1 S T2 T5 (v2.toNat) y) := fun y hy => ⟨_, F263, x263, by have t := o285; rw [e213, e263, ← hy] at t; unfold h15R; first | (rw [if_pos (by omega)]; exact t) | (rw [if_neg (by omega)]; exact t)⟩
                have T285 : Hid (TRD T4 T5 z111 (o15R S (v2.toNat)) (a15R S (o15R S (v2.toNat))) (h15R S)) := by have t := o285; rw [e213, e263] at t; unfold h15R; first | (rw [if_pos (by omega)]; exact t) | (rw [if_neg (by omega)]; exact t)
                clear o285
                have F285 := (by assumption : FR md_mo_tellRead__p T4 T5)
                have m285 : Hid (AMR S T5) := AMR_t m263.o (AMR_FR F285 rfl rfl)
                have k285 : Hid (∀ j, Xi T5 918 j = Xi S 918 j) := fun j => (F285.x 918 j rfl).trans (k263.o j)
                have z285 : Xi T5 904 106 = 0 := ((by assumption : FR md_mo_tellRead__p T4 T5).x 904 106 rfl).trans z263
                obtain ⟨zz, hzz⟩ : ∃ w : Int, w = z111 := ⟨_, rfl⟩
                refine y_if_ne rfl rfl (by unfold rg; omega) (fun w113 => ?_) (fun w114 => ?_)
                · refine y_iinc rfl rfl rfl rfl ?_
                  have R307 : Hid ((Xi T5 904 106 = 0 → RVC S (v2 + 1).toNat T5) ∧ (Xi T5 904 106 ≠ 0 → RVF S T5)) := by rw [show (v2 + 1).toNat = v2.toNat + 1 by omega]; first | (have t := K304; exact ⟨fun q => by omega, fun _ => ⟨v2.toNat, _, _, by omega, D205.o, O285.o 0 (by omega), Y304⟩⟩) | exact ⟨fun _ => ⟨_, D205.o, O285.o 1 (by omega)⟩, fun q => absurd z285 q⟩
                  have M307 : Hid (AMR S T5) := by first | (have t := K304; exact AMR_t m285.o (AMR_FR F304 rfl rfl)) | exact m285
                  have k307 : Hid (∀ j, Xi T5 918 j = Xi S 918 j) := by first | (have t := K304; exact fun j => (F304.x 918 j rfl).trans (k285.o j)) | exact k285
                  refine y_goto rfl rfl ?_
                  have w115 : Xi T5 904 106 = Xi T2 904 106 := (show Xi T5 904 106 = Xi T4 904 106 from w112.x _ _ rfl).trans ( (show Xi T4 904 106 = Xi U3 904 106 from w98.x _ _ rfl).trans ((show Xi U3 904 106 = Xi T2 904 106 from by rw [eU3]; exact Xi_ne (by omega))))
                  have w116 : Xi T5 904 142 = Xi T2 904 142 := (show Xi T5 904 142 = Xi T4 904 142 from w112.x _ _ rfl).trans ( (show Xi T4 904 142 = Xi U3 904 142 from w98.x _ _ rfl).trans ((show Xi U3 904 142 = Xi T2 904 142 from by rw [eU3]; exact Xi_ne (by omega))))
                  have w117 : Xi T5 904 15 = Xi T2 904 15 := (show Xi T5 904 15 = Xi T4 904 15 from w112.x _ _ rfl).trans ( (show Xi T4 904 15 = Xi U3 904 15 from w98.x _ _ rfl).trans ((show Xi U3 904 15 = Xi T2 904 15 from by rw [eU3]; exact Xi_ne (by omega))))
                  have w118 : Xi T5 904 32 = Xi T2 904 32 := (show Xi T5 904 32 = Xi T4 904 32 from w112.x _ _ rfl).trans ( (show Xi T4 904 32 = Xi U3 904 32 from w98.x _ _ rfl).trans ((show Xi U3 904 32 = Xi T2 904 32 from by rw [eU3]; exact Xi_ne (by omega))))
                  have w119 : Xi T5 904 71 = Xi T2 904 71 := (show Xi T5 904 71 = Xi T4 904 71 from w112.x _ _ rfl).trans ( (show Xi T4 904 71 = Xi U3 904 71 from w98.x _ _ rfl).trans ((show Xi U3 904 71 = Xi T2 904 71 from by rw [eU3]; exact Xi_ne (by omega))))
                  have w120 : Xi T5 904 72 = Xi T2 904 72 := (show Xi T5 904 72 = Xi T4 904 72 from w112.x _ _ rfl).trans ( (show Xi T4 904 72 = Xi U3 904 72 from w98.x _ _ rfl).trans ((show Xi U3 904 72 = Xi T2 904 72 from by rw [eU3]; exact Xi_ne (by omega))))
                  have w121 : Xi T5 904 75 = Xi T2 904 75 := (show Xi T5 904 75 = Xi T4 904 75 from w112.x _ _ rfl).trans ( (show Xi T4 904 75 = Xi U3 904 75 from w98.x _ _ rfl).trans ((show Xi U3 904 75 = Xi T2 904 75 from by rw [eU3]; exact Xi_ne (by omega))))
                  have w122 : Xi T5 904 78 = Xi T2 904 78 := (show Xi T5 904 78 = Xi T4 904 78 from w112.x _ _ rfl).trans ( (show Xi T4 904 78 = Xi U3 904 78 from w98.x _ _ rfl).trans ((show Xi U3 904 78 = Xi T2 904 78 from by rw [eU3]; exact Xi_ne (by omega))))
                  exact Pl_weak (ih190 (by omega) T5 hHT5 hFT5 (v1) ((v2 + 1)) (by omega) (by omega) (by omega) (by first | exact i190 | rfl) (by first | exact R307.o.1 | exact fun _ => rfl) (by first | exact R307.o.2 | exact fun q => absurd hz0 q) (by first | exact M307 | exact AMR.rf) (by first | exact k307 | exact fun _ => rfl) (by first | exact lsp_sm M307.o.1 hLS | exact hLS) (by first | exact lxr_sm M307.o.1 hLX | exact hLX) (by omega) (by omega) (by omega) (by omega) (by omega) (by omega) (by omega)) (by omega) (And.intro rfl (And.intro rfl (And.intro rfl (True.intro))))
                · refine y_aload_n rfl rfl ?_
                  refine y_iconst rfl ?_
                  refine y_aload_n rfl rfl ?_
                  refine y_gfr rfl rfl rfl rfl rfl (hHT5.r 904 67 950 rfl) ?_
                  refine y_aload_n rfl rfl ?_
                  refine y_gfi rfl rfl rfl rfl rfl ?_
                  have w123 : (Xi T5 904 71) = (Xi T2 904 71) := (show Xi T5 904 71 = Xi T4 904 71 from w112.x _ _ rfl).trans ( (show Xi T4 904 71 = Xi U3 904 71 from w98.x _ _ rfl).trans ((show Xi U3 904 71 = Xi T2 904 71 from by rw [eU3]; exact Xi_ne (by omega))))
                  rw [w123]
                  refine y_iload_n rfl rfl ?_
                  refine y_iadd rfl ?_
                  refine y_ialoadP (n := 2600) rfl rfl (by unfold rg; omega) (fun w124 w125 => ?_)
                  have w126 : -2147483648 ≤ (Xi T5 950 ((((Xi T2 904 71) + v2)).toNat)) ∧ (Xi T5 950 ((((Xi T2 904 71) + v2)).toNat)) ≤ 2147483647 := Xi_rgI
                  have w127 : Xi T5 904 106 = Xi T2 904 106 := (show Xi T5 904 106 = Xi T4 904 106 from w112.x _ _ rfl).trans ( (show Xi T4 904 106 = Xi U3 904 106 from w98.x _ _ rfl).trans ((show Xi U3 904 106 = Xi T2 904 106 from by rw [eU3]; exact Xi_ne (by omega))))
                  have w131 : Xi T5 904 71 = Xi T2 904 71 := (show Xi T5 904 71 = Xi T4 904 71 from w112.x _ _ rfl).trans ( (show Xi T4 904 71 = Xi U3 904 71 from w98.x _ _ rfl).trans ((show Xi U3 904 71 = Xi T2 904 71 from by rw [eU3]; exact Xi_ne (by omega))))
                  refine y_callV rfl rfl rfl (t_mo_wrong__p hHT5 5 (Xi T5 950 ((((Xi T2 904 71) + v2)).toNat)) ⟨by omega, by omega⟩ ⟨by omega, by omega⟩ _) ?_
                  rintro _ T6 ⟨hHT6, w137, rfl, w304, w135⟩
                  have hFT6 : FR md_mo_doFifteen__4f S T6 := FR.tr hFT5 w137 rfl
                  show Pl _ _ _ _ _ _ [] _ _
                  have K304 : True := trivial
                  have F304 := (by assumption : FR md_mo_wrong__p T5 T6)
                  have Y304 : NTB (NT3 T6) 5 (pR S (Xi S 904 71 + (v2.toNat))) := by have t := w304 z285; rw [m285.o.1.2.1 908 _ (by omega), m285.o.1.2.1 950 _ (by omega), show (Xi T2 904 71 + v2 : Int) = Xi S 904 71 + ((v2.toNat : Nat) : Int) by omega] at t; exact t
                  have x304 : Xi T6 904 106 = 5 := Y304.1
                  refine y_iinc rfl rfl rfl rfl ?_
                  have R307 : Hid ((Xi T6 904 106 = 0 → RVC S (v2 + 1).toNat T6) ∧ (Xi T6 904 106 ≠ 0 → RVF S T6)) := by rw [show (v2 + 1).toNat = v2.toNat + 1 by omega]; first | (have t := K304; exact ⟨fun q => by omega, fun _ => ⟨v2.toNat, _, _, by omega, D205.o, O285.o 0 (by omega), Y304⟩⟩) | exact ⟨fun _ => ⟨_, D205.o, O285.o 1 (by omega)⟩, fun q => absurd z285 q⟩
                  have M307 : Hid (AMR S T6) := by first | (have t := K304; exact AMR_t m285.o (AMR_FR F304 rfl rfl)) | exact m285
                  have k307 : Hid (∀ j, Xi T6 918 j = Xi S 918 j) := by first | (have t := K304; exact fun j => (F304.x 918 j rfl).trans (k285.o j)) | exact k285
                  refine y_goto rfl rfl ?_
                  have w138 : Xi T6 904 142 = Xi T2 904 142 := (show Xi T6 904 142 = Xi T5 904 142 from w137.x _ _ rfl).trans ( (show Xi T5 904 142 = Xi T4 904 142 from w112.x _ _ rfl).trans ( (show Xi T4 904 142 = Xi U3 904 142 from w98.x _ _ rfl).trans ((show Xi U3 904 142 = Xi T2 904 142 from by rw [eU3]; exact Xi_ne (by omega)))))
                  have w139 : Xi T6 904 15 = Xi T2 904 15 := (show Xi T6 904 15 = Xi T5 904 15 from w137.x _ _ rfl).trans ( (show Xi T5 904 15 = Xi T4 904 15 from w112.x _ _ rfl).trans ( (show Xi T4 904 15 = Xi U3 904 15 from w98.x _ _ rfl).trans ((show Xi U3 904 15 = Xi T2 904 15 from by rw [eU3]; exact Xi_ne (by omega)))))
                  have w140 : Xi T6 904 32 = Xi T2 904 32 := (show Xi T6 904 32 = Xi T5 904 32 from w137.x _ _ rfl).trans ( (show Xi T5 904 32 = Xi T4 904 32 from w112.x _ _ rfl).trans ( (show Xi T4 904 32 = Xi U3 904 32 from w98.x _ _ rfl).trans ((show Xi U3 904 32 = Xi T2 904 32 from by rw [eU3]; exact Xi_ne (by omega)))))
                  have w141 : Xi T6 904 71 = Xi T2 904 71 := (show Xi T6 904 71 = Xi T5 904 71 from w137.x _ _ rfl).trans ( (show Xi T5 904 71 = Xi T4 904 71 from w112.x _ _ rfl).trans ( (show Xi T4 904 71 = Xi U3 904 71 from w98.x _ _ rfl).trans ((show Xi U3 904 71 = Xi T2 904 71 from by rw [eU3]; exact Xi_ne (by omega)))))
                  have w142 : Xi T6 904 72 = Xi T2 904 72 := (show Xi T6 904 72 = Xi T5 904 72 from w137.x _ _ rfl).trans ( (show Xi T5 904 72 = Xi T4 904 72 from w112.x _ _ rfl).trans ( (show Xi T4 904 72 = Xi U3 904 72 from w98.x _ _ rfl).trans ((show Xi U3 904 72 = Xi T2 904 72 from by rw [eU3]; exact Xi_ne (by omega)))))
                  have w143 : Xi T6 904 75 = Xi T2 904 75 := (show Xi T6 904 75 = Xi T5 904 75 from w137.x _ _ rfl).trans ( (show Xi T5 904 75 = Xi T4 904 75 from w112.x _ _ rfl).trans ( (show Xi T4 904 75 = Xi U3 904 75 from w98.x _ _ rfl).trans ((show Xi U3 904 75 = Xi T2 904 75 from by rw [eU3]; exact Xi_ne (by omega)))))
                  have w144 : Xi T6 904 78 = Xi T2 904 78 := (show Xi T6 904 78 = Xi T5 904 78 from w137.x _ _ rfl).trans ( (show Xi T5 904 78 = Xi T4 904 78 from w112.x _ _ rfl).trans ( (show Xi T4 904 78 = Xi U3 904 78 from w98.x _ _ rfl).trans ((show Xi U3 904 78 = Xi T2 904 78 from by rw [eU3]; exact Xi_ne (by omega)))))
                  exact Pl_weak (ih190 (by omega) T6 hHT6 hFT6 (v1) ((v2 + 1)) (by omega) (by omega) (by omega) (by first | exact i190 | rfl) (by first | exact R307.o.1 | exact fun _ => rfl) (by first | exact R307.o.2 | exact fun q => absurd hz0 q) (by first | exact M307 | exact AMR.rf) (by first | exact k307 | exact fun _ => rfl) (by first | exact lsp_sm M307.o.1 hLS | exact hLS) (by first | exact lxr_sm M307.o.1 hLX | exact hLX) (by omega) (by omega) (by omega) (by omega) (by omega) (by omega) (by omega)) (by omega) (And.intro rfl (And.intro rfl (And.intro rfl (True.intro))))
              · exfalso; omega
            · refine y_iconst rfl ?_
              refine y_goto rfl rfl ?_
              have w145 : Xi U3 904 106 = Xi T2 904 106 := (show Xi U3 904 106 = Xi T2 904 106 from by rw [eU3]; exact Xi_ne (by omega))
              have w146 : Xi U3 904 142 = Xi T2 904 142 := (show Xi U3 904 142 = Xi T2 904 142 from by rw [eU3]; exact Xi_ne (by omega))
              have w147 : Xi U3 904 15 = Xi T2 904 15 := (show Xi U3 904 15 = Xi T2 904 15 from by rw [eU3]; exact Xi_ne (by omega))
              have w148 : Xi U3 904 32 = Xi T2 904 32 := (show Xi U3 904 32 = Xi T2 904 32 from by rw [eU3]; exact Xi_ne (by omega))
              have w149 : Xi U3 904 71 = Xi T2 904 71 := (show Xi U3 904 71 = Xi T2 904 71 from by rw [eU3]; exact Xi_ne (by omega))
              have w150 : Xi U3 904 72 = Xi T2 904 72 := (show Xi U3 904 72 = Xi T2 904 72 from by rw [eU3]; exact Xi_ne (by omega))
              have w151 : Xi U3 904 75 = Xi T2 904 75 := (show Xi U3 904 75 = Xi T2 904 75 from by rw [eU3]; exact Xi_ne (by omega))
              have w152 : Xi U3 904 78 = Xi T2 904 78 := (show Xi U3 904 78 = Xi T2 904 78 from by rw [eU3]; exact Xi_ne (by omega))
              refine y_callV rfl rfl rfl (t_mo_adjective__p hHU3 v1 (Xi U3 951 (((Xi T2 904 78)).toNat)) (Xi U3 918 ((z74).toNat)) 0 1 ⟨by omega, by omega⟩ ⟨by omega, by omega⟩ ⟨by omega, by omega⟩ ⟨by omega, by omega⟩ ⟨by omega, by omega⟩ (by first | assumption | exact (LSP_FR hFU3 rfl rfl (by assumption : LSP S))) (by first | assumption | omega) (by first | assumption | exact (LXR_FR hFU3 rfl rfl (by assumption : LXR S))) (by first | assumption | exact (ABV_FR hFU3 rfl (by assumption : ABV S))) (by first | assumption | omega) _) ?_
              rintro _ T7 ⟨hHT7, w154, z153, rfl, w153, f263, g263⟩
              have hFT7 : FR md_mo_doFifteen__4f S T7 := FR.tr hFU3 w154 rfl
              show Pl _ _ _ _ _ _ [iv z153] _ _
              have F263 : FR l15 T2 T7 := FR.tr F230 (by assumption : FR md_mo_adjective__p U3 T7) rfl
              have x263 : Xi T7 904 60 = (if (v2.toNat) = 0 then o15R S (v2.toNat) else Xi T2 904 60) := ((by assumption : FR md_mo_adjective__p U3 T7).x 904 60 rfl).trans x230
              have e263 : Xi T7 904 113 = a15R S (o15R S (v2.toNat)) := by have t := g263; rw [acR_am m230.o, i190, e243, e249] at t; unfold a15R h15R; first | (rw [if_pos (by omega)]; exact t) | (rw [if_neg (by omega)]; exact t)
              have m263 : Hid (AMR S T7) := AMR_t M4.o (AMR_FR F263 rfl rfl)
              have k263 : Hid (∀ j, Xi T7 918 j = Xi S 918 j) := fun j => (F263.x 918 j rfl).trans (K4.o j)
              have z263 : Xi T7 904 106 = 0 := ((by assumption : FR md_mo_adjective__p U3 T7).x 904 106 rfl).trans z230
              clear f263 g263
              refine y_pop rfl rfl ?_
              refine y_aload_n rfl rfl ?_
              refine y_iload_n rfl rfl ?_
              refine y_aload_n rfl rfl ?_
              refine y_gfi rfl rfl rfl rfl rfl ?_
              have w155 : -2147483648 ≤ (Xi T7 904 113) ∧ (Xi T7 904 113) ≤ 2147483647 := Xi_rgI
              refine y_aload_n rfl rfl ?_
              refine y_gfi rfl rfl rfl rfl rfl ?_
              have w156 : (Xi T7 904 75) = (Xi T2 904 75) := (show Xi T7 904 75 = Xi U3 904 75 from w154.x _ _ rfl).trans ((show Xi U3 904 75 = Xi T2 904 75 from by rw [eU3]; exact Xi_ne (by omega)))
              rw [w156]
              have e274 : (Xi T2 904 75) = Xi S 904 75 := by omega
              refine y_if_ne rfl rfl (by unfold rg; omega) (fun w157 => ?_) (fun w158 => ?_)
              · exfalso; omega
              · refine y_iconst rfl ?_
                refine y_goto rfl rfl ?_
                have w159 : Xi T7 904 106 = Xi T2 904 106 := (show Xi T7 904 106 = Xi U3 904 106 from w154.x _ _ rfl).trans ((show Xi U3 904 106 = Xi T2 904 106 from by rw [eU3]; exact Xi_ne (by omega)))
                have w160 : Xi T7 904 142 = Xi T2 904 142 := (show Xi T7 904 142 = Xi U3 904 142 from w154.x _ _ rfl).trans ((show Xi U3 904 142 = Xi T2 904 142 from by rw [eU3]; exact Xi_ne (by omega)))
                have w161 : Xi T7 904 15 = Xi T2 904 15 := (show Xi T7 904 15 = Xi U3 904 15 from w154.x _ _ rfl).trans ((show Xi U3 904 15 = Xi T2 904 15 from by rw [eU3]; exact Xi_ne (by omega)))
                have w162 : Xi T7 904 32 = Xi T2 904 32 := (show Xi T7 904 32 = Xi U3 904 32 from w154.x _ _ rfl).trans ((show Xi U3 904 32 = Xi T2 904 32 from by rw [eU3]; exact Xi_ne (by omega)))
                have w163 : Xi T7 904 71 = Xi T2 904 71 := (show Xi T7 904 71 = Xi U3 904 71 from w154.x _ _ rfl).trans ((show Xi U3 904 71 = Xi T2 904 71 from by rw [eU3]; exact Xi_ne (by omega)))
                have w164 : Xi T7 904 72 = Xi T2 904 72 := (show Xi T7 904 72 = Xi U3 904 72 from w154.x _ _ rfl).trans ((show Xi U3 904 72 = Xi T2 904 72 from by rw [eU3]; exact Xi_ne (by omega)))
                have w165 : Xi T7 904 75 = Xi T2 904 75 := (show Xi T7 904 75 = Xi U3 904 75 from w154.x _ _ rfl).trans ((show Xi U3 904 75 = Xi T2 904 75 from by rw [eU3]; exact Xi_ne (by omega)))
                have w166 : Xi T7 904 78 = Xi T2 904 78 := (show Xi T7 904 78 = Xi U3 904 78 from w154.x _ _ rfl).trans ((show Xi U3 904 78 = Xi T2 904 78 from by rw [eU3]; exact Xi_ne (by omega)))
                refine y_callV rfl rfl rfl (t_mo_tellRead__p hHT7 z74 (Xi T7 904 113) 1 ⟨by omega, by omega⟩ ⟨by omega, by omega⟩ ⟨by omega, by omega⟩ (fun j => by rw [(hFT7.cx 922 rfl j).1]; exact hct.o j) _) ?_
                rintro _ T8 ⟨hHT8, w168, z167, rfl, w167, o285⟩
                have hFT8 : FR md_mo_doFifteen__4f S T8 := FR.tr hFT7 w168 rfl
                show Pl _ _ _ _ _ _ [iv z167] _ _
                have O285 : Hid (∀ y : Int, y = z167 → RV1 S T2 T8 (v2.toNat) y) := fun y hy => ⟨_, F263, x263, by have t := o285; rw [e213, e263, ← hy] at t; unfold h15R; first | (rw [if_pos (by omega)]; exact t) | (rw [if_neg (by omega)]; exact t)⟩
                have T285 : Hid (TRD T7 T8 z167 (o15R S (v2.toNat)) (a15R S (o15R S (v2.toNat))) (h15R S)) := by have t := o285; rw [e213, e263] at t; unfold h15R; first | (rw [if_pos (by omega)]; exact t) | (rw [if_neg (by omega)]; exact t)
                clear o285
                have F285 := (by assumption : FR md_mo_tellRead__p T7 T8)
                have m285 : Hid (AMR S T8) := AMR_t m263.o (AMR_FR F285 rfl rfl)
                have k285 : Hid (∀ j, Xi T8 918 j = Xi S 918 j) := fun j => (F285.x 918 j rfl).trans (k263.o j)
                have z285 : Xi T8 904 106 = 0 := ((by assumption : FR md_mo_tellRead__p T7 T8).x 904 106 rfl).trans z263
                obtain ⟨zz, hzz⟩ : ∃ w : Int, w = z167 := ⟨_, rfl⟩
                refine y_if_ne rfl rfl (by unfold rg; omega) (fun w169 => ?_) (fun w170 => ?_)
                · refine y_iinc rfl rfl rfl rfl ?_
                  have R307 : Hid ((Xi T8 904 106 = 0 → RVC S (v2 + 1).toNat T8) ∧ (Xi T8 904 106 ≠ 0 → RVF S T8)) := by rw [show (v2 + 1).toNat = v2.toNat + 1 by omega]; first | (have t := K304; exact ⟨fun q => by omega, fun _ => ⟨v2.toNat, _, _, by omega, D205.o, O285.o 0 (by omega), Y304⟩⟩) | exact ⟨fun _ => ⟨_, D205.o, O285.o 1 (by omega)⟩, fun q => absurd z285 q⟩
                  have M307 : Hid (AMR S T8) := by first | (have t := K304; exact AMR_t m285.o (AMR_FR F304 rfl rfl)) | exact m285
                  have k307 : Hid (∀ j, Xi T8 918 j = Xi S 918 j) := by first | (have t := K304; exact fun j => (F304.x 918 j rfl).trans (k285.o j)) | exact k285
                  refine y_goto rfl rfl ?_
                  have w171 : Xi T8 904 106 = Xi T2 904 106 := (show Xi T8 904 106 = Xi T7 904 106 from w168.x _ _ rfl).trans ( (show Xi T7 904 106 = Xi U3 904 106 from w154.x _ _ rfl).trans ((show Xi U3 904 106 = Xi T2 904 106 from by rw [eU3]; exact Xi_ne (by omega))))
                  have w172 : Xi T8 904 142 = Xi T2 904 142 := (show Xi T8 904 142 = Xi T7 904 142 from w168.x _ _ rfl).trans ( (show Xi T7 904 142 = Xi U3 904 142 from w154.x _ _ rfl).trans ((show Xi U3 904 142 = Xi T2 904 142 from by rw [eU3]; exact Xi_ne (by omega))))
                  have w173 : Xi T8 904 15 = Xi T2 904 15 := (show Xi T8 904 15 = Xi T7 904 15 from w168.x _ _ rfl).trans ( (show Xi T7 904 15 = Xi U3 904 15 from w154.x _ _ rfl).trans ((show Xi U3 904 15 = Xi T2 904 15 from by rw [eU3]; exact Xi_ne (by omega))))
                  have w174 : Xi T8 904 32 = Xi T2 904 32 := (show Xi T8 904 32 = Xi T7 904 32 from w168.x _ _ rfl).trans ( (show Xi T7 904 32 = Xi U3 904 32 from w154.x _ _ rfl).trans ((show Xi U3 904 32 = Xi T2 904 32 from by rw [eU3]; exact Xi_ne (by omega))))
                  have w175 : Xi T8 904 71 = Xi T2 904 71 := (show Xi T8 904 71 = Xi T7 904 71 from w168.x _ _ rfl).trans ( (show Xi T7 904 71 = Xi U3 904 71 from w154.x _ _ rfl).trans ((show Xi U3 904 71 = Xi T2 904 71 from by rw [eU3]; exact Xi_ne (by omega))))
                  have w176 : Xi T8 904 72 = Xi T2 904 72 := (show Xi T8 904 72 = Xi T7 904 72 from w168.x _ _ rfl).trans ( (show Xi T7 904 72 = Xi U3 904 72 from w154.x _ _ rfl).trans ((show Xi U3 904 72 = Xi T2 904 72 from by rw [eU3]; exact Xi_ne (by omega))))
                  have w177 : Xi T8 904 75 = Xi T2 904 75 := (show Xi T8 904 75 = Xi T7 904 75 from w168.x _ _ rfl).trans ( (show Xi T7 904 75 = Xi U3 904 75 from w154.x _ _ rfl).trans ((show Xi U3 904 75 = Xi T2 904 75 from by rw [eU3]; exact Xi_ne (by omega))))
                  have w178 : Xi T8 904 78 = Xi T2 904 78 := (show Xi T8 904 78 = Xi T7 904 78 from w168.x _ _ rfl).trans ( (show Xi T7 904 78 = Xi U3 904 78 from w154.x _ _ rfl).trans ((show Xi U3 904 78 = Xi T2 904 78 from by rw [eU3]; exact Xi_ne (by omega))))
                  exact Pl_weak (ih190 (by omega) T8 hHT8 hFT8 (v1) ((v2 + 1)) (by omega) (by omega) (by omega) (by first | exact i190 | rfl) (by first | exact R307.o.1 | exact fun _ => rfl) (by first | exact R307.o.2 | exact fun q => absurd hz0 q) (by first | exact M307 | exact AMR.rf) (by first | exact k307 | exact fun _ => rfl) (by first | exact lsp_sm M307.o.1 hLS | exact hLS) (by first | exact lxr_sm M307.o.1 hLX | exact hLX) (by omega) (by omega) (by omega) (by omega) (by omega) (by omega) (by omega)) (by omega) (And.intro rfl (And.intro rfl (And.intro rfl (True.intro))))
                · refine y_aload_n rfl rfl ?_
                  refine y_iconst rfl ?_
                  refine y_aload_n rfl rfl ?_
                  refine y_gfr rfl rfl rfl rfl rfl (hHT8.r 904 67 950 rfl) ?_
                  refine y_aload_n rfl rfl ?_
                  refine y_gfi rfl rfl rfl rfl rfl ?_
                  have w179 : (Xi T8 904 71) = (Xi T2 904 71) := (show Xi T8 904 71 = Xi T7 904 71 from w168.x _ _ rfl).trans ( (show Xi T7 904 71 = Xi U3 904 71 from w154.x _ _ rfl).trans ((show Xi U3 904 71 = Xi T2 904 71 from by rw [eU3]; exact Xi_ne (by omega))))
                  rw [w179]
                  refine y_iload_n rfl rfl ?_
                  refine y_iadd rfl ?_
                  refine y_ialoadP (n := 2600) rfl rfl (by unfold rg; omega) (fun w180 w181 => ?_)
                  have w182 : -2147483648 ≤ (Xi T8 950 ((((Xi T2 904 71) + v2)).toNat)) ∧ (Xi T8 950 ((((Xi T2 904 71) + v2)).toNat)) ≤ 2147483647 := Xi_rgI
                  have w183 : Xi T8 904 106 = Xi T2 904 106 := (show Xi T8 904 106 = Xi T7 904 106 from w168.x _ _ rfl).trans ( (show Xi T7 904 106 = Xi U3 904 106 from w154.x _ _ rfl).trans ((show Xi U3 904 106 = Xi T2 904 106 from by rw [eU3]; exact Xi_ne (by omega))))
                  have w187 : Xi T8 904 71 = Xi T2 904 71 := (show Xi T8 904 71 = Xi T7 904 71 from w168.x _ _ rfl).trans ( (show Xi T7 904 71 = Xi U3 904 71 from w154.x _ _ rfl).trans ((show Xi U3 904 71 = Xi T2 904 71 from by rw [eU3]; exact Xi_ne (by omega))))
                  refine y_callV rfl rfl rfl (t_mo_wrong__p hHT8 5 (Xi T8 950 ((((Xi T2 904 71) + v2)).toNat)) ⟨by omega, by omega⟩ ⟨by omega, by omega⟩ _) ?_
                  rintro _ T9 ⟨hHT9, w193, rfl, w304, w191⟩
                  have hFT9 : FR md_mo_doFifteen__4f S T9 := FR.tr hFT8 w193 rfl
                  show Pl _ _ _ _ _ _ [] _ _
                  have K304 : True := trivial
                  have F304 := (by assumption : FR md_mo_wrong__p T8 T9)
                  have Y304 : NTB (NT3 T9) 5 (pR S (Xi S 904 71 + (v2.toNat))) := by have t := w304 z285; rw [m285.o.1.2.1 908 _ (by omega), m285.o.1.2.1 950 _ (by omega), show (Xi T2 904 71 + v2 : Int) = Xi S 904 71 + ((v2.toNat : Nat) : Int) by omega] at t; exact t
                  have x304 : Xi T9 904 106 = 5 := Y304.1
                  refine y_iinc rfl rfl rfl rfl ?_
                  have R307 : Hid ((Xi T9 904 106 = 0 → RVC S (v2 + 1).toNat T9) ∧ (Xi T9 904 106 ≠ 0 → RVF S T9)) := by rw [show (v2 + 1).toNat = v2.toNat + 1 by omega]; first | (have t := K304; exact ⟨fun q => by omega, fun _ => ⟨v2.toNat, _, _, by omega, D205.o, O285.o 0 (by omega), Y304⟩⟩) | exact ⟨fun _ => ⟨_, D205.o, O285.o 1 (by omega)⟩, fun q => absurd z285 q⟩
                  have M307 : Hid (AMR S T9) := by first | (have t := K304; exact AMR_t m285.o (AMR_FR F304 rfl rfl)) | exact m285
                  have k307 : Hid (∀ j, Xi T9 918 j = Xi S 918 j) := by first | (have t := K304; exact fun j => (F304.x 918 j rfl).trans (k285.o j)) | exact k285
                  refine y_goto rfl rfl ?_
                  have w194 : Xi T9 904 142 = Xi T2 904 142 := (show Xi T9 904 142 = Xi T8 904 142 from w193.x _ _ rfl).trans ( (show Xi T8 904 142 = Xi T7 904 142 from w168.x _ _ rfl).trans ( (show Xi T7 904 142 = Xi U3 904 142 from w154.x _ _ rfl).trans ((show Xi U3 904 142 = Xi T2 904 142 from by rw [eU3]; exact Xi_ne (by omega)))))
                  have w195 : Xi T9 904 15 = Xi T2 904 15 := (show Xi T9 904 15 = Xi T8 904 15 from w193.x _ _ rfl).trans ( (show Xi T8 904 15 = Xi T7 904 15 from w168.x _ _ rfl).trans ( (show Xi T7 904 15 = Xi U3 904 15 from w154.x _ _ rfl).trans ((show Xi U3 904 15 = Xi T2 904 15 from by rw [eU3]; exact Xi_ne (by omega)))))
                  have w196 : Xi T9 904 32 = Xi T2 904 32 := (show Xi T9 904 32 = Xi T8 904 32 from w193.x _ _ rfl).trans ( (show Xi T8 904 32 = Xi T7 904 32 from w168.x _ _ rfl).trans ( (show Xi T7 904 32 = Xi U3 904 32 from w154.x _ _ rfl).trans ((show Xi U3 904 32 = Xi T2 904 32 from by rw [eU3]; exact Xi_ne (by omega)))))
                  have w197 : Xi T9 904 71 = Xi T2 904 71 := (show Xi T9 904 71 = Xi T8 904 71 from w193.x _ _ rfl).trans ( (show Xi T8 904 71 = Xi T7 904 71 from w168.x _ _ rfl).trans ( (show Xi T7 904 71 = Xi U3 904 71 from w154.x _ _ rfl).trans ((show Xi U3 904 71 = Xi T2 904 71 from by rw [eU3]; exact Xi_ne (by omega)))))
                  have w198 : Xi T9 904 72 = Xi T2 904 72 := (show Xi T9 904 72 = Xi T8 904 72 from w193.x _ _ rfl).trans ( (show Xi T8 904 72 = Xi T7 904 72 from w168.x _ _ rfl).trans ( (show Xi T7 904 72 = Xi U3 904 72 from w154.x _ _ rfl).trans ((show Xi U3 904 72 = Xi T2 904 72 from by rw [eU3]; exact Xi_ne (by omega)))))
                  have w199 : Xi T9 904 75 = Xi T2 904 75 := (show Xi T9 904 75 = Xi T8 904 75 from w193.x _ _ rfl).trans ( (show Xi T8 904 75 = Xi T7 904 75 from w168.x _ _ rfl).trans ( (show Xi T7 904 75 = Xi U3 904 75 from w154.x _ _ rfl).trans ((show Xi U3 904 75 = Xi T2 904 75 from by rw [eU3]; exact Xi_ne (by omega)))))
                  have w200 : Xi T9 904 78 = Xi T2 904 78 := (show Xi T9 904 78 = Xi T8 904 78 from w193.x _ _ rfl).trans ( (show Xi T8 904 78 = Xi T7 904 78 from w168.x _ _ rfl).trans ( (show Xi T7 904 78 = Xi U3 904 78 from w154.x _ _ rfl).trans ((show Xi U3 904 78 = Xi T2 904 78 from by rw [eU3]; exact Xi_ne (by omega)))))
                  exact Pl_weak (ih190 (by omega) T9 hHT9 hFT9 (v1) ((v2 + 1)) (by omega) (by omega) (by omega) (by first | exact i190 | rfl) (by first | exact R307.o.1 | exact fun _ => rfl) (by first | exact R307.o.2 | exact fun q => absurd hz0 q) (by first | exact M307 | exact AMR.rf) (by first | exact k307 | exact fun _ => rfl) (by first | exact lsp_sm M307.o.1 hLS | exact hLS) (by first | exact lxr_sm M307.o.1 hLX | exact hLX) (by omega) (by omega) (by omega) (by omega) (by omega) (by omega) (by omega)) (by omega) (And.intro rfl (And.intro rfl (And.intro rfl (True.intro))))
          · refine y_iload_n rfl rfl ?_
            refine y_goto rfl rfl ?_
            refine y_pfi rfl rfl rfl rfl ?_
            obtain ⟨U10, eU10⟩ : ∃ T : sS, T = uI T2 904 60 (Int32.ofInt z74) := ⟨_, rfl⟩
            rw [← eU10]
            have hHU10 : RI U10 := by rw [eU10]; exact RI_w hHT2
            have hFU10 : FR md_mo_doFifteen__4f S U10 := by rw [eU10]; exact FR.wI hFT2 (mdf_i (r := (904, 905, 60, 61)) (List.mem_of_getElem? (i := 0) rfl) (inR_i (by omega) (by omega) (by omega) (by omega)))
            have w201 : Xi U10 904 60 = z74 := by rw [eU10]; exact Xi_same (by unfold rg; omega)
            have F230 : FR l15 T2 U10 := by rw [eU10]; exact FR.wI FR.rf (mdf_i (r := (904, 905, 60, 61)) (List.mem_of_getElem? (i := 0) rfl) (inR_i (by omega) (by omega) (by omega) (by omega)))
            have x230 : Xi U10 904 60 = (if (v2.toNat) = 0 then o15R S (v2.toNat) else Xi T2 904 60) := by first | (rw [if_pos (by omega), ← e213, eU10]; exact Xi_same (by unfold rg; omega)) | (rw [if_neg (by omega), eU10]; exact Xi_same (by unfold rg; omega))
            have m230 : Hid (AMR S U10) := AMR_t M4.o (AMR_FR F230 rfl rfl)
            have z230 : Xi U10 904 106 = 0 := (F230.x 904 106 rfl).trans (by omega)
            refine y_aload_n rfl rfl ?_
            refine y_iload_n rfl rfl ?_
            refine y_aload_n rfl rfl ?_
            refine y_gfr rfl rfl rfl rfl rfl (hHU10.r 904 68 951 rfl) ?_
            refine y_aload_n rfl rfl ?_
            refine y_gfi rfl rfl rfl rfl rfl ?_
            have w202 : (Xi U10 904 78) = (Xi T2 904 78) := (show Xi U10 904 78 = Xi T2 904 78 from by rw [eU10]; exact Xi_ne (by omega))
            rw [w202]
            refine y_ialoadP (n := 2600) rfl rfl (by unfold rg; omega) (fun w203 w204 => ?_)
            have w205 : -2147483648 ≤ (Xi U10 951 (((Xi T2 904 78)).toNat)) ∧ (Xi U10 951 (((Xi T2 904 78)).toNat)) ≤ 2147483647 := Xi_rgI
            have e243 : (Xi U10 951 (((Xi T2 904 78)).toNat)) = nW S := by unfold nW; rw [m230.o.1.2.1 951 _ (by omega), show Xi T2 904 78 = Xi S 904 78 by omega]
            refine y_aload_n rfl rfl ?_
            refine y_gfr rfl rfl rfl rfl rfl (hHU10.r 904 20 918 rfl) ?_
            refine y_iload_n rfl rfl ?_
            refine y_ialoadP (n := 24) rfl rfl (by unfold rg; omega) (fun w206 w207 => ?_)
            have w208 : -2147483648 ≤ (Xi U10 918 ((z74).toNat)) ∧ (Xi U10 918 ((z74).toNat)) ≤ 2147483647 := Xi_rgI
            have e249 : (Xi U10 918 ((z74).toNat)) = Xi S 918 (o15R S (v2.toNat)).toNat := by rw [F230.x 918 _ rfl, K4.o, e213]
            have k249 := hkb.o (o15R S (v2.toNat)).toNat
            refine y_iconst rfl ?_
            refine y_aload_n rfl rfl ?_
            refine y_gfi rfl rfl rfl rfl rfl ?_
            have w209 : (Xi U10 904 75) = (Xi T2 904 75) := (show Xi U10 904 75 = Xi T2 904 75 from by rw [eU10]; exact Xi_ne (by omega))
            rw [w209]
            have e252 : (Xi T2 904 75) = Xi S 904 75 := by omega
            refine y_if_ne rfl rfl (by unfold rg; omega) (fun w210 => ?_) (fun w211 => ?_)
            · refine y_iconst rfl ?_
              have w212 : Xi U10 904 106 = Xi T2 904 106 := (show Xi U10 904 106 = Xi T2 904 106 from by rw [eU10]; exact Xi_ne (by omega))
              have w213 : Xi U10 904 142 = Xi T2 904 142 := (show Xi U10 904 142 = Xi T2 904 142 from by rw [eU10]; exact Xi_ne (by omega))
              have w214 : Xi U10 904 15 = Xi T2 904 15 := (show Xi U10 904 15 = Xi T2 904 15 from by rw [eU10]; exact Xi_ne (by omega))
              have w215 : Xi U10 904 32 = Xi T2 904 32 := (show Xi U10 904 32 = Xi T2 904 32 from by rw [eU10]; exact Xi_ne (by omega))
              have w216 : Xi U10 904 71 = Xi T2 904 71 := (show Xi U10 904 71 = Xi T2 904 71 from by rw [eU10]; exact Xi_ne (by omega))
              have w217 : Xi U10 904 72 = Xi T2 904 72 := (show Xi U10 904 72 = Xi T2 904 72 from by rw [eU10]; exact Xi_ne (by omega))
              have w218 : Xi U10 904 75 = Xi T2 904 75 := (show Xi U10 904 75 = Xi T2 904 75 from by rw [eU10]; exact Xi_ne (by omega))
              have w219 : Xi U10 904 78 = Xi T2 904 78 := (show Xi U10 904 78 = Xi T2 904 78 from by rw [eU10]; exact Xi_ne (by omega))
              refine y_callV rfl rfl rfl (t_mo_adjective__p hHU10 v1 (Xi U10 951 (((Xi T2 904 78)).toNat)) (Xi U10 918 ((z74).toNat)) 0 0 ⟨by omega, by omega⟩ ⟨by omega, by omega⟩ ⟨by omega, by omega⟩ ⟨by omega, by omega⟩ ⟨by omega, by omega⟩ (by first | assumption | exact (LSP_FR hFU10 rfl rfl (by assumption : LSP S))) (by first | assumption | omega) (by first | assumption | exact (LXR_FR hFU10 rfl rfl (by assumption : LXR S))) (by first | assumption | exact (ABV_FR hFU10 rfl (by assumption : ABV S))) (by first | assumption | omega) _) ?_
              rintro _ T11 ⟨hHT11, w221, z220, rfl, w220, f263, g263⟩
              have hFT11 : FR md_mo_doFifteen__4f S T11 := FR.tr hFU10 w221 rfl
              show Pl _ _ _ _ _ _ [iv z220] _ _
              have F263 : FR l15 T2 T11 := FR.tr F230 (by assumption : FR md_mo_adjective__p U10 T11) rfl
              have x263 : Xi T11 904 60 = (if (v2.toNat) = 0 then o15R S (v2.toNat) else Xi T2 904 60) := ((by assumption : FR md_mo_adjective__p U10 T11).x 904 60 rfl).trans x230
              have e263 : Xi T11 904 113 = a15R S (o15R S (v2.toNat)) := by have t := g263; rw [acR_am m230.o, i190, e243, e249] at t; unfold a15R h15R; first | (rw [if_pos (by omega)]; exact t) | (rw [if_neg (by omega)]; exact t)
              have m263 : Hid (AMR S T11) := AMR_t M4.o (AMR_FR F263 rfl rfl)
              have k263 : Hid (∀ j, Xi T11 918 j = Xi S 918 j) := fun j => (F263.x 918 j rfl).trans (K4.o j)
              have z263 : Xi T11 904 106 = 0 := ((by assumption : FR md_mo_adjective__p U10 T11).x 904 106 rfl).trans z230
              clear f263 g263
              refine y_pop rfl rfl ?_
              refine y_aload_n rfl rfl ?_
              refine y_iload_n rfl rfl ?_
              refine y_aload_n rfl rfl ?_
              refine y_gfi rfl rfl rfl rfl rfl ?_
              have w222 : -2147483648 ≤ (Xi T11 904 113) ∧ (Xi T11 904 113) ≤ 2147483647 := Xi_rgI
              refine y_aload_n rfl rfl ?_
              refine y_gfi rfl rfl rfl rfl rfl ?_
              have w223 : (Xi T11 904 75) = (Xi T2 904 75) := (show Xi T11 904 75 = Xi U10 904 75 from w221.x _ _ rfl).trans ((show Xi U10 904 75 = Xi T2 904 75 from by rw [eU10]; exact Xi_ne (by omega)))
              rw [w223]
              have e274 : (Xi T2 904 75) = Xi S 904 75 := by omega
              refine y_if_ne rfl rfl (by unfold rg; omega) (fun w224 => ?_) (fun w225 => ?_)
              · refine y_iconst rfl ?_
                have w226 : Xi T11 904 106 = Xi T2 904 106 := (show Xi T11 904 106 = Xi U10 904 106 from w221.x _ _ rfl).trans ((show Xi U10 904 106 = Xi T2 904 106 from by rw [eU10]; exact Xi_ne (by omega)))
                have w227 : Xi T11 904 142 = Xi T2 904 142 := (show Xi T11 904 142 = Xi U10 904 142 from w221.x _ _ rfl).trans ((show Xi U10 904 142 = Xi T2 904 142 from by rw [eU10]; exact Xi_ne (by omega)))
                have w228 : Xi T11 904 15 = Xi T2 904 15 := (show Xi T11 904 15 = Xi U10 904 15 from w221.x _ _ rfl).trans ((show Xi U10 904 15 = Xi T2 904 15 from by rw [eU10]; exact Xi_ne (by omega)))
                have w229 : Xi T11 904 32 = Xi T2 904 32 := (show Xi T11 904 32 = Xi U10 904 32 from w221.x _ _ rfl).trans ((show Xi U10 904 32 = Xi T2 904 32 from by rw [eU10]; exact Xi_ne (by omega)))
                have w230 : Xi T11 904 71 = Xi T2 904 71 := (show Xi T11 904 71 = Xi U10 904 71 from w221.x _ _ rfl).trans ((show Xi U10 904 71 = Xi T2 904 71 from by rw [eU10]; exact Xi_ne (by omega)))
                have w231 : Xi T11 904 72 = Xi T2 904 72 := (show Xi T11 904 72 = Xi U10 904 72 from w221.x _ _ rfl).trans ((show Xi U10 904 72 = Xi T2 904 72 from by rw [eU10]; exact Xi_ne (by omega)))
                have w232 : Xi T11 904 75 = Xi T2 904 75 := (show Xi T11 904 75 = Xi U10 904 75 from w221.x _ _ rfl).trans ((show Xi U10 904 75 = Xi T2 904 75 from by rw [eU10]; exact Xi_ne (by omega)))
                have w233 : Xi T11 904 78 = Xi T2 904 78 := (show Xi T11 904 78 = Xi U10 904 78 from w221.x _ _ rfl).trans ((show Xi U10 904 78 = Xi T2 904 78 from by rw [eU10]; exact Xi_ne (by omega)))
                refine y_callV rfl rfl rfl (t_mo_tellRead__p hHT11 z74 (Xi T11 904 113) 0 ⟨by omega, by omega⟩ ⟨by omega, by omega⟩ ⟨by omega, by omega⟩ (fun j => by rw [(hFT11.cx 922 rfl j).1]; exact hct.o j) _) ?_
                rintro _ T12 ⟨hHT12, w235, z234, rfl, w234, o285⟩
                have hFT12 : FR md_mo_doFifteen__4f S T12 := FR.tr hFT11 w235 rfl
                show Pl _ _ _ _ _ _ [iv z234] _ _
                have O285 : Hid (∀ y : Int, y = z234 → RV1 S T2 T12 (v2.toNat) y) := fun y hy => ⟨_, F263, x263, by have t := o285; rw [e213, e263, ← hy] at t; unfold h15R; first | (rw [if_pos (by omega)]; exact t) | (rw [if_neg (by omega)]; exact t)⟩
                have T285 : Hid (TRD T11 T12 z234 (o15R S (v2.toNat)) (a15R S (o15R S (v2.toNat))) (h15R S)) := by have t := o285; rw [e213, e263] at t; unfold h15R; first | (rw [if_pos (by omega)]; exact t) | (rw [if_neg (by omega)]; exact t)
                clear o285
                have F285 := (by assumption : FR md_mo_tellRead__p T11 T12)
                have m285 : Hid (AMR S T12) := AMR_t m263.o (AMR_FR F285 rfl rfl)
                have k285 : Hid (∀ j, Xi T12 918 j = Xi S 918 j) := fun j => (F285.x 918 j rfl).trans (k263.o j)
                have z285 : Xi T12 904 106 = 0 := ((by assumption : FR md_mo_tellRead__p T11 T12).x 904 106 rfl).trans z263
                obtain ⟨zz, hzz⟩ : ∃ w : Int, w = z234 := ⟨_, rfl⟩
                refine y_if_ne rfl rfl (by unfold rg; omega) (fun w236 => ?_) (fun w237 => ?_)
                · refine y_iinc rfl rfl rfl rfl ?_
                  have R307 : Hid ((Xi T12 904 106 = 0 → RVC S (v2 + 1).toNat T12) ∧ (Xi T12 904 106 ≠ 0 → RVF S T12)) := by rw [show (v2 + 1).toNat = v2.toNat + 1 by omega]; first | (have t := K304; exact ⟨fun q => by omega, fun _ => ⟨v2.toNat, _, _, by omega, D205.o, O285.o 0 (by omega), Y304⟩⟩) | exact ⟨fun _ => ⟨_, D205.o, O285.o 1 (by omega)⟩, fun q => absurd z285 q⟩
                  have M307 : Hid (AMR S T12) := by first | (have t := K304; exact AMR_t m285.o (AMR_FR F304 rfl rfl)) | exact m285
                  have k307 : Hid (∀ j, Xi T12 918 j = Xi S 918 j) := by first | (have t := K304; exact fun j => (F304.x 918 j rfl).trans (k285.o j)) | exact k285
                  refine y_goto rfl rfl ?_
                  have w238 : Xi T12 904 106 = Xi T2 904 106 := (show Xi T12 904 106 = Xi T11 904 106 from w235.x _ _ rfl).trans ( (show Xi T11 904 106 = Xi U10 904 106 from w221.x _ _ rfl).trans ((show Xi U10 904 106 = Xi T2 904 106 from by rw [eU10]; exact Xi_ne (by omega))))
                  have w239 : Xi T12 904 142 = Xi T2 904 142 := (show Xi T12 904 142 = Xi T11 904 142 from w235.x _ _ rfl).trans ( (show Xi T11 904 142 = Xi U10 904 142 from w221.x _ _ rfl).trans ((show Xi U10 904 142 = Xi T2 904 142 from by rw [eU10]; exact Xi_ne (by omega))))
                  have w240 : Xi T12 904 15 = Xi T2 904 15 := (show Xi T12 904 15 = Xi T11 904 15 from w235.x _ _ rfl).trans ( (show Xi T11 904 15 = Xi U10 904 15 from w221.x _ _ rfl).trans ((show Xi U10 904 15 = Xi T2 904 15 from by rw [eU10]; exact Xi_ne (by omega))))
                  have w241 : Xi T12 904 32 = Xi T2 904 32 := (show Xi T12 904 32 = Xi T11 904 32 from w235.x _ _ rfl).trans ( (show Xi T11 904 32 = Xi U10 904 32 from w221.x _ _ rfl).trans ((show Xi U10 904 32 = Xi T2 904 32 from by rw [eU10]; exact Xi_ne (by omega))))
                  have w242 : Xi T12 904 71 = Xi T2 904 71 := (show Xi T12 904 71 = Xi T11 904 71 from w235.x _ _ rfl).trans ( (show Xi T11 904 71 = Xi U10 904 71 from w221.x _ _ rfl).trans ((show Xi U10 904 71 = Xi T2 904 71 from by rw [eU10]; exact Xi_ne (by omega))))
                  have w243 : Xi T12 904 72 = Xi T2 904 72 := (show Xi T12 904 72 = Xi T11 904 72 from w235.x _ _ rfl).trans ( (show Xi T11 904 72 = Xi U10 904 72 from w221.x _ _ rfl).trans ((show Xi U10 904 72 = Xi T2 904 72 from by rw [eU10]; exact Xi_ne (by omega))))
                  have w244 : Xi T12 904 75 = Xi T2 904 75 := (show Xi T12 904 75 = Xi T11 904 75 from w235.x _ _ rfl).trans ( (show Xi T11 904 75 = Xi U10 904 75 from w221.x _ _ rfl).trans ((show Xi U10 904 75 = Xi T2 904 75 from by rw [eU10]; exact Xi_ne (by omega))))
                  have w245 : Xi T12 904 78 = Xi T2 904 78 := (show Xi T12 904 78 = Xi T11 904 78 from w235.x _ _ rfl).trans ( (show Xi T11 904 78 = Xi U10 904 78 from w221.x _ _ rfl).trans ((show Xi U10 904 78 = Xi T2 904 78 from by rw [eU10]; exact Xi_ne (by omega))))
                  exact Pl_weak (ih190 (by omega) T12 hHT12 hFT12 (v1) ((v2 + 1)) (by omega) (by omega) (by omega) (by first | exact i190 | rfl) (by first | exact R307.o.1 | exact fun _ => rfl) (by first | exact R307.o.2 | exact fun q => absurd hz0 q) (by first | exact M307 | exact AMR.rf) (by first | exact k307 | exact fun _ => rfl) (by first | exact lsp_sm M307.o.1 hLS | exact hLS) (by first | exact lxr_sm M307.o.1 hLX | exact hLX) (by omega) (by omega) (by omega) (by omega) (by omega) (by omega) (by omega)) (by omega) (And.intro rfl (And.intro rfl (And.intro rfl (True.intro))))
                · refine y_aload_n rfl rfl ?_
                  refine y_iconst rfl ?_
                  refine y_aload_n rfl rfl ?_
                  refine y_gfr rfl rfl rfl rfl rfl (hHT12.r 904 67 950 rfl) ?_
                  refine y_aload_n rfl rfl ?_
                  refine y_gfi rfl rfl rfl rfl rfl ?_
                  have w246 : (Xi T12 904 71) = (Xi T2 904 71) := (show Xi T12 904 71 = Xi T11 904 71 from w235.x _ _ rfl).trans ( (show Xi T11 904 71 = Xi U10 904 71 from w221.x _ _ rfl).trans ((show Xi U10 904 71 = Xi T2 904 71 from by rw [eU10]; exact Xi_ne (by omega))))
                  rw [w246]
                  refine y_iload_n rfl rfl ?_
                  refine y_iadd rfl ?_
                  refine y_ialoadP (n := 2600) rfl rfl (by unfold rg; omega) (fun w247 w248 => ?_)
                  have w249 : -2147483648 ≤ (Xi T12 950 ((((Xi T2 904 71) + v2)).toNat)) ∧ (Xi T12 950 ((((Xi T2 904 71) + v2)).toNat)) ≤ 2147483647 := Xi_rgI
                  have w250 : Xi T12 904 106 = Xi T2 904 106 := (show Xi T12 904 106 = Xi T11 904 106 from w235.x _ _ rfl).trans ( (show Xi T11 904 106 = Xi U10 904 106 from w221.x _ _ rfl).trans ((show Xi U10 904 106 = Xi T2 904 106 from by rw [eU10]; exact Xi_ne (by omega))))
                  have w254 : Xi T12 904 71 = Xi T2 904 71 := (show Xi T12 904 71 = Xi T11 904 71 from w235.x _ _ rfl).trans ( (show Xi T11 904 71 = Xi U10 904 71 from w221.x _ _ rfl).trans ((show Xi U10 904 71 = Xi T2 904 71 from by rw [eU10]; exact Xi_ne (by omega))))
                  refine y_callV rfl rfl rfl (t_mo_wrong__p hHT12 5 (Xi T12 950 ((((Xi T2 904 71) + v2)).toNat)) ⟨by omega, by omega⟩ ⟨by omega, by omega⟩ _) ?_
                  rintro _ T13 ⟨hHT13, w260, rfl, w304, w258⟩
                  have hFT13 : FR md_mo_doFifteen__4f S T13 := FR.tr hFT12 w260 rfl
                  show Pl _ _ _ _ _ _ [] _ _
                  have K304 : True := trivial
                  have F304 := (by assumption : FR md_mo_wrong__p T12 T13)
                  have Y304 : NTB (NT3 T13) 5 (pR S (Xi S 904 71 + (v2.toNat))) := by have t := w304 z285; rw [m285.o.1.2.1 908 _ (by omega), m285.o.1.2.1 950 _ (by omega), show (Xi T2 904 71 + v2 : Int) = Xi S 904 71 + ((v2.toNat : Nat) : Int) by omega] at t; exact t
                  have x304 : Xi T13 904 106 = 5 := Y304.1
                  refine y_iinc rfl rfl rfl rfl ?_
                  have R307 : Hid ((Xi T13 904 106 = 0 → RVC S (v2 + 1).toNat T13) ∧ (Xi T13 904 106 ≠ 0 → RVF S T13)) := by rw [show (v2 + 1).toNat = v2.toNat + 1 by omega]; first | (have t := K304; exact ⟨fun q => by omega, fun _ => ⟨v2.toNat, _, _, by omega, D205.o, O285.o 0 (by omega), Y304⟩⟩) | exact ⟨fun _ => ⟨_, D205.o, O285.o 1 (by omega)⟩, fun q => absurd z285 q⟩
                  have M307 : Hid (AMR S T13) := by first | (have t := K304; exact AMR_t m285.o (AMR_FR F304 rfl rfl)) | exact m285
                  have k307 : Hid (∀ j, Xi T13 918 j = Xi S 918 j) := by first | (have t := K304; exact fun j => (F304.x 918 j rfl).trans (k285.o j)) | exact k285
                  refine y_goto rfl rfl ?_
                  have w261 : Xi T13 904 142 = Xi T2 904 142 := (show Xi T13 904 142 = Xi T12 904 142 from w260.x _ _ rfl).trans ( (show Xi T12 904 142 = Xi T11 904 142 from w235.x _ _ rfl).trans ( (show Xi T11 904 142 = Xi U10 904 142 from w221.x _ _ rfl).trans ((show Xi U10 904 142 = Xi T2 904 142 from by rw [eU10]; exact Xi_ne (by omega)))))
                  have w262 : Xi T13 904 15 = Xi T2 904 15 := (show Xi T13 904 15 = Xi T12 904 15 from w260.x _ _ rfl).trans ( (show Xi T12 904 15 = Xi T11 904 15 from w235.x _ _ rfl).trans ( (show Xi T11 904 15 = Xi U10 904 15 from w221.x _ _ rfl).trans ((show Xi U10 904 15 = Xi T2 904 15 from by rw [eU10]; exact Xi_ne (by omega)))))
                  have w263 : Xi T13 904 32 = Xi T2 904 32 := (show Xi T13 904 32 = Xi T12 904 32 from w260.x _ _ rfl).trans ( (show Xi T12 904 32 = Xi T11 904 32 from w235.x _ _ rfl).trans ( (show Xi T11 904 32 = Xi U10 904 32 from w221.x _ _ rfl).trans ((show Xi U10 904 32 = Xi T2 904 32 from by rw [eU10]; exact Xi_ne (by omega)))))
                  have w264 : Xi T13 904 71 = Xi T2 904 71 := (show Xi T13 904 71 = Xi T12 904 71 from w260.x _ _ rfl).trans ( (show Xi T12 904 71 = Xi T11 904 71 from w235.x _ _ rfl).trans ( (show Xi T11 904 71 = Xi U10 904 71 from w221.x _ _ rfl).trans ((show Xi U10 904 71 = Xi T2 904 71 from by rw [eU10]; exact Xi_ne (by omega)))))
                  have w265 : Xi T13 904 72 = Xi T2 904 72 := (show Xi T13 904 72 = Xi T12 904 72 from w260.x _ _ rfl).trans ( (show Xi T12 904 72 = Xi T11 904 72 from w235.x _ _ rfl).trans ( (show Xi T11 904 72 = Xi U10 904 72 from w221.x _ _ rfl).trans ((show Xi U10 904 72 = Xi T2 904 72 from by rw [eU10]; exact Xi_ne (by omega)))))
                  have w266 : Xi T13 904 75 = Xi T2 904 75 := (show Xi T13 904 75 = Xi T12 904 75 from w260.x _ _ rfl).trans ( (show Xi T12 904 75 = Xi T11 904 75 from w235.x _ _ rfl).trans ( (show Xi T11 904 75 = Xi U10 904 75 from w221.x _ _ rfl).trans ((show Xi U10 904 75 = Xi T2 904 75 from by rw [eU10]; exact Xi_ne (by omega)))))
                  have w267 : Xi T13 904 78 = Xi T2 904 78 := (show Xi T13 904 78 = Xi T12 904 78 from w260.x _ _ rfl).trans ( (show Xi T12 904 78 = Xi T11 904 78 from w235.x _ _ rfl).trans ( (show Xi T11 904 78 = Xi U10 904 78 from w221.x _ _ rfl).trans ((show Xi U10 904 78 = Xi T2 904 78 from by rw [eU10]; exact Xi_ne (by omega)))))
                  exact Pl_weak (ih190 (by omega) T13 hHT13 hFT13 (v1) ((v2 + 1)) (by omega) (by omega) (by omega) (by first | exact i190 | rfl) (by first | exact R307.o.1 | exact fun _ => rfl) (by first | exact R307.o.2 | exact fun q => absurd hz0 q) (by first | exact M307 | exact AMR.rf) (by first | exact k307 | exact fun _ => rfl) (by first | exact lsp_sm M307.o.1 hLS | exact hLS) (by first | exact lxr_sm M307.o.1 hLX | exact hLX) (by omega) (by omega) (by omega) (by omega) (by omega) (by omega) (by omega)) (by omega) (And.intro rfl (And.intro rfl (And.intro rfl (True.intro))))
              · exfalso; omega
            · refine y_iconst rfl ?_
              refine y_goto rfl rfl ?_
              have w268 : Xi U10 904 106 = Xi T2 904 106 := (show Xi U10 904 106 = Xi T2 904 106 from by rw [eU10]; exact Xi_ne (by omega))
              have w269 : Xi U10 904 142 = Xi T2 904 142 := (show Xi U10 904 142 = Xi T2 904 142 from by rw [eU10]; exact Xi_ne (by omega))
              have w270 : Xi U10 904 15 = Xi T2 904 15 := (show Xi U10 904 15 = Xi T2 904 15 from by rw [eU10]; exact Xi_ne (by omega))
              have w271 : Xi U10 904 32 = Xi T2 904 32 := (show Xi U10 904 32 = Xi T2 904 32 from by rw [eU10]; exact Xi_ne (by omega))
              have w272 : Xi U10 904 71 = Xi T2 904 71 := (show Xi U10 904 71 = Xi T2 904 71 from by rw [eU10]; exact Xi_ne (by omega))
              have w273 : Xi U10 904 72 = Xi T2 904 72 := (show Xi U10 904 72 = Xi T2 904 72 from by rw [eU10]; exact Xi_ne (by omega))
              have w274 : Xi U10 904 75 = Xi T2 904 75 := (show Xi U10 904 75 = Xi T2 904 75 from by rw [eU10]; exact Xi_ne (by omega))
              have w275 : Xi U10 904 78 = Xi T2 904 78 := (show Xi U10 904 78 = Xi T2 904 78 from by rw [eU10]; exact Xi_ne (by omega))
              refine y_callV rfl rfl rfl (t_mo_adjective__p hHU10 v1 (Xi U10 951 (((Xi T2 904 78)).toNat)) (Xi U10 918 ((z74).toNat)) 0 1 ⟨by omega, by omega⟩ ⟨by omega, by omega⟩ ⟨by omega, by omega⟩ ⟨by omega, by omega⟩ ⟨by omega, by omega⟩ (by first | assumption | exact (LSP_FR hFU10 rfl rfl (by assumption : LSP S))) (by first | assumption | omega) (by first | assumption | exact (LXR_FR hFU10 rfl rfl (by assumption : LXR S))) (by first | assumption | exact (ABV_FR hFU10 rfl (by assumption : ABV S))) (by first | assumption | omega) _) ?_
              rintro _ T14 ⟨hHT14, w277, z276, rfl, w276, f263, g263⟩
              have hFT14 : FR md_mo_doFifteen__4f S T14 := FR.tr hFU10 w277 rfl
              show Pl _ _ _ _ _ _ [iv z276] _ _
              have F263 : FR l15 T2 T14 := FR.tr F230 (by assumption : FR md_mo_adjective__p U10 T14) rfl
              have x263 : Xi T14 904 60 = (if (v2.toNat) = 0 then o15R S (v2.toNat) else Xi T2 904 60) := ((by assumption : FR md_mo_adjective__p U10 T14).x 904 60 rfl).trans x230
              have e263 : Xi T14 904 113 = a15R S (o15R S (v2.toNat)) := by have t := g263; rw [acR_am m230.o, i190, e243, e249] at t; unfold a15R h15R; first | (rw [if_pos (by omega)]; exact t) | (rw [if_neg (by omega)]; exact t)
              have m263 : Hid (AMR S T14) := AMR_t M4.o (AMR_FR F263 rfl rfl)
              have k263 : Hid (∀ j, Xi T14 918 j = Xi S 918 j) := fun j => (F263.x 918 j rfl).trans (K4.o j)
              have z263 : Xi T14 904 106 = 0 := ((by assumption : FR md_mo_adjective__p U10 T14).x 904 106 rfl).trans z230
              clear f263 g263
              refine y_pop rfl rfl ?_
              refine y_aload_n rfl rfl ?_
              refine y_iload_n rfl rfl ?_
              refine y_aload_n rfl rfl ?_
              refine y_gfi rfl rfl rfl rfl rfl ?_
              have w278 : -2147483648 ≤ (Xi T14 904 113) ∧ (Xi T14 904 113) ≤ 2147483647 := Xi_rgI
              refine y_aload_n rfl rfl ?_
              refine y_gfi rfl rfl rfl rfl rfl ?_
              have w279 : (Xi T14 904 75) = (Xi T2 904 75) := (show Xi T14 904 75 = Xi U10 904 75 from w277.x _ _ rfl).trans ((show Xi U10 904 75 = Xi T2 904 75 from by rw [eU10]; exact Xi_ne (by omega)))
              rw [w279]
              have e274 : (Xi T2 904 75) = Xi S 904 75 := by omega
              refine y_if_ne rfl rfl (by unfold rg; omega) (fun w280 => ?_) (fun w281 => ?_)
              · exfalso; omega
              · refine y_iconst rfl ?_
                refine y_goto rfl rfl ?_
                have w282 : Xi T14 904 106 = Xi T2 904 106 := (show Xi T14 904 106 = Xi U10 904 106 from w277.x _ _ rfl).trans ((show Xi U10 904 106 = Xi T2 904 106 from by rw [eU10]; exact Xi_ne (by omega)))
                have w283 : Xi T14 904 142 = Xi T2 904 142 := (show Xi T14 904 142 = Xi U10 904 142 from w277.x _ _ rfl).trans ((show Xi U10 904 142 = Xi T2 904 142 from by rw [eU10]; exact Xi_ne (by omega)))
                have w284 : Xi T14 904 15 = Xi T2 904 15 := (show Xi T14 904 15 = Xi U10 904 15 from w277.x _ _ rfl).trans ((show Xi U10 904 15 = Xi T2 904 15 from by rw [eU10]; exact Xi_ne (by omega)))
                have w285 : Xi T14 904 32 = Xi T2 904 32 := (show Xi T14 904 32 = Xi U10 904 32 from w277.x _ _ rfl).trans ((show Xi U10 904 32 = Xi T2 904 32 from by rw [eU10]; exact Xi_ne (by omega)))
                have w286 : Xi T14 904 71 = Xi T2 904 71 := (show Xi T14 904 71 = Xi U10 904 71 from w277.x _ _ rfl).trans ((show Xi U10 904 71 = Xi T2 904 71 from by rw [eU10]; exact Xi_ne (by omega)))
                have w287 : Xi T14 904 72 = Xi T2 904 72 := (show Xi T14 904 72 = Xi U10 904 72 from w277.x _ _ rfl).trans ((show Xi U10 904 72 = Xi T2 904 72 from by rw [eU10]; exact Xi_ne (by omega)))
                have w288 : Xi T14 904 75 = Xi T2 904 75 := (show Xi T14 904 75 = Xi U10 904 75 from w277.x _ _ rfl).trans ((show Xi U10 904 75 = Xi T2 904 75 from by rw [eU10]; exact Xi_ne (by omega)))
                have w289 : Xi T14 904 78 = Xi T2 904 78 := (show Xi T14 904 78 = Xi U10 904 78 from w277.x _ _ rfl).trans ((show Xi U10 904 78 = Xi T2 904 78 from by rw [eU10]; exact Xi_ne (by omega)))
                refine y_callV rfl rfl rfl (t_mo_tellRead__p hHT14 z74 (Xi T14 904 113) 1 ⟨by omega, by omega⟩ ⟨by omega, by omega⟩ ⟨by omega, by omega⟩ (fun j => by rw [(hFT14.cx 922 rfl j).1]; exact hct.o j) _) ?_
                rintro _ T15 ⟨hHT15, w291, z290, rfl, w290, o285⟩
                have hFT15 : FR md_mo_doFifteen__4f S T15 := FR.tr hFT14 w291 rfl
                show Pl _ _ _ _ _ _ [iv z290] _ _
                have O285 : Hid (∀ y : Int, y = z290 → RV1 S T2 T15 (v2.toNat) y) := fun y hy => ⟨_, F263, x263, by have t := o285; rw [e213, e263, ← hy] at t; unfold h15R; first | (rw [if_pos (by omega)]; exact t) | (rw [if_neg (by omega)]; exact t)⟩
                have T285 : Hid (TRD T14 T15 z290 (o15R S (v2.toNat)) (a15R S (o15R S (v2.toNat))) (h15R S)) := by have t := o285; rw [e213, e263] at t; unfold h15R; first | (rw [if_pos (by omega)]; exact t) | (rw [if_neg (by omega)]; exact t)
                clear o285
                have F285 := (by assumption : FR md_mo_tellRead__p T14 T15)
                have m285 : Hid (AMR S T15) := AMR_t m263.o (AMR_FR F285 rfl rfl)
                have k285 : Hid (∀ j, Xi T15 918 j = Xi S 918 j) := fun j => (F285.x 918 j rfl).trans (k263.o j)
                have z285 : Xi T15 904 106 = 0 := ((by assumption : FR md_mo_tellRead__p T14 T15).x 904 106 rfl).trans z263
                obtain ⟨zz, hzz⟩ : ∃ w : Int, w = z290 := ⟨_, rfl⟩
                refine y_if_ne rfl rfl (by unfold rg; omega) (fun w292 => ?_) (fun w293 => ?_)
                · refine y_iinc rfl rfl rfl rfl ?_
                  have R307 : Hid ((Xi T15 904 106 = 0 → RVC S (v2 + 1).toNat T15) ∧ (Xi T15 904 106 ≠ 0 → RVF S T15)) := by rw [show (v2 + 1).toNat = v2.toNat + 1 by omega]; first | (have t := K304; exact ⟨fun q => by omega, fun _ => ⟨v2.toNat, _, _, by omega, D205.o, O285.o 0 (by omega), Y304⟩⟩) | exact ⟨fun _ => ⟨_, D205.o, O285.o 1 (by omega)⟩, fun q => absurd z285 q⟩
                  have M307 : Hid (AMR S T15) := by first | (have t := K304; exact AMR_t m285.o (AMR_FR F304 rfl rfl)) | exact m285
                  have k307 : Hid (∀ j, Xi T15 918 j = Xi S 918 j) := by first | (have t := K304; exact fun j => (F304.x 918 j rfl).trans (k285.o j)) | exact k285
                  refine y_goto rfl rfl ?_
                  have w294 : Xi T15 904 106 = Xi T2 904 106 := (show Xi T15 904 106 = Xi T14 904 106 from w291.x _ _ rfl).trans ( (show Xi T14 904 106 = Xi U10 904 106 from w277.x _ _ rfl).trans ((show Xi U10 904 106 = Xi T2 904 106 from by rw [eU10]; exact Xi_ne (by omega))))
                  have w295 : Xi T15 904 142 = Xi T2 904 142 := (show Xi T15 904 142 = Xi T14 904 142 from w291.x _ _ rfl).trans ( (show Xi T14 904 142 = Xi U10 904 142 from w277.x _ _ rfl).trans ((show Xi U10 904 142 = Xi T2 904 142 from by rw [eU10]; exact Xi_ne (by omega))))
                  have w296 : Xi T15 904 15 = Xi T2 904 15 := (show Xi T15 904 15 = Xi T14 904 15 from w291.x _ _ rfl).trans ( (show Xi T14 904 15 = Xi U10 904 15 from w277.x _ _ rfl).trans ((show Xi U10 904 15 = Xi T2 904 15 from by rw [eU10]; exact Xi_ne (by omega))))
                  have w297 : Xi T15 904 32 = Xi T2 904 32 := (show Xi T15 904 32 = Xi T14 904 32 from w291.x _ _ rfl).trans ( (show Xi T14 904 32 = Xi U10 904 32 from w277.x _ _ rfl).trans ((show Xi U10 904 32 = Xi T2 904 32 from by rw [eU10]; exact Xi_ne (by omega))))
                  have w298 : Xi T15 904 71 = Xi T2 904 71 := (show Xi T15 904 71 = Xi T14 904 71 from w291.x _ _ rfl).trans ( (show Xi T14 904 71 = Xi U10 904 71 from w277.x _ _ rfl).trans ((show Xi U10 904 71 = Xi T2 904 71 from by rw [eU10]; exact Xi_ne (by omega))))
                  have w299 : Xi T15 904 72 = Xi T2 904 72 := (show Xi T15 904 72 = Xi T14 904 72 from w291.x _ _ rfl).trans ( (show Xi T14 904 72 = Xi U10 904 72 from w277.x _ _ rfl).trans ((show Xi U10 904 72 = Xi T2 904 72 from by rw [eU10]; exact Xi_ne (by omega))))
                  have w300 : Xi T15 904 75 = Xi T2 904 75 := (show Xi T15 904 75 = Xi T14 904 75 from w291.x _ _ rfl).trans ( (show Xi T14 904 75 = Xi U10 904 75 from w277.x _ _ rfl).trans ((show Xi U10 904 75 = Xi T2 904 75 from by rw [eU10]; exact Xi_ne (by omega))))
                  have w301 : Xi T15 904 78 = Xi T2 904 78 := (show Xi T15 904 78 = Xi T14 904 78 from w291.x _ _ rfl).trans ( (show Xi T14 904 78 = Xi U10 904 78 from w277.x _ _ rfl).trans ((show Xi U10 904 78 = Xi T2 904 78 from by rw [eU10]; exact Xi_ne (by omega))))
                  exact Pl_weak (ih190 (by omega) T15 hHT15 hFT15 (v1) ((v2 + 1)) (by omega) (by omega) (by omega) (by first | exact i190 | rfl) (by first | exact R307.o.1 | exact fun _ => rfl) (by first | exact R307.o.2 | exact fun q => absurd hz0 q) (by first | exact M307 | exact AMR.rf) (by first | exact k307 | exact fun _ => rfl) (by first | exact lsp_sm M307.o.1 hLS | exact hLS) (by first | exact lxr_sm M307.o.1 hLX | exact hLX) (by omega) (by omega) (by omega) (by omega) (by omega) (by omega) (by omega)) (by omega) (And.intro rfl (And.intro rfl (And.intro rfl (True.intro))))
                · refine y_aload_n rfl rfl ?_
                  refine y_iconst rfl ?_
                  refine y_aload_n rfl rfl ?_
                  refine y_gfr rfl rfl rfl rfl rfl (hHT15.r 904 67 950 rfl) ?_
                  refine y_aload_n rfl rfl ?_
                  refine y_gfi rfl rfl rfl rfl rfl ?_
                  have w302 : (Xi T15 904 71) = (Xi T2 904 71) := (show Xi T15 904 71 = Xi T14 904 71 from w291.x _ _ rfl).trans ( (show Xi T14 904 71 = Xi U10 904 71 from w277.x _ _ rfl).trans ((show Xi U10 904 71 = Xi T2 904 71 from by rw [eU10]; exact Xi_ne (by omega))))
                  rw [w302]
                  refine y_iload_n rfl rfl ?_
                  refine y_iadd rfl ?_
                  refine y_ialoadP (n := 2600) rfl rfl (by unfold rg; omega) (fun w303 w304 => ?_)
                  have w305 : -2147483648 ≤ (Xi T15 950 ((((Xi T2 904 71) + v2)).toNat)) ∧ (Xi T15 950 ((((Xi T2 904 71) + v2)).toNat)) ≤ 2147483647 := Xi_rgI
                  have w306 : Xi T15 904 106 = Xi T2 904 106 := (show Xi T15 904 106 = Xi T14 904 106 from w291.x _ _ rfl).trans ( (show Xi T14 904 106 = Xi U10 904 106 from w277.x _ _ rfl).trans ((show Xi U10 904 106 = Xi T2 904 106 from by rw [eU10]; exact Xi_ne (by omega))))
                  have w310 : Xi T15 904 71 = Xi T2 904 71 := (show Xi T15 904 71 = Xi T14 904 71 from w291.x _ _ rfl).trans ( (show Xi T14 904 71 = Xi U10 904 71 from w277.x _ _ rfl).trans ((show Xi U10 904 71 = Xi T2 904 71 from by rw [eU10]; exact Xi_ne (by omega))))
                  refine y_callV rfl rfl rfl (t_mo_wrong__p hHT15 5 (Xi T15 950 ((((Xi T2 904 71) + v2)).toNat)) ⟨by omega, by omega⟩ ⟨by omega, by omega⟩ _) ?_
                  rintro _ T16 ⟨hHT16, w316, rfl, w304, w314⟩
                  have hFT16 : FR md_mo_doFifteen__4f S T16 := FR.tr hFT15 w316 rfl
                  show Pl _ _ _ _ _ _ [] _ _
                  have K304 : True := trivial
                  have F304 := (by assumption : FR md_mo_wrong__p T15 T16)
                  have Y304 : NTB (NT3 T16) 5 (pR S (Xi S 904 71 + (v2.toNat))) := by have t := w304 z285; rw [m285.o.1.2.1 908 _ (by omega), m285.o.1.2.1 950 _ (by omega), show (Xi T2 904 71 + v2 : Int) = Xi S 904 71 + ((v2.toNat : Nat) : Int) by omega] at t; exact t
                  have x304 : Xi T16 904 106 = 5 := Y304.1
                  refine y_iinc rfl rfl rfl rfl ?_
                  have R307 : Hid ((Xi T16 904 106 = 0 → RVC S (v2 + 1).toNat T16) ∧ (Xi T16 904 106 ≠ 0 → RVF S T16)) := by rw [show (v2 + 1).toNat = v2.toNat + 1 by omega]; first | (have t := K304; exact ⟨fun q => by omega, fun _ => ⟨v2.toNat, _, _, by omega, D205.o, O285.o 0 (by omega), Y304⟩⟩) | exact ⟨fun _ => ⟨_, D205.o, O285.o 1 (by omega)⟩, fun q => absurd z285 q⟩
                  have M307 : Hid (AMR S T16) := by first | (have t := K304; exact AMR_t m285.o (AMR_FR F304 rfl rfl)) | exact m285
                  have k307 : Hid (∀ j, Xi T16 918 j = Xi S 918 j) := by first | (have t := K304; exact fun j => (F304.x 918 j rfl).trans (k285.o j)) | exact k285
                  refine y_goto rfl rfl ?_
                  have w317 : Xi T16 904 142 = Xi T2 904 142 := (show Xi T16 904 142 = Xi T15 904 142 from w316.x _ _ rfl).trans ( (show Xi T15 904 142 = Xi T14 904 142 from w291.x _ _ rfl).trans ( (show Xi T14 904 142 = Xi U10 904 142 from w277.x _ _ rfl).trans ((show Xi U10 904 142 = Xi T2 904 142 from by rw [eU10]; exact Xi_ne (by omega)))))
                  have w318 : Xi T16 904 15 = Xi T2 904 15 := (show Xi T16 904 15 = Xi T15 904 15 from w316.x _ _ rfl).trans ( (show Xi T15 904 15 = Xi T14 904 15 from w291.x _ _ rfl).trans ( (show Xi T14 904 15 = Xi U10 904 15 from w277.x _ _ rfl).trans ((show Xi U10 904 15 = Xi T2 904 15 from by rw [eU10]; exact Xi_ne (by omega)))))
                  have w319 : Xi T16 904 32 = Xi T2 904 32 := (show Xi T16 904 32 = Xi T15 904 32 from w316.x _ _ rfl).trans ( (show Xi T15 904 32 = Xi T14 904 32 from w291.x _ _ rfl).trans ( (show Xi T14 904 32 = Xi U10 904 32 from w277.x _ _ rfl).trans ((show Xi U10 904 32 = Xi T2 904 32 from by rw [eU10]; exact Xi_ne (by omega)))))
                  have w320 : Xi T16 904 71 = Xi T2 904 71 := (show Xi T16 904 71 = Xi T15 904 71 from w316.x _ _ rfl).trans ( (show Xi T15 904 71 = Xi T14 904 71 from w291.x _ _ rfl).trans ( (show Xi T14 904 71 = Xi U10 904 71 from w277.x _ _ rfl).trans ((show Xi U10 904 71 = Xi T2 904 71 from by rw [eU10]; exact Xi_ne (by omega)))))
                  have w321 : Xi T16 904 72 = Xi T2 904 72 := (show Xi T16 904 72 = Xi T15 904 72 from w316.x _ _ rfl).trans ( (show Xi T15 904 72 = Xi T14 904 72 from w291.x _ _ rfl).trans ( (show Xi T14 904 72 = Xi U10 904 72 from w277.x _ _ rfl).trans ((show Xi U10 904 72 = Xi T2 904 72 from by rw [eU10]; exact Xi_ne (by omega)))))
                  have w322 : Xi T16 904 75 = Xi T2 904 75 := (show Xi T16 904 75 = Xi T15 904 75 from w316.x _ _ rfl).trans ( (show Xi T15 904 75 = Xi T14 904 75 from w291.x _ _ rfl).trans ( (show Xi T14 904 75 = Xi U10 904 75 from w277.x _ _ rfl).trans ((show Xi U10 904 75 = Xi T2 904 75 from by rw [eU10]; exact Xi_ne (by omega)))))
                  have w323 : Xi T16 904 78 = Xi T2 904 78 := (show Xi T16 904 78 = Xi T15 904 78 from w316.x _ _ rfl).trans ( (show Xi T15 904 78 = Xi T14 904 78 from w291.x _ _ rfl).trans ( (show Xi T14 904 78 = Xi U10 904 78 from w277.x _ _ rfl).trans ((show Xi U10 904 78 = Xi T2 904 78 from by rw [eU10]; exact Xi_ne (by omega)))))
                  exact Pl_weak (ih190 (by omega) T16 hHT16 hFT16 (v1) ((v2 + 1)) (by omega) (by omega) (by omega) (by first | exact i190 | rfl) (by first | exact R307.o.1 | exact fun _ => rfl) (by first | exact R307.o.2 | exact fun q => absurd hz0 q) (by first | exact M307 | exact AMR.rf) (by first | exact k307 | exact fun _ => rfl) (by first | exact lsp_sm M307.o.1 hLS | exact hLS) (by first | exact lxr_sm M307.o.1 hLX | exact hLX) (by omega) (by omega) (by omega) (by omega) (by omega) (by omega) (by omega)) (by omega) (And.intro rfl (And.intro rfl (And.intro rfl (True.intro))))
  refine y_aload_n rfl rfl ?_
  refine y_gfr rfl rfl rfl rfl rfl (hH.r 904 67 950 rfl) ?_
  refine y_aload_n rfl rfl ?_
  refine y_gfi rfl rfl rfl rfl rfl ?_
  refine y_ialoadP (n := 2600) rfl rfl (by unfold rg; omega) (fun w324 w325 => ?_)
  have w326 : -2147483648 ≤ (Xi S 950 (((Xi S 904 78)).toNat)) ∧ (Xi S 950 (((Xi S 904 78)).toNat)) ≤ 2147483647 := Xi_rgI
  refine y_istore_n rfl rfl rfl ?_
  refine y_aload_n rfl rfl ?_
  refine y_gfi rfl rfl rfl rfl rfl ?_
  refine y_iconst rfl ?_
  refine y_icmp_ne rfl rfl (by unfold rg; omega) (by unfold rg; omega) (fun w327 => ?_) (fun w328 => ?_)
  · refine y_aload_n rfl rfl ?_
    refine y_gfi rfl rfl rfl rfl rfl ?_
    refine y_iconst rfl ?_
    refine y_icmp_ne rfl rfl (by unfold rg; omega) (by unfold rg; omega) (fun w329 => ?_) (fun w330 => ?_)
    · refine y_aload_n rfl rfl ?_
      refine y_gfi rfl rfl rfl rfl rfl ?_
      refine y_iconst rfl ?_
      refine y_icmp_ne rfl rfl (by unfold rg; omega) (by unfold rg; omega) (fun w331 => ?_) (fun w332 => ?_)
      · refine y_iconst rfl ?_
        refine y_istore_n rfl rfl rfl ?_
        exact Pl_weak (C190 fu (by omega) S hH hF ((Xi S 950 (((Xi S 904 78)).toNat))) (0) (by omega) (by omega) (by omega) (by first | exact i190 | rfl) (by first | exact R307.o.1 | exact fun _ => rfl) (by first | exact R307.o.2 | exact fun q => absurd hz0 q) (by first | exact M307 | exact AMR.rf) (by first | exact k307 | exact fun _ => rfl) (by first | exact lsp_sm M307.o.1 hLS | exact hLS) (by first | exact lxr_sm M307.o.1 hLX | exact hLX) (by omega) (by omega) (by omega) (by omega) (by omega) (by omega) (by omega)) (by omega) (And.intro rfl (And.intro rfl (And.intro rfl (True.intro))))
      · exfalso; omega
    · exfalso; omega
  · exfalso; omega
def md_mo_does__0f : List rec := [(904, 905, 105, 106), (904, 905, 106, 107), (930, 931, 0, 100000), (931, 932, 0, 100000), (932, 933, 0, 100000)]
abbrev Q_mo_does__0f (S : sS) (first : Int) : pst := fun r S1 => RI S1 ∧ FR md_mo_does__0f S S1 ∧ (r = none)
set_option maxRecDepth 100000 in
theorem t_mo_does__0f {S : sS} (hH : RI S) (first : Int) (hfirst : 0 ≤ first ∧ first ≤ 5001) (hs : Xi S 904 70 = 0) (hz0 : Xi S 904 106 = 0) (h60 : 0 ≤ Xi S 904 60 ∧ Xi S 904 60 ≤ 23) (h8 : -1 ≤ Xi S 908 (Xi S 904 81).toNat ∧ Xi S 908 (Xi S 904 81).toNat ≤ 100000) (d : Nat) : Mp lay0 (d + 8) m_mo_does [.ref 904, iv first] S (Q_mo_does__0f S first) := by
  refine Mp_R rfl rfl (fun fu => ?_)
  have hF : FR md_mo_does__0f S S := FR.rf
  have w1 : -2147483648 ≤ Xi S 904 106 ∧ Xi S 904 106 ≤ 2147483647 := Xi_rgI
  have w2 : -2147483648 ≤ Xi S 904 60 ∧ Xi S 904 60 ≤ 2147483647 := Xi_rgI
  have w3 : -2147483648 ≤ Xi S 904 70 ∧ Xi S 904 70 ≤ 2147483647 := Xi_rgI
  have w4 : -2147483648 ≤ Xi S 904 81 ∧ Xi S 904 81 ≤ 2147483647 := Xi_rgI
  have C300 : ∀ (n300 : Nat) (_ : n300 ≤ fu) (T1 : sS) (_ : RI T1) (_ : FR md_mo_does__0f S T1) (v2 : Int), (-2147483648 ≤ v2 ∧ v2 ≤ 2147483647) → ((1 : Int) = 0) → Pl n300 lay0 (d + 7) m_mo_does 300 [(0, .ref 904), (2, iv v2)] [] T1 (Q_mo_does__0f S first) := by
    intro n300
    induction n300 with
    | zero => intros; exact Pl_0
    | succ n300 ih300 =>
      intro hm300 T1 hHT1 hFT1 v2 w5 w6
      have w7 : Xi T1 904 110 = Xi S 904 110 := hFT1.x _ _ rfl
      have w8 : Xi T1 904 112 = Xi S 904 112 := hFT1.x _ _ rfl
      have w9 : Xi T1 904 117 = Xi S 904 117 := hFT1.x _ _ rfl
      have w10 : Xi T1 904 142 = Xi S 904 142 := hFT1.x _ _ rfl
      have w11 : Xi T1 904 15 = Xi S 904 15 := hFT1.x _ _ rfl
      have w12 : Xi T1 904 16 = Xi S 904 16 := hFT1.x _ _ rfl
      have w13 : Xi T1 904 18 = Xi S 904 18 := hFT1.x _ _ rfl
      have w14 : Xi T1 904 19 = Xi S 904 19 := hFT1.x _ _ rfl
      have w15 : Xi T1 904 23 = Xi S 904 23 := hFT1.x _ _ rfl
      have w16 : Xi T1 904 30 = Xi S 904 30 := hFT1.x _ _ rfl
      have w17 : Xi T1 904 32 = Xi S 904 32 := hFT1.x _ _ rfl
      have w18 : Xi T1 904 49 = Xi S 904 49 := hFT1.x _ _ rfl
      have w19 : Xi T1 904 55 = Xi S 904 55 := hFT1.x _ _ rfl
      have w20 : Xi T1 904 60 = Xi S 904 60 := hFT1.x _ _ rfl
      have w21 : Xi T1 904 69 = Xi S 904 69 := hFT1.x _ _ rfl
      have w22 : Xi T1 904 70 = Xi S 904 70 := hFT1.x _ _ rfl
      have w23 : Xi T1 904 71 = Xi S 904 71 := hFT1.x _ _ rfl
      have w24 : Xi T1 904 72 = Xi S 904 72 := hFT1.x _ _ rfl
      have w25 : Xi T1 904 73 = Xi S 904 73 := hFT1.x _ _ rfl
      have w26 : Xi T1 904 74 = Xi S 904 74 := hFT1.x _ _ rfl
      have w27 : Xi T1 904 78 = Xi S 904 78 := hFT1.x _ _ rfl
      have w28 : Xi T1 904 81 = Xi S 904 81 := hFT1.x _ _ rfl
      have w29 : Xi T1 904 94 = Xi S 904 94 := hFT1.x _ _ rfl
      have w30 : Xi T1 951 1 = Xi S 951 1 := hFT1.x _ _ rfl
      have w31 : Xi T1 951 2 = Xi S 951 2 := hFT1.x _ _ rfl
      have w32 : Xi T1 967 0 = Xi S 967 0 := hFT1.x _ _ rfl
      have w33 : -2147483648 ≤ Xi T1 904 106 ∧ Xi T1 904 106 ≤ 2147483647 := Xi_rgI
      have w34 : -2147483648 ≤ Xi T1 904 60 ∧ Xi T1 904 60 ≤ 2147483647 := Xi_rgI
      have w35 : -2147483648 ≤ Xi T1 904 70 ∧ Xi T1 904 70 ≤ 2147483647 := Xi_rgI
      exfalso; omega
  refine y_aload_n rfl rfl ?_
  refine y_gfi rfl rfl rfl rfl rfl ?_
  refine y_tsw rfl rfl rfl rfl (by unfold rg; omega) (fun w36 => ?_) (fun ii tt hii w36 => ?_)
  · refine y_return rfl rfl ?_
    exact ⟨hH, hF, rfl⟩
  · match ii, hii with
    | 0, hii =>
      cases hii
      have w37 : (Xi S 904 70) = 0 := by simpa using w36
      refine y_aload_n rfl rfl ?_
      refine y_aload_n rfl rfl ?_
      refine y_gfi rfl rfl rfl rfl rfl ?_
      refine y_iconst rfl ?_
      refine y_aload_n rfl rfl ?_
      refine y_gfr rfl rfl rfl rfl rfl (hH.r 904 5 908 rfl) ?_
      refine y_aload_n rfl rfl ?_
      refine y_gfi rfl rfl rfl rfl rfl ?_
      refine y_ialoadP (n := 5002) rfl rfl (by unfold rg; omega) (fun w38 w39 => ?_)
      have w40 : -2147483648 ≤ (Xi S 908 (((Xi S 904 81)).toNat)) ∧ (Xi S 908 (((Xi S 904 81)).toNat)) ≤ 2147483647 := Xi_rgI
      refine y_iconst rfl ?_
      refine y_iadd rfl ?_
      refine y_aload_n rfl rfl ?_
      refine y_gfr rfl rfl rfl rfl rfl (hH.r 904 6 909 rfl) ?_
      refine y_aload_n rfl rfl ?_
      refine y_gfi rfl rfl rfl rfl rfl ?_
      refine y_ialoadP (n := 5002) rfl rfl (by unfold rg; omega) (fun w41 w42 => ?_)
      have w43 : -2147483648 ≤ (Xi S 909 (((Xi S 904 81)).toNat)) ∧ (Xi S 909 (((Xi S 904 81)).toNat)) ≤ 2147483647 := Xi_rgI
      refine y_callV rfl rfl rfl (t_mo_tellObject__p hH (Xi S 904 60) 0 ((Xi S 908 (((Xi S 904 81)).toNat)) + 1) (Xi S 909 (((Xi S 904 81)).toNat)) ⟨by omega, by omega⟩ ⟨by omega, by omega⟩ ⟨by omega, by omega⟩ ⟨by omega, by omega⟩ _) ?_
      rintro _ T2 ⟨hHT2, w45, z44, rfl, w44, o130⟩
      have hFT2 : FR md_mo_does__0f S T2 := FR.tr hF w45 rfl
      show Pl _ _ _ _ _ _ [iv z44] _ _
      have K130 : True := trivial
      have F130 := (by assumption : FR md_mo_tellObject__p S T2)
      have O130 := Hid.i o130
      clear o130
      refine y_if_ne rfl rfl (by unfold rg; omega) (fun w46 => ?_) (fun w47 => ?_)
      · refine y_return rfl rfl ?_
        exact ⟨hHT2, hFT2, rfl⟩
      · refine y_aload_n rfl rfl ?_
        refine y_iconst rfl ?_
        refine y_iload_n rfl rfl ?_
        have w51 : Xi T2 904 106 = Xi S 904 106 := (show Xi T2 904 106 = Xi S 904 106 from w45.x _ _ rfl)
        refine y_callV rfl rfl rfl (t_mo_wrong__p hHT2 5 first ⟨by omega, by omega⟩ ⟨by omega, by omega⟩ _) ?_
        rintro _ T3 ⟨hHT3, w56, rfl, w139, w54⟩
        have hFT3 : FR md_mo_does__0f S T3 := FR.tr hFT2 w56 rfl
        show Pl _ _ _ _ _ _ [] _ _
        have Y139 : NTB (NT3 T3) 5 (Xi S 908 first.toNat) := by have t := w139 ((F130.x 904 106 rfl).trans hz0); rw [(hFT2.cx 908 rfl _).1] at t; exact t
        refine y_goto rfl rfl ?_
        refine y_return rfl rfl ?_
        exact ⟨hHT3, hFT3, rfl⟩
    | 1, hii =>
      cases hii
      have w59 : (Xi S 904 70) = 1 := by simpa using w36
      exfalso; omega
    | 2, hii =>
      cases hii
      have w60 : (Xi S 904 70) = 2 := by simpa using w36
      exfalso; omega
    | 3, hii =>
      cases hii
      have w61 : (Xi S 904 70) = 3 := by simpa using w36
      refine y_return rfl rfl ?_
      exact ⟨hH, hF, rfl⟩
    | 4, hii =>
      cases hii
      have w62 : (Xi S 904 70) = 4 := by simpa using w36
      refine y_return rfl rfl ?_
      exact ⟨hH, hF, rfl⟩
    | 5, hii =>
      cases hii
      have w63 : (Xi S 904 70) = 5 := by simpa using w36
      refine y_return rfl rfl ?_
      exact ⟨hH, hF, rfl⟩
    | 6, hii =>
      cases hii
      have w64 : (Xi S 904 70) = 6 := by simpa using w36
      refine y_return rfl rfl ?_
      exact ⟨hH, hF, rfl⟩
    | 7, hii =>
      cases hii
      have w65 : (Xi S 904 70) = 7 := by simpa using w36
      exfalso; omega
    | 8, hii =>
      cases hii
      have w66 : (Xi S 904 70) = 8 := by simpa using w36
      exfalso; omega
    | 9, hii =>
      cases hii
      have w67 : (Xi S 904 70) = 9 := by simpa using w36
      exfalso; omega
    | 10, hii =>
      cases hii
      have w68 : (Xi S 904 70) = 10 := by simpa using w36
      exfalso; omega
    | 11, hii =>
      cases hii
      have w69 : (Xi S 904 70) = 11 := by simpa using w36
      exfalso; omega
    | 12, hii =>
      cases hii
      have w70 : (Xi S 904 70) = 12 := by simpa using w36
      exfalso; omega
    | 13, hii =>
      cases hii
      have w71 : (Xi S 904 70) = 13 := by simpa using w36
      exfalso; omega
    | 14, hii =>
      cases hii
      have w72 : (Xi S 904 70) = 14 := by simpa using w36
      exfalso; omega
    | 15, hii =>
      cases hii
      have w73 : (Xi S 904 70) = 15 := by simpa using w36
      exfalso; omega
    | 16, hii =>
      cases hii
      have w74 : (Xi S 904 70) = 16 := by simpa using w36
      exfalso; omega
    | 17, hii =>
      cases hii
      have w75 : (Xi S 904 70) = 17 := by simpa using w36
      exfalso; omega
    | 18, hii =>
      cases hii
      have w76 : (Xi S 904 70) = 18 := by simpa using w36
      exfalso; omega
    | 19, hii =>
      cases hii
      have w77 : (Xi S 904 70) = 19 := by simpa using w36
      exfalso; omega
    | 20, hii =>
      cases hii
      have w78 : (Xi S 904 70) = 20 := by simpa using w36
      exfalso; omega
    | n + 21, hii => exact absurd hii (by simp)
def md_mo_does__1f : List rec := [(904, 905, 55, 56), (946, 947, 0, 100000), (947, 948, 0, 100000), (948, 949, 0, 100000), (949, 950, 0, 100000)]
abbrev Q_mo_does__1f (S : sS) (first : Int) : pst := fun r S1 => RI S1 ∧ FR md_mo_does__1f S S1 ∧ (r = none)
set_option maxRecDepth 100000 in
theorem t_mo_does__1f {S : sS} (hH : RI S) (first : Int) (hfirst : 0 ≤ first ∧ first ≤ 5001) (hLS : LSP S) (h15 : 0 ≤ Xi S 904 15) (hRB : RBD S) (h55 : 0 ≤ Xi S 904 55 ∧ Xi S 904 55 ≤ 19) (hs : Xi S 904 70 = 1) (d : Nat) : Mp lay0 (d + 8) m_mo_does [.ref 904, iv first] S (Q_mo_does__1f S first) := by
  refine Mp_R rfl rfl (fun fu => ?_)
  have hF : FR md_mo_does__1f S S := FR.rf
  have w1 : -2147483648 ≤ Xi S 904 106 ∧ Xi S 904 106 ≤ 2147483647 := Xi_rgI
  have w2 : -2147483648 ≤ Xi S 904 15 ∧ Xi S 904 15 ≤ 2147483647 := Xi_rgI
  have w3 : -2147483648 ≤ Xi S 904 151 ∧ Xi S 904 151 ≤ 2147483647 := Xi_rgI
  have w4 : -2147483648 ≤ Xi S 904 153 ∧ Xi S 904 153 ≤ 2147483647 := Xi_rgI
  have w5 : -2147483648 ≤ Xi S 904 55 ∧ Xi S 904 55 ≤ 2147483647 := Xi_rgI
  have w6 : -2147483648 ≤ Xi S 904 70 ∧ Xi S 904 70 ≤ 2147483647 := Xi_rgI
  have C300 : ∀ (n300 : Nat) (_ : n300 ≤ fu) (T1 : sS) (_ : RI T1) (_ : FR md_mo_does__1f S T1) (v2 : Int), (-2147483648 ≤ v2 ∧ v2 ≤ 2147483647) → ((1 : Int) = 0) → Pl n300 lay0 (d + 7) m_mo_does 300 [(0, .ref 904), (2, iv v2)] [] T1 (Q_mo_does__1f S first) := by
    intro n300
    induction n300 with
    | zero => intros; exact Pl_0
    | succ n300 ih300 =>
      intro hm300 T1 hHT1 hFT1 v2 w7 w8
      have w9 : Xi T1 904 106 = Xi S 904 106 := hFT1.x _ _ rfl
      have w10 : Xi T1 904 110 = Xi S 904 110 := hFT1.x _ _ rfl
      have w11 : Xi T1 904 112 = Xi S 904 112 := hFT1.x _ _ rfl
      have w12 : Xi T1 904 117 = Xi S 904 117 := hFT1.x _ _ rfl
      have w13 : Xi T1 904 142 = Xi S 904 142 := hFT1.x _ _ rfl
      have w14 : Xi T1 904 15 = Xi S 904 15 := hFT1.x _ _ rfl
      have w15 : Xi T1 904 16 = Xi S 904 16 := hFT1.x _ _ rfl
      have w16 : Xi T1 904 18 = Xi S 904 18 := hFT1.x _ _ rfl
      have w17 : Xi T1 904 19 = Xi S 904 19 := hFT1.x _ _ rfl
      have w18 : Xi T1 904 23 = Xi S 904 23 := hFT1.x _ _ rfl
      have w19 : Xi T1 904 30 = Xi S 904 30 := hFT1.x _ _ rfl
      have w20 : Xi T1 904 32 = Xi S 904 32 := hFT1.x _ _ rfl
      have w21 : Xi T1 904 49 = Xi S 904 49 := hFT1.x _ _ rfl
      have w22 : Xi T1 904 60 = Xi S 904 60 := hFT1.x _ _ rfl
      have w23 : Xi T1 904 69 = Xi S 904 69 := hFT1.x _ _ rfl
      have w24 : Xi T1 904 70 = Xi S 904 70 := hFT1.x _ _ rfl
      have w25 : Xi T1 904 71 = Xi S 904 71 := hFT1.x _ _ rfl
      have w26 : Xi T1 904 72 = Xi S 904 72 := hFT1.x _ _ rfl
      have w27 : Xi T1 904 73 = Xi S 904 73 := hFT1.x _ _ rfl
      have w28 : Xi T1 904 74 = Xi S 904 74 := hFT1.x _ _ rfl
      have w29 : Xi T1 904 78 = Xi S 904 78 := hFT1.x _ _ rfl
      have w30 : Xi T1 904 94 = Xi S 904 94 := hFT1.x _ _ rfl
      have w31 : Xi T1 951 1 = Xi S 951 1 := hFT1.x _ _ rfl
      have w32 : Xi T1 951 2 = Xi S 951 2 := hFT1.x _ _ rfl
      have w33 : Xi T1 967 0 = Xi S 967 0 := hFT1.x _ _ rfl
      have w34 : -2147483648 ≤ Xi T1 904 106 ∧ Xi T1 904 106 ≤ 2147483647 := Xi_rgI
      have w35 : -2147483648 ≤ Xi T1 904 15 ∧ Xi T1 904 15 ≤ 2147483647 := Xi_rgI
      have w36 : -2147483648 ≤ Xi T1 904 151 ∧ Xi T1 904 151 ≤ 2147483647 := Xi_rgI
      have w37 : -2147483648 ≤ Xi T1 904 153 ∧ Xi T1 904 153 ≤ 2147483647 := Xi_rgI
      have w38 : -2147483648 ≤ Xi T1 904 55 ∧ Xi T1 904 55 ≤ 2147483647 := Xi_rgI
      have w39 : -2147483648 ≤ Xi T1 904 70 ∧ Xi T1 904 70 ≤ 2147483647 := Xi_rgI
      exfalso; omega
  refine y_aload_n rfl rfl ?_
  refine y_gfi rfl rfl rfl rfl rfl ?_
  refine y_tsw rfl rfl rfl rfl (by unfold rg; omega) (fun w40 => ?_) (fun ii tt hii w40 => ?_)
  · refine y_return rfl rfl ?_
    exact ⟨hH, hF, rfl⟩
  · match ii, hii with
    | 0, hii =>
      cases hii
      have w41 : (Xi S 904 70) = 0 := by simpa using w40
      exfalso; omega
    | 1, hii =>
      cases hii
      have w42 : (Xi S 904 70) = 1 := by simpa using w40
      refine y_aload_n rfl rfl ?_
      refine y_callV rfl rfl rfl (t_mo_doCommand__p hH (by first | assumption | exact (LSP_FR hF rfl rfl (by assumption : LSP S))) (by first | assumption | omega) (by first | assumption | exact (RBD_FR hF rfl (by assumption : RBD S))) (by first | assumption | omega) _) ?_
      rintro _ T2 ⟨hHT2, w44, rfl, o146⟩
      have hFT2 : FR md_mo_does__1f S T2 := FR.tr hF w44 rfl
      show Pl _ _ _ _ _ _ [] _ _
      have K146 : True := trivial
      refine y_goto rfl rfl ?_
      refine y_return rfl rfl ?_
      exact ⟨hHT2, hFT2, rfl⟩
    | 2, hii =>
      cases hii
      have w50 : (Xi S 904 70) = 2 := by simpa using w40
      exfalso; omega
    | 3, hii =>
      cases hii
      have w51 : (Xi S 904 70) = 3 := by simpa using w40
      refine y_return rfl rfl ?_
      exact ⟨hH, hF, rfl⟩
    | 4, hii =>
      cases hii
      have w52 : (Xi S 904 70) = 4 := by simpa using w40
      refine y_return rfl rfl ?_
      exact ⟨hH, hF, rfl⟩
    | 5, hii =>
      cases hii
      have w53 : (Xi S 904 70) = 5 := by simpa using w40
      refine y_return rfl rfl ?_
      exact ⟨hH, hF, rfl⟩
    | 6, hii =>
      cases hii
      have w54 : (Xi S 904 70) = 6 := by simpa using w40
      refine y_return rfl rfl ?_
      exact ⟨hH, hF, rfl⟩
    | 7, hii =>
      cases hii
      have w55 : (Xi S 904 70) = 7 := by simpa using w40
      exfalso; omega
    | 8, hii =>
      cases hii
      have w56 : (Xi S 904 70) = 8 := by simpa using w40
      exfalso; omega
    | 9, hii =>
      cases hii
      have w57 : (Xi S 904 70) = 9 := by simpa using w40
      exfalso; omega
    | 10, hii =>
      cases hii
      have w58 : (Xi S 904 70) = 10 := by simpa using w40
      exfalso; omega
    | 11, hii =>
      cases hii
      have w59 : (Xi S 904 70) = 11 := by simpa using w40
      exfalso; omega
    | 12, hii =>
      cases hii
      have w60 : (Xi S 904 70) = 12 := by simpa using w40
      exfalso; omega
    | 13, hii =>
      cases hii
      have w61 : (Xi S 904 70) = 13 := by simpa using w40
      exfalso; omega
    | 14, hii =>
      cases hii
      have w62 : (Xi S 904 70) = 14 := by simpa using w40
      exfalso; omega
    | 15, hii =>
      cases hii
      have w63 : (Xi S 904 70) = 15 := by simpa using w40
      exfalso; omega
    | 16, hii =>
      cases hii
      have w64 : (Xi S 904 70) = 16 := by simpa using w40
      exfalso; omega
    | 17, hii =>
      cases hii
      have w65 : (Xi S 904 70) = 17 := by simpa using w40
      exfalso; omega
    | 18, hii =>
      cases hii
      have w66 : (Xi S 904 70) = 18 := by simpa using w40
      exfalso; omega
    | 19, hii =>
      cases hii
      have w67 : (Xi S 904 70) = 19 := by simpa using w40
      exfalso; omega
    | 20, hii =>
      cases hii
      have w68 : (Xi S 904 70) = 20 := by simpa using w40
      exfalso; omega
    | n + 21, hii => exact absurd hii (by simp)
def md_mo_does__2f : List rec := [(904, 905, 15, 16), (904, 905, 23, 24), (904, 905, 117, 118), (912, 913, 0, 100000), (913, 914, 0, 100000), (914, 915, 0, 100000), (915, 916, 0, 100000), (916, 917, 0, 100000), (921, 922, 0, 100000), (922, 923, 0, 100000), (923, 924, 0, 100000), (924, 925, 0, 100000)]
abbrev Q_mo_does__2f (S : sS) (first : Int) : pst := fun r S1 => RI S1 ∧ FR md_mo_does__2f S S1 ∧ (r = none)
set_option maxRecDepth 100000 in
theorem t_mo_does__2f {S : sS} (hH : RI S) (first : Int) (hfirst : 0 ≤ first ∧ first ≤ 5001) (hLS : LSP S) (h15 : 0 ≤ Xi S 904 15) (hRB : RBD S) (ha : 0 ≤ Xi S 904 23 ∧ Xi S 904 23 ≤ 30) (h94 : 0 ≤ Xi S 904 94 ∧ Xi S 904 94 ≤ 1700) (h117 : 0 ≤ Xi S 904 117 ∧ Xi S 904 117 ≤ 2400) (hs : Xi S 904 70 = 2) (d : Nat) : Mp lay0 (d + 8) m_mo_does [.ref 904, iv first] S (Q_mo_does__2f S first) := by
  refine Mp_R rfl rfl (fun fu => ?_)
  have hF : FR md_mo_does__2f S S := FR.rf
  have w1 : -2147483648 ≤ Xi S 904 106 ∧ Xi S 904 106 ≤ 2147483647 := Xi_rgI
  have w2 : -2147483648 ≤ Xi S 904 117 ∧ Xi S 904 117 ≤ 2147483647 := Xi_rgI
  have w3 : -2147483648 ≤ Xi S 904 15 ∧ Xi S 904 15 ≤ 2147483647 := Xi_rgI
  have w4 : -2147483648 ≤ Xi S 904 23 ∧ Xi S 904 23 ≤ 2147483647 := Xi_rgI
  have w5 : -2147483648 ≤ Xi S 904 70 ∧ Xi S 904 70 ≤ 2147483647 := Xi_rgI
  have w6 : -2147483648 ≤ Xi S 904 94 ∧ Xi S 904 94 ≤ 2147483647 := Xi_rgI
  have C300 : ∀ (n300 : Nat) (_ : n300 ≤ fu) (T1 : sS) (_ : RI T1) (_ : FR md_mo_does__2f S T1) (v2 : Int), (-2147483648 ≤ v2 ∧ v2 ≤ 2147483647) → ((1 : Int) = 0) → Pl n300 lay0 (d + 7) m_mo_does 300 [(0, .ref 904), (2, iv v2)] [] T1 (Q_mo_does__2f S first) := by
    intro n300
    induction n300 with
    | zero => intros; exact Pl_0
    | succ n300 ih300 =>
      intro hm300 T1 hHT1 hFT1 v2 w7 w8
      have w9 : Xi T1 904 106 = Xi S 904 106 := hFT1.x _ _ rfl
      have w10 : Xi T1 904 110 = Xi S 904 110 := hFT1.x _ _ rfl
      have w11 : Xi T1 904 112 = Xi S 904 112 := hFT1.x _ _ rfl
      have w12 : Xi T1 904 142 = Xi S 904 142 := hFT1.x _ _ rfl
      have w13 : Xi T1 904 16 = Xi S 904 16 := hFT1.x _ _ rfl
      have w14 : Xi T1 904 18 = Xi S 904 18 := hFT1.x _ _ rfl
      have w15 : Xi T1 904 19 = Xi S 904 19 := hFT1.x _ _ rfl
      have w16 : Xi T1 904 30 = Xi S 904 30 := hFT1.x _ _ rfl
      have w17 : Xi T1 904 32 = Xi S 904 32 := hFT1.x _ _ rfl
      have w18 : Xi T1 904 49 = Xi S 904 49 := hFT1.x _ _ rfl
      have w19 : Xi T1 904 55 = Xi S 904 55 := hFT1.x _ _ rfl
      have w20 : Xi T1 904 60 = Xi S 904 60 := hFT1.x _ _ rfl
      have w21 : Xi T1 904 69 = Xi S 904 69 := hFT1.x _ _ rfl
      have w22 : Xi T1 904 70 = Xi S 904 70 := hFT1.x _ _ rfl
      have w23 : Xi T1 904 71 = Xi S 904 71 := hFT1.x _ _ rfl
      have w24 : Xi T1 904 72 = Xi S 904 72 := hFT1.x _ _ rfl
      have w25 : Xi T1 904 73 = Xi S 904 73 := hFT1.x _ _ rfl
      have w26 : Xi T1 904 74 = Xi S 904 74 := hFT1.x _ _ rfl
      have w27 : Xi T1 904 78 = Xi S 904 78 := hFT1.x _ _ rfl
      have w28 : Xi T1 904 94 = Xi S 904 94 := hFT1.x _ _ rfl
      have w29 : Xi T1 951 1 = Xi S 951 1 := hFT1.x _ _ rfl
      have w30 : Xi T1 951 2 = Xi S 951 2 := hFT1.x _ _ rfl
      have w31 : Xi T1 967 0 = Xi S 967 0 := hFT1.x _ _ rfl
      have w32 : -2147483648 ≤ Xi T1 904 106 ∧ Xi T1 904 106 ≤ 2147483647 := Xi_rgI
      have w33 : -2147483648 ≤ Xi T1 904 117 ∧ Xi T1 904 117 ≤ 2147483647 := Xi_rgI
      have w34 : -2147483648 ≤ Xi T1 904 15 ∧ Xi T1 904 15 ≤ 2147483647 := Xi_rgI
      have w35 : -2147483648 ≤ Xi T1 904 23 ∧ Xi T1 904 23 ≤ 2147483647 := Xi_rgI
      have w36 : -2147483648 ≤ Xi T1 904 70 ∧ Xi T1 904 70 ≤ 2147483647 := Xi_rgI
      have w37 : -2147483648 ≤ Xi T1 904 94 ∧ Xi T1 904 94 ≤ 2147483647 := Xi_rgI
      exfalso; omega
  refine y_aload_n rfl rfl ?_
  refine y_gfi rfl rfl rfl rfl rfl ?_
  refine y_tsw rfl rfl rfl rfl (by unfold rg; omega) (fun w38 => ?_) (fun ii tt hii w38 => ?_)
  · refine y_return rfl rfl ?_
    exact ⟨hH, hF, rfl⟩
  · match ii, hii with
    | 0, hii =>
      cases hii
      have w39 : (Xi S 904 70) = 0 := by simpa using w38
      exfalso; omega
    | 1, hii =>
      cases hii
      have w40 : (Xi S 904 70) = 1 := by simpa using w38
      exfalso; omega
    | 2, hii =>
      cases hii
      have w41 : (Xi S 904 70) = 2 := by simpa using w38
      refine y_aload_n rfl rfl ?_
      refine y_callV rfl rfl rfl (t_mo_doDefined__p hH (by first | assumption | exact (by assumption : LSP S)) (by first | assumption | omega) (by first | assumption | exact (RBD_FR hF rfl (by assumption : RBD S))) (by first | assumption | omega) (by first | assumption | omega) (by first | assumption | omega) _) ?_
      rintro _ T2 ⟨hHT2, w43, rfl, o153⟩
      have hFT2 : FR md_mo_does__2f S T2 := FR.tr hF w43 rfl
      show Pl _ _ _ _ _ _ [] _ _
      have K153 : True := trivial
      refine y_goto rfl rfl ?_
      refine y_return rfl rfl ?_
      exact ⟨hHT2, hFT2, rfl⟩
    | 3, hii =>
      cases hii
      have w47 : (Xi S 904 70) = 3 := by simpa using w38
      refine y_return rfl rfl ?_
      exact ⟨hH, hF, rfl⟩
    | 4, hii =>
      cases hii
      have w48 : (Xi S 904 70) = 4 := by simpa using w38
      refine y_return rfl rfl ?_
      exact ⟨hH, hF, rfl⟩
    | 5, hii =>
      cases hii
      have w49 : (Xi S 904 70) = 5 := by simpa using w38
      refine y_return rfl rfl ?_
      exact ⟨hH, hF, rfl⟩
    | 6, hii =>
      cases hii
      have w50 : (Xi S 904 70) = 6 := by simpa using w38
      refine y_return rfl rfl ?_
      exact ⟨hH, hF, rfl⟩
    | 7, hii =>
      cases hii
      have w51 : (Xi S 904 70) = 7 := by simpa using w38
      exfalso; omega
    | 8, hii =>
      cases hii
      have w52 : (Xi S 904 70) = 8 := by simpa using w38
      exfalso; omega
    | 9, hii =>
      cases hii
      have w53 : (Xi S 904 70) = 9 := by simpa using w38
      exfalso; omega
    | 10, hii =>
      cases hii
      have w54 : (Xi S 904 70) = 10 := by simpa using w38
      exfalso; omega
    | 11, hii =>
      cases hii
      have w55 : (Xi S 904 70) = 11 := by simpa using w38
      exfalso; omega
    | 12, hii =>
      cases hii
      have w56 : (Xi S 904 70) = 12 := by simpa using w38
      exfalso; omega
    | 13, hii =>
      cases hii
      have w57 : (Xi S 904 70) = 13 := by simpa using w38
      exfalso; omega
    | 14, hii =>
      cases hii
      have w58 : (Xi S 904 70) = 14 := by simpa using w38
      exfalso; omega
    | 15, hii =>
      cases hii
      have w59 : (Xi S 904 70) = 15 := by simpa using w38
      exfalso; omega
    | 16, hii =>
      cases hii
      have w60 : (Xi S 904 70) = 16 := by simpa using w38
      exfalso; omega
    | 17, hii =>
      cases hii
      have w61 : (Xi S 904 70) = 17 := by simpa using w38
      exfalso; omega
    | 18, hii =>
      cases hii
      have w62 : (Xi S 904 70) = 18 := by simpa using w38
      exfalso; omega
    | 19, hii =>
      cases hii
      have w63 : (Xi S 904 70) = 19 := by simpa using w38
      exfalso; omega
    | 20, hii =>
      cases hii
      have w64 : (Xi S 904 70) = 20 := by simpa using w38
      exfalso; omega
    | n + 21, hii => exact absurd hii (by simp)
def md_mo_does__7f : List rec := [(904, 905, 15, 16), (904, 905, 47, 48), (912, 913, 0, 100000), (913, 914, 0, 100000), (914, 915, 0, 100000), (915, 916, 0, 100000), (916, 917, 0, 100000), (941, 942, 0, 100000)]
abbrev Q_mo_does__7f (S : sS) (first : Int) : pst := fun r S1 => RI S1 ∧ FR md_mo_does__7f S S1 ∧ (r = none)
set_option maxRecDepth 100000 in
theorem t_mo_does__7f {S : sS} (hH : RI S) (first : Int) (hfirst : 0 ≤ first ∧ first ≤ 5001) (hLS : LSP S) (h15 : 0 ≤ Xi S 904 15) (hRB : RBD S) (hs : Xi S 904 70 = 7) (ha : 0 ≤ Xi S 904 47 ∧ Xi S 904 47 ≤ 8) (d : Nat) : Mp lay0 (d + 8) m_mo_does [.ref 904, iv first] S (Q_mo_does__7f S first) := by
  refine Mp_R rfl rfl (fun fu => ?_)
  have hF : FR md_mo_does__7f S S := FR.rf
  have w1 : -2147483648 ≤ Xi S 904 15 ∧ Xi S 904 15 ≤ 2147483647 := Xi_rgI
  have w2 : -2147483648 ≤ Xi S 904 47 ∧ Xi S 904 47 ≤ 2147483647 := Xi_rgI
  have w3 : -2147483648 ≤ Xi S 904 70 ∧ Xi S 904 70 ≤ 2147483647 := Xi_rgI
  have C300 : ∀ (n300 : Nat) (_ : n300 ≤ fu) (T1 : sS) (_ : RI T1) (_ : FR md_mo_does__7f S T1) (v2 : Int), (-2147483648 ≤ v2 ∧ v2 ≤ 2147483647) → ((1 : Int) = 0) → Pl n300 lay0 (d + 7) m_mo_does 300 [(0, .ref 904), (2, iv v2)] [] T1 (Q_mo_does__7f S first) := by
    intro n300
    induction n300 with
    | zero => intros; exact Pl_0
    | succ n300 ih300 =>
      intro hm300 T1 hHT1 hFT1 v2 w4 w5
      have w6 : Xi T1 904 106 = Xi S 904 106 := hFT1.x _ _ rfl
      have w7 : Xi T1 904 110 = Xi S 904 110 := hFT1.x _ _ rfl
      have w8 : Xi T1 904 112 = Xi S 904 112 := hFT1.x _ _ rfl
      have w9 : Xi T1 904 117 = Xi S 904 117 := hFT1.x _ _ rfl
      have w10 : Xi T1 904 142 = Xi S 904 142 := hFT1.x _ _ rfl
      have w11 : Xi T1 904 16 = Xi S 904 16 := hFT1.x _ _ rfl
      have w12 : Xi T1 904 18 = Xi S 904 18 := hFT1.x _ _ rfl
      have w13 : Xi T1 904 19 = Xi S 904 19 := hFT1.x _ _ rfl
      have w14 : Xi T1 904 23 = Xi S 904 23 := hFT1.x _ _ rfl
      have w15 : Xi T1 904 30 = Xi S 904 30 := hFT1.x _ _ rfl
      have w16 : Xi T1 904 32 = Xi S 904 32 := hFT1.x _ _ rfl
      have w17 : Xi T1 904 49 = Xi S 904 49 := hFT1.x _ _ rfl
      have w18 : Xi T1 904 55 = Xi S 904 55 := hFT1.x _ _ rfl
      have w19 : Xi T1 904 60 = Xi S 904 60 := hFT1.x _ _ rfl
      have w20 : Xi T1 904 69 = Xi S 904 69 := hFT1.x _ _ rfl
      have w21 : Xi T1 904 70 = Xi S 904 70 := hFT1.x _ _ rfl
      have w22 : Xi T1 904 71 = Xi S 904 71 := hFT1.x _ _ rfl
      have w23 : Xi T1 904 72 = Xi S 904 72 := hFT1.x _ _ rfl
      have w24 : Xi T1 904 73 = Xi S 904 73 := hFT1.x _ _ rfl
      have w25 : Xi T1 904 74 = Xi S 904 74 := hFT1.x _ _ rfl
      have w26 : Xi T1 904 78 = Xi S 904 78 := hFT1.x _ _ rfl
      have w27 : Xi T1 904 94 = Xi S 904 94 := hFT1.x _ _ rfl
      have w28 : Xi T1 951 1 = Xi S 951 1 := hFT1.x _ _ rfl
      have w29 : Xi T1 951 2 = Xi S 951 2 := hFT1.x _ _ rfl
      have w30 : Xi T1 967 0 = Xi S 967 0 := hFT1.x _ _ rfl
      have w31 : -2147483648 ≤ Xi T1 904 15 ∧ Xi T1 904 15 ≤ 2147483647 := Xi_rgI
      have w32 : -2147483648 ≤ Xi T1 904 47 ∧ Xi T1 904 47 ≤ 2147483647 := Xi_rgI
      have w33 : -2147483648 ≤ Xi T1 904 70 ∧ Xi T1 904 70 ≤ 2147483647 := Xi_rgI
      exfalso; omega
  refine y_aload_n rfl rfl ?_
  refine y_gfi rfl rfl rfl rfl rfl ?_
  refine y_tsw rfl rfl rfl rfl (by unfold rg; omega) (fun w34 => ?_) (fun ii tt hii w34 => ?_)
  · refine y_return rfl rfl ?_
    exact ⟨hH, hF, rfl⟩
  · match ii, hii with
    | 0, hii =>
      cases hii
      have w35 : (Xi S 904 70) = 0 := by simpa using w34
      exfalso; omega
    | 1, hii =>
      cases hii
      have w36 : (Xi S 904 70) = 1 := by simpa using w34
      exfalso; omega
    | 2, hii =>
      cases hii
      have w37 : (Xi S 904 70) = 2 := by simpa using w34
      exfalso; omega
    | 3, hii =>
      cases hii
      have w38 : (Xi S 904 70) = 3 := by simpa using w34
      refine y_return rfl rfl ?_
      exact ⟨hH, hF, rfl⟩
    | 4, hii =>
      cases hii
      have w39 : (Xi S 904 70) = 4 := by simpa using w34
      refine y_return rfl rfl ?_
      exact ⟨hH, hF, rfl⟩
    | 5, hii =>
      cases hii
      have w40 : (Xi S 904 70) = 5 := by simpa using w34
      refine y_return rfl rfl ?_
      exact ⟨hH, hF, rfl⟩
    | 6, hii =>
      cases hii
      have w41 : (Xi S 904 70) = 6 := by simpa using w34
      refine y_return rfl rfl ?_
      exact ⟨hH, hF, rfl⟩
    | 7, hii =>
      cases hii
      have w42 : (Xi S 904 70) = 7 := by simpa using w34
      refine y_aload_n rfl rfl ?_
      refine y_gfr rfl rfl rfl rfl rfl (hH.r 904 48 941 rfl) ?_
      refine y_aload_n rfl rfl ?_
      refine y_gfi rfl rfl rfl rfl rfl ?_
      refine y_aload_n rfl rfl ?_
      refine y_iconst rfl ?_
      refine y_bipush rfl rfl ?_
      refine y_callV rfl rfl rfl (t_mo_meansRun__p hH 1 8 ⟨by omega, by omega⟩ ⟨by omega, by omega⟩ (by first | assumption | exact (by assumption : LSP S)) (by first | assumption | omega) (by first | assumption | exact (RBD_FR hF rfl (by assumption : RBD S))) _) ?_
      rintro _ _ ⟨rfl, z43, rfl, w43, f171⟩
      show Pl _ _ _ _ _ _ [iv z43, iv (Xi S 904 47), .ref 941] _ _
      refine y_iastoreP (n := 8) rfl rfl (by unfold rg; omega) (fun w44 w45 => ?_)
      obtain ⟨U2, eU2⟩ : ∃ T : sS, T = uI S 941 (((Xi S 904 47)).toNat) (Int32.ofInt z43) := ⟨_, rfl⟩
      rw [← eU2]
      have hHU2 : RI U2 := by rw [eU2]; exact RI_w hH
      have hFU2 : FR md_mo_does__7f S U2 := by rw [eU2]; exact FR.wI hF (mdf_i (r := (941, 942, 0, 100000)) (List.mem_of_getElem? (i := 7) rfl) (inR_i (by omega) (by omega) (by omega) (by omega)))
      have w46 : Xi U2 941 (((Xi S 904 47)).toNat) = z43 := by rw [eU2]; exact Xi_same (by unfold rg; omega)
      have ee174 := eU2
      have m174 : Hid (SMR S U2) := SMR_w SMR.rf eU2 (by omega) (by omega)
      have a174 : Hid (∀ j, Xj U2 910 j = Xj S 910 j) := m174.o.2.2.1
      have i174 : Xi U2 950 ((0 : Int).toNat) = Xi S 950 0 := m174.o.2.1 950 _ (by omega)
      refine y_aload_n rfl rfl ?_
      refine y_bipush rfl rfl ?_
      refine y_aload_n rfl rfl ?_
      refine y_gfi rfl rfl rfl rfl rfl ?_
      have w47 : (Xi U2 904 47) = (Xi S 904 47) := (show Xi U2 904 47 = Xi S 904 47 from by rw [eU2]; exact Xi_ne (by omega))
      rw [w47]
      refine y_aload_n rfl rfl ?_
      refine y_gfr rfl rfl rfl rfl rfl (hHU2.r 904 7 910 rfl) ?_
      refine y_aload_n rfl rfl ?_
      refine y_gfr rfl rfl rfl rfl rfl (hHU2.r 904 67 950 rfl) ?_
      refine y_iconst rfl ?_
      refine y_ialoadP (n := 2600) rfl rfl (by unfold rg; omega) (fun w48 w49 => ?_)
      have w50 : -2147483648 ≤ (Xi U2 950 ((0 : Int).toNat)) ∧ (Xi U2 950 ((0 : Int).toNat)) ≤ 2147483647 := Xi_rgI
      have w51 : (Xi U2 950 ((0 : Int).toNat)) = Xi U2 950 0 := rfl
      refine y_laloadP (n := 5002) rfl rfl (by unfold rg; omega) (fun w52 w53 => ?_)
      have w54 : -9223372036854775808 ≤ (Xj U2 910 (((Xi U2 950 ((0 : Int).toNat))).toNat)) ∧ (Xj U2 910 (((Xi U2 950 ((0 : Int).toNat))).toNat)) < 9223372036854775808 := Xj_rg
      refine y_lconst (z := 0) rfl rfl ?_
      refine y_lconst (z := 0) rfl rfl ?_
      refine y_iconst rfl ?_
      have w55 : Xi U2 904 15 = Xi S 904 15 := (show Xi U2 904 15 = Xi S 904 15 from by rw [eU2]; exact Xi_ne (by omega))
      have w56 : Xi U2 904 47 = Xi S 904 47 := (show Xi U2 904 47 = Xi S 904 47 from by rw [eU2]; exact Xi_ne (by omega))
      have w57 : Xi U2 904 70 = Xi S 904 70 := (show Xi U2 904 70 = Xi S 904 70 from by rw [eU2]; exact Xi_ne (by omega))
      refine y_callV rfl rfl rfl (t_mo_tell__p hHU2 9 (Xi S 904 47) (Xj U2 910 (((Xi U2 950 ((0 : Int).toNat))).toNat)) 0 0 1 ⟨by omega, by omega⟩ ⟨by omega, by omega⟩ ⟨by omega, by omega⟩ (by first | assumption | exact Xj_rg | (unfold rgL; omega)) (by first | assumption | exact Xj_rg | (unfold rgL; omega)) (by first | assumption | exact Xj_rg | (unfold rgL; omega)) _) ?_
      rintro _ T3 ⟨hHT3, w59, rfl, e196⟩
      have hFT3 : FR md_mo_does__7f S T3 := FR.tr hFU2 w59 rfl
      show Pl _ _ _ _ _ _ [] _ _
      have F196 := (by assumption : FR md_mo_tell__p U2 T3)
      have l196 : Xi T3 904 15 = Xi U2 904 15 + 1 := e196.2.2
      have a196 : Hid (∀ j, Xj T3 910 j = Xj S 910 j) := fun j => ((F196.cx 910 rfl j).2).trans (a174.o j)
      refine y_aload_n rfl rfl ?_
      refine y_bipush rfl rfl ?_
      refine y_aload_n rfl rfl ?_
      refine y_gfi rfl rfl rfl rfl rfl ?_
      have w60 : (Xi T3 904 47) = (Xi S 904 47) := (show Xi T3 904 47 = Xi U2 904 47 from w59.x _ _ rfl).trans ((show Xi U2 904 47 = Xi S 904 47 from by rw [eU2]; exact Xi_ne (by omega)))
      rw [w60]
      refine y_aload_n rfl rfl ?_
      refine y_gfr rfl rfl rfl rfl rfl (hHT3.r 904 7 910 rfl) ?_
      refine y_aload_n rfl rfl ?_
      refine y_gfr rfl rfl rfl rfl rfl (hHT3.r 904 67 950 rfl) ?_
      refine y_iconst rfl ?_
      refine y_ialoadP (n := 2600) rfl rfl (by unfold rg; omega) (fun w61 w62 => ?_)
      have w63 : (Xi T3 950 ((0 : Int).toNat)) = (Xi U2 950 ((0 : Int).toNat)) := (show Xi T3 950 ((0 : Int).toNat) = Xi U2 950 ((0 : Int).toNat) from w59.x _ _ rfl)
      rw [w63]
      refine y_laloadP (n := 5002) rfl rfl (by unfold rg; omega) (fun w64 w65 => ?_)
      have w66 : -9223372036854775808 ≤ (Xj T3 910 (((Xi U2 950 ((0 : Int).toNat))).toNat)) ∧ (Xj T3 910 (((Xi U2 950 ((0 : Int).toNat))).toNat)) < 9223372036854775808 := Xj_rg
      refine y_iconst rfl ?_
      refine y_lshlF rfl ?_
      have w67 : rgL (lshlF (Xj T3 910 (((Xi U2 950 ((0 : Int).toNat))).toNat)) 5) := lshlF_rg
      refine y_ldc2 (z := 19) rfl rfl ?_
      refine y_lorF rfl ?_
      have w68 : rgL (lorF (lshlF (Xj T3 910 (((Xi U2 950 ((0 : Int).toNat))).toNat)) 5) 19) := lorF_rg
      refine y_lconst (z := 0) rfl rfl ?_
      refine y_lconst (z := 0) rfl rfl ?_
      refine y_iconst rfl ?_
      have w69 : Xi T3 904 47 = Xi S 904 47 := (show Xi T3 904 47 = Xi U2 904 47 from w59.x _ _ rfl).trans ((show Xi U2 904 47 = Xi S 904 47 from by rw [eU2]; exact Xi_ne (by omega)))
      have w70 : Xi T3 904 70 = Xi S 904 70 := (show Xi T3 904 70 = Xi U2 904 70 from w59.x _ _ rfl).trans ((show Xi U2 904 70 = Xi S 904 70 from by rw [eU2]; exact Xi_ne (by omega)))
      refine y_callV rfl rfl rfl (t_mo_tell__p hHT3 10 (Xi S 904 47) (lorF (lshlF (Xj T3 910 (((Xi U2 950 ((0 : Int).toNat))).toNat)) 5) 19) 0 0 1 ⟨by omega, by omega⟩ ⟨by omega, by omega⟩ ⟨by omega, by omega⟩ (by first | assumption | exact Xj_rg | (unfold rgL; omega)) (by first | assumption | exact Xj_rg | (unfold rgL; omega)) (by first | assumption | exact Xj_rg | (unfold rgL; omega)) _) ?_
      rintro _ T4 ⟨hHT4, w72, rfl, e226⟩
      have hFT4 : FR md_mo_does__7f S T4 := FR.tr hFT3 w72 rfl
      show Pl _ _ _ _ _ _ [] _ _
      have F226 := (by assumption : FR md_mo_tell__p T3 T4)
      have l226 : Xi T4 904 15 = Xi T3 904 15 + 1 := e226.2.2
      have a226 : Hid (∀ j, Xj T4 910 j = Xj S 910 j) := fun j => ((F226.cx 910 rfl j).2).trans (a196.o j)
      refine y_aload_n rfl rfl ?_
      refine y_gfr rfl rfl rfl rfl rfl (hHT4.r 904 14 916 rfl) ?_
      refine y_aload_n rfl rfl ?_
      refine y_gfi rfl rfl rfl rfl rfl ?_
      have w73 : -2147483648 ≤ (Xi T4 904 15) ∧ (Xi T4 904 15) ≤ 2147483647 := Xi_rgI
      refine y_iconst rfl ?_
      refine y_isub rfl ?_
      refine y_aload_n rfl rfl ?_
      refine y_gfr rfl rfl rfl rfl rfl (hHT4.r 904 7 910 rfl) ?_
      refine y_aload_n rfl rfl ?_
      refine y_gfr rfl rfl rfl rfl rfl (hHT4.r 904 67 950 rfl) ?_
      refine y_iconst rfl ?_
      refine y_ialoadP (n := 2600) rfl rfl (by unfold rg; omega) (fun w74 w75 => ?_)
      have w76 : (Xi T4 950 ((0 : Int).toNat)) = (Xi U2 950 ((0 : Int).toNat)) := (show Xi T4 950 ((0 : Int).toNat) = Xi T3 950 ((0 : Int).toNat) from w72.x _ _ rfl).trans ((show Xi T3 950 ((0 : Int).toNat) = Xi U2 950 ((0 : Int).toNat) from w59.x _ _ rfl))
      rw [w76]
      refine y_laloadP (n := 5002) rfl rfl (by unfold rg; omega) (fun w77 w78 => ?_)
      have w79 : -9223372036854775808 ≤ (Xj T4 910 (((Xi U2 950 ((0 : Int).toNat))).toNat)) ∧ (Xj T4 910 (((Xi U2 950 ((0 : Int).toNat))).toNat)) < 9223372036854775808 := Xj_rg
      refine y_bipush rfl rfl ?_
      refine y_lshrF rfl ?_
      have w80 : rgL (lshrF (Xj T4 910 (((Xi U2 950 ((0 : Int).toNat))).toNat)) 55) := lshrF_rg
      refine y_lconst (z := 0) rfl rfl ?_
      refine y_lcmp rfl (by first | assumption | (unfold rgL; omega)) (by first | assumption | (unfold rgL; omega)) (fun c81 w81 w81a w81b w81c => ?_)
      refine y_if_eq rfl rfl (by unfold rg; omega) (fun w82 => ?_) (fun w83 => ?_)
      · refine y_iconst rfl ?_
        refine y_bastoreZP (n := 300) rfl rfl (by unfold rg; omega) ⟨by omega, by omega⟩ (fun w84 w85 => ?_)
        obtain ⟨U5, eU5⟩ : ∃ T : sS, T = uI T4 916 ((((Xi T4 904 15) - 1)).toNat) (Int32.ofInt 0) := ⟨_, rfl⟩
        rw [← eU5]
        have hHU5 : RI U5 := by rw [eU5]; exact RI_w hHT4
        have hFU5 : FR md_mo_does__7f S U5 := by rw [eU5]; exact FR.wI hFT4 (mdf_i (r := (916, 917, 0, 100000)) (List.mem_of_getElem? (i := 6) rfl) (inR_i (by omega) (by omega) (by omega) (by omega)))
        have w86 : Xi U5 916 ((((Xi T4 904 15) - 1)).toNat) = 0 := by rw [eU5]; exact Xi_same (by unfold rg; omega)
        have ee263 := eU5
        refine y_aload_n rfl rfl ?_
        refine y_dup rfl rfl ?_
        refine y_gfi rfl rfl rfl rfl rfl ?_
        have w87 : (Xi U5 904 47) = (Xi S 904 47) := (show Xi U5 904 47 = Xi T4 904 47 from by rw [eU5]; exact Xi_ne (by omega)).trans ( (show Xi T4 904 47 = Xi T3 904 47 from w72.x _ _ rfl).trans ( (show Xi T3 904 47 = Xi U2 904 47 from w59.x _ _ rfl).trans ((show Xi U2 904 47 = Xi S 904 47 from by rw [eU2]; exact Xi_ne (by omega)))))
        rw [w87]
        refine y_iconst rfl ?_
        refine y_iadd rfl ?_
        refine y_pfi rfl rfl rfl rfl ?_
        obtain ⟨U6, eU6⟩ : ∃ T : sS, T = uI U5 904 47 (Int32.ofInt ((Xi S 904 47) + 1)) := ⟨_, rfl⟩
        rw [← eU6]
        have hHU6 : RI U6 := by rw [eU6]; exact RI_w hHU5
        have hFU6 : FR md_mo_does__7f S U6 := by rw [eU6]; exact FR.wI hFU5 (mdf_i (r := (904, 905, 47, 48)) (List.mem_of_getElem? (i := 1) rfl) (inR_i (by omega) (by omega) (by omega) (by omega)))
        have w88 : Xi U6 904 47 = ((Xi S 904 47) + 1) := by rw [eU6]; exact Xi_same (by unfold rg; omega)
        have K271 : True := trivial
        have R271 : RD7 S U6 := rd7_of (w3 := Xj T4 910 ((Xi U2 950 ((0 : Int).toNat)).toNat)) ee174 e196 F196 e226 F226 ee263 eU6 h15 (by rw [a174.o, i174]) (by unfold wsR; rw [a196.o, i174]) f171 (by unfold rg; omega) ha (by first | exact Or.inl ⟨rfl, by omega⟩ | exact Or.inr ⟨rfl, by omega⟩) (by rw [a226.o, i174])
        refine y_goto rfl rfl ?_
        refine y_return rfl rfl ?_
        exact ⟨hHU6, hFU6, rfl⟩
      · refine y_iconst rfl ?_
        refine y_goto rfl rfl ?_
        refine y_bastoreZP (n := 300) rfl rfl (by unfold rg; omega) ⟨by omega, by omega⟩ (fun w91 w92 => ?_)
        obtain ⟨U7, eU7⟩ : ∃ T : sS, T = uI T4 916 ((((Xi T4 904 15) - 1)).toNat) (Int32.ofInt 1) := ⟨_, rfl⟩
        rw [← eU7]
        have hHU7 : RI U7 := by rw [eU7]; exact RI_w hHT4
        have hFU7 : FR md_mo_does__7f S U7 := by rw [eU7]; exact FR.wI hFT4 (mdf_i (r := (916, 917, 0, 100000)) (List.mem_of_getElem? (i := 6) rfl) (inR_i (by omega) (by omega) (by omega) (by omega)))
        have w93 : Xi U7 916 ((((Xi T4 904 15) - 1)).toNat) = 1 := by rw [eU7]; exact Xi_same (by unfold rg; omega)
        have ee263 := eU7
        refine y_aload_n rfl rfl ?_
        refine y_dup rfl rfl ?_
        refine y_gfi rfl rfl rfl rfl rfl ?_
        have w94 : (Xi U7 904 47) = (Xi S 904 47) := (show Xi U7 904 47 = Xi T4 904 47 from by rw [eU7]; exact Xi_ne (by omega)).trans ( (show Xi T4 904 47 = Xi T3 904 47 from w72.x _ _ rfl).trans ( (show Xi T3 904 47 = Xi U2 904 47 from w59.x _ _ rfl).trans ((show Xi U2 904 47 = Xi S 904 47 from by rw [eU2]; exact Xi_ne (by omega)))))
        rw [w94]
        refine y_iconst rfl ?_
        refine y_iadd rfl ?_
        refine y_pfi rfl rfl rfl rfl ?_
        obtain ⟨U8, eU8⟩ : ∃ T : sS, T = uI U7 904 47 (Int32.ofInt ((Xi S 904 47) + 1)) := ⟨_, rfl⟩
        rw [← eU8]
        have hHU8 : RI U8 := by rw [eU8]; exact RI_w hHU7
        have hFU8 : FR md_mo_does__7f S U8 := by rw [eU8]; exact FR.wI hFU7 (mdf_i (r := (904, 905, 47, 48)) (List.mem_of_getElem? (i := 1) rfl) (inR_i (by omega) (by omega) (by omega) (by omega)))
        have w95 : Xi U8 904 47 = ((Xi S 904 47) + 1) := by rw [eU8]; exact Xi_same (by unfold rg; omega)
        have K271 : True := trivial
        have R271 : RD7 S U8 := rd7_of (w3 := Xj T4 910 ((Xi U2 950 ((0 : Int).toNat)).toNat)) ee174 e196 F196 e226 F226 ee263 eU8 h15 (by rw [a174.o, i174]) (by unfold wsR; rw [a196.o, i174]) f171 (by unfold rg; omega) ha (by first | exact Or.inl ⟨rfl, by omega⟩ | exact Or.inr ⟨rfl, by omega⟩) (by rw [a226.o, i174])
        refine y_goto rfl rfl ?_
        refine y_return rfl rfl ?_
        exact ⟨hHU8, hFU8, rfl⟩
    | 8, hii =>
      cases hii
      have w98 : (Xi S 904 70) = 8 := by simpa using w34
      exfalso; omega
    | 9, hii =>
      cases hii
      have w99 : (Xi S 904 70) = 9 := by simpa using w34
      exfalso; omega
    | 10, hii =>
      cases hii
      have w100 : (Xi S 904 70) = 10 := by simpa using w34
      exfalso; omega
    | 11, hii =>
      cases hii
      have w101 : (Xi S 904 70) = 11 := by simpa using w34
      exfalso; omega
    | 12, hii =>
      cases hii
      have w102 : (Xi S 904 70) = 12 := by simpa using w34
      exfalso; omega
    | 13, hii =>
      cases hii
      have w103 : (Xi S 904 70) = 13 := by simpa using w34
      exfalso; omega
    | 14, hii =>
      cases hii
      have w104 : (Xi S 904 70) = 14 := by simpa using w34
      exfalso; omega
    | 15, hii =>
      cases hii
      have w105 : (Xi S 904 70) = 15 := by simpa using w34
      exfalso; omega
    | 16, hii =>
      cases hii
      have w106 : (Xi S 904 70) = 16 := by simpa using w34
      exfalso; omega
    | 17, hii =>
      cases hii
      have w107 : (Xi S 904 70) = 17 := by simpa using w34
      exfalso; omega
    | 18, hii =>
      cases hii
      have w108 : (Xi S 904 70) = 18 := by simpa using w34
      exfalso; omega
    | 19, hii =>
      cases hii
      have w109 : (Xi S 904 70) = 19 := by simpa using w34
      exfalso; omega
    | 20, hii =>
      cases hii
      have w110 : (Xi S 904 70) = 20 := by simpa using w34
      exfalso; omega
    | n + 21, hii => exact absurd hii (by simp)
def md_mo_does__8f : List rec := [(904, 905, 15, 16), (912, 913, 0, 100000), (913, 914, 0, 100000), (914, 915, 0, 100000), (915, 916, 0, 100000), (916, 917, 0, 100000)]
abbrev Q_mo_does__8f (S : sS) (first : Int) : pst := fun r S1 => RI S1 ∧ FR md_mo_does__8f S S1 ∧ (r = none)
set_option maxRecDepth 100000 in
theorem t_mo_does__8f {S : sS} (hH : RI S) (first : Int) (hfirst : 0 ≤ first ∧ first ≤ 5001) (hLS : LSP S) (h15 : 0 ≤ Xi S 904 15) (hRB : RBD S) (hs : Xi S 904 70 = 8) (h15b : Xi S 904 15 ≤ 100000) (d : Nat) : Mp lay0 (d + 8) m_mo_does [.ref 904, iv first] S (Q_mo_does__8f S first) := by
  refine Mp_R rfl rfl (fun fu => ?_)
  have hF : FR md_mo_does__8f S S := FR.rf
  have w1 : -2147483648 ≤ Xi S 904 15 ∧ Xi S 904 15 ≤ 2147483647 := Xi_rgI
  have w2 : -2147483648 ≤ Xi S 904 70 ∧ Xi S 904 70 ≤ 2147483647 := Xi_rgI
  have C300 : ∀ (n300 : Nat) (_ : n300 ≤ fu) (T1 : sS) (_ : RI T1) (_ : FR md_mo_does__8f S T1) (v2 : Int), (-2147483648 ≤ v2 ∧ v2 ≤ 2147483647) → ((1 : Int) = 0) → Pl n300 lay0 (d + 7) m_mo_does 300 [(0, .ref 904), (2, iv v2)] [] T1 (Q_mo_does__8f S first) := by
    intro n300
    induction n300 with
    | zero => intros; exact Pl_0
    | succ n300 ih300 =>
      intro hm300 T1 hHT1 hFT1 v2 w3 w4
      have w5 : Xi T1 904 106 = Xi S 904 106 := hFT1.x _ _ rfl
      have w6 : Xi T1 904 110 = Xi S 904 110 := hFT1.x _ _ rfl
      have w7 : Xi T1 904 112 = Xi S 904 112 := hFT1.x _ _ rfl
      have w8 : Xi T1 904 117 = Xi S 904 117 := hFT1.x _ _ rfl
      have w9 : Xi T1 904 142 = Xi S 904 142 := hFT1.x _ _ rfl
      have w10 : Xi T1 904 16 = Xi S 904 16 := hFT1.x _ _ rfl
      have w11 : Xi T1 904 18 = Xi S 904 18 := hFT1.x _ _ rfl
      have w12 : Xi T1 904 19 = Xi S 904 19 := hFT1.x _ _ rfl
      have w13 : Xi T1 904 23 = Xi S 904 23 := hFT1.x _ _ rfl
      have w14 : Xi T1 904 30 = Xi S 904 30 := hFT1.x _ _ rfl
      have w15 : Xi T1 904 32 = Xi S 904 32 := hFT1.x _ _ rfl
      have w16 : Xi T1 904 49 = Xi S 904 49 := hFT1.x _ _ rfl
      have w17 : Xi T1 904 55 = Xi S 904 55 := hFT1.x _ _ rfl
      have w18 : Xi T1 904 60 = Xi S 904 60 := hFT1.x _ _ rfl
      have w19 : Xi T1 904 69 = Xi S 904 69 := hFT1.x _ _ rfl
      have w20 : Xi T1 904 70 = Xi S 904 70 := hFT1.x _ _ rfl
      have w21 : Xi T1 904 71 = Xi S 904 71 := hFT1.x _ _ rfl
      have w22 : Xi T1 904 72 = Xi S 904 72 := hFT1.x _ _ rfl
      have w23 : Xi T1 904 73 = Xi S 904 73 := hFT1.x _ _ rfl
      have w24 : Xi T1 904 74 = Xi S 904 74 := hFT1.x _ _ rfl
      have w25 : Xi T1 904 78 = Xi S 904 78 := hFT1.x _ _ rfl
      have w26 : Xi T1 904 94 = Xi S 904 94 := hFT1.x _ _ rfl
      have w27 : Xi T1 951 1 = Xi S 951 1 := hFT1.x _ _ rfl
      have w28 : Xi T1 951 2 = Xi S 951 2 := hFT1.x _ _ rfl
      have w29 : Xi T1 967 0 = Xi S 967 0 := hFT1.x _ _ rfl
      have w30 : -2147483648 ≤ Xi T1 904 15 ∧ Xi T1 904 15 ≤ 2147483647 := Xi_rgI
      have w31 : -2147483648 ≤ Xi T1 904 70 ∧ Xi T1 904 70 ≤ 2147483647 := Xi_rgI
      exfalso; omega
  refine y_aload_n rfl rfl ?_
  refine y_gfi rfl rfl rfl rfl rfl ?_
  refine y_tsw rfl rfl rfl rfl (by unfold rg; omega) (fun w32 => ?_) (fun ii tt hii w32 => ?_)
  · refine y_return rfl rfl ?_
    exact ⟨hH, hF, rfl⟩
  · match ii, hii with
    | 0, hii =>
      cases hii
      have w33 : (Xi S 904 70) = 0 := by simpa using w32
      exfalso; omega
    | 1, hii =>
      cases hii
      have w34 : (Xi S 904 70) = 1 := by simpa using w32
      exfalso; omega
    | 2, hii =>
      cases hii
      have w35 : (Xi S 904 70) = 2 := by simpa using w32
      exfalso; omega
    | 3, hii =>
      cases hii
      have w36 : (Xi S 904 70) = 3 := by simpa using w32
      refine y_return rfl rfl ?_
      exact ⟨hH, hF, rfl⟩
    | 4, hii =>
      cases hii
      have w37 : (Xi S 904 70) = 4 := by simpa using w32
      refine y_return rfl rfl ?_
      exact ⟨hH, hF, rfl⟩
    | 5, hii =>
      cases hii
      have w38 : (Xi S 904 70) = 5 := by simpa using w32
      refine y_return rfl rfl ?_
      exact ⟨hH, hF, rfl⟩
    | 6, hii =>
      cases hii
      have w39 : (Xi S 904 70) = 6 := by simpa using w32
      refine y_return rfl rfl ?_
      exact ⟨hH, hF, rfl⟩
    | 7, hii =>
      cases hii
      have w40 : (Xi S 904 70) = 7 := by simpa using w32
      exfalso; omega
    | 8, hii =>
      cases hii
      have w41 : (Xi S 904 70) = 8 := by simpa using w32
      refine y_aload_n rfl rfl ?_
      refine y_callV rfl rfl rfl (t_mo_doPlural__p hH (by first | assumption | exact (by assumption : LSP S)) (by first | assumption | omega) (by first | assumption | exact (RBD_FR hF rfl (by assumption : RBD S))) (by first | assumption | omega) _) ?_
      rintro _ T2 ⟨hHT2, w43, rfl, o278⟩
      have hFT2 : FR md_mo_does__8f S T2 := FR.tr hF w43 rfl
      show Pl _ _ _ _ _ _ [] _ _
      have K278 : True := trivial
      refine y_goto rfl rfl ?_
      refine y_return rfl rfl ?_
      exact ⟨hHT2, hFT2, rfl⟩
    | 9, hii =>
      cases hii
      have w45 : (Xi S 904 70) = 9 := by simpa using w32
      exfalso; omega
    | 10, hii =>
      cases hii
      have w46 : (Xi S 904 70) = 10 := by simpa using w32
      exfalso; omega
    | 11, hii =>
      cases hii
      have w47 : (Xi S 904 70) = 11 := by simpa using w32
      exfalso; omega
    | 12, hii =>
      cases hii
      have w48 : (Xi S 904 70) = 12 := by simpa using w32
      exfalso; omega
    | 13, hii =>
      cases hii
      have w49 : (Xi S 904 70) = 13 := by simpa using w32
      exfalso; omega
    | 14, hii =>
      cases hii
      have w50 : (Xi S 904 70) = 14 := by simpa using w32
      exfalso; omega
    | 15, hii =>
      cases hii
      have w51 : (Xi S 904 70) = 15 := by simpa using w32
      exfalso; omega
    | 16, hii =>
      cases hii
      have w52 : (Xi S 904 70) = 16 := by simpa using w32
      exfalso; omega
    | 17, hii =>
      cases hii
      have w53 : (Xi S 904 70) = 17 := by simpa using w32
      exfalso; omega
    | 18, hii =>
      cases hii
      have w54 : (Xi S 904 70) = 18 := by simpa using w32
      exfalso; omega
    | 19, hii =>
      cases hii
      have w55 : (Xi S 904 70) = 19 := by simpa using w32
      exfalso; omega
    | 20, hii =>
      cases hii
      have w56 : (Xi S 904 70) = 20 := by simpa using w32
      exfalso; omega
    | n + 21, hii => exact absurd hii (by simp)
def md_mo_does__9f : List rec := [(904, 905, 105, 106), (904, 905, 106, 107), (930, 931, 0, 100000), (931, 932, 0, 100000), (932, 933, 0, 100000), (933, 934, 0, 100000), (934, 935, 0, 100000), (935, 936, 0, 100000)]
abbrev Q_mo_does__9f (S : sS) (first : Int) : pst := fun r S1 => RI S1 ∧ FR md_mo_does__9f S S1 ∧ (r = none)
set_option maxRecDepth 100000 in
theorem t_mo_does__9f {S : sS} (hH : RI S) (first : Int) (hfirst : 0 ≤ first ∧ first ≤ 5001) (hLS : LSP S) (h15 : 0 ≤ Xi S 904 15) (hRB : RBD S) (hLX : LXR S) (hz0 : Xi S 904 106 = 0) (h7 : rnR S 0 7 ≠ -1) (h17 : rnR S 1 4 = -1 → rnR S 1 0 ≠ -1) (hs : Xi S 904 70 = 9) (d : Nat) : Mp lay0 (d + 8) m_mo_does [.ref 904, iv first] S (Q_mo_does__9f S first) := by
  refine Mp_R rfl rfl (fun fu => ?_)
  have hF : FR md_mo_does__9f S S := FR.rf
  have w1 : -2147483648 ≤ Xi S 904 106 ∧ Xi S 904 106 ≤ 2147483647 := Xi_rgI
  have w2 : -2147483648 ≤ Xi S 904 117 ∧ Xi S 904 117 ≤ 2147483647 := Xi_rgI
  have w3 : -2147483648 ≤ Xi S 904 15 ∧ Xi S 904 15 ≤ 2147483647 := Xi_rgI
  have w4 : -2147483648 ≤ Xi S 904 70 ∧ Xi S 904 70 ≤ 2147483647 := Xi_rgI
  have C300 : ∀ (n300 : Nat) (_ : n300 ≤ fu) (T1 : sS) (_ : RI T1) (_ : FR md_mo_does__9f S T1) (v2 : Int), (-2147483648 ≤ v2 ∧ v2 ≤ 2147483647) → ((1 : Int) = 0) → Pl n300 lay0 (d + 7) m_mo_does 300 [(0, .ref 904), (2, iv v2)] [] T1 (Q_mo_does__9f S first) := by
    intro n300
    induction n300 with
    | zero => intros; exact Pl_0
    | succ n300 ih300 =>
      intro hm300 T1 hHT1 hFT1 v2 w5 w6
      have w7 : Xi T1 904 110 = Xi S 904 110 := hFT1.x _ _ rfl
      have w8 : Xi T1 904 112 = Xi S 904 112 := hFT1.x _ _ rfl
      have w9 : Xi T1 904 117 = Xi S 904 117 := hFT1.x _ _ rfl
      have w10 : Xi T1 904 142 = Xi S 904 142 := hFT1.x _ _ rfl
      have w11 : Xi T1 904 15 = Xi S 904 15 := hFT1.x _ _ rfl
      have w12 : Xi T1 904 16 = Xi S 904 16 := hFT1.x _ _ rfl
      have w13 : Xi T1 904 18 = Xi S 904 18 := hFT1.x _ _ rfl
      have w14 : Xi T1 904 19 = Xi S 904 19 := hFT1.x _ _ rfl
      have w15 : Xi T1 904 23 = Xi S 904 23 := hFT1.x _ _ rfl
      have w16 : Xi T1 904 30 = Xi S 904 30 := hFT1.x _ _ rfl
      have w17 : Xi T1 904 32 = Xi S 904 32 := hFT1.x _ _ rfl
      have w18 : Xi T1 904 49 = Xi S 904 49 := hFT1.x _ _ rfl
      have w19 : Xi T1 904 55 = Xi S 904 55 := hFT1.x _ _ rfl
      have w20 : Xi T1 904 60 = Xi S 904 60 := hFT1.x _ _ rfl
      have w21 : Xi T1 904 69 = Xi S 904 69 := hFT1.x _ _ rfl
      have w22 : Xi T1 904 70 = Xi S 904 70 := hFT1.x _ _ rfl
      have w23 : Xi T1 904 71 = Xi S 904 71 := hFT1.x _ _ rfl
      have w24 : Xi T1 904 72 = Xi S 904 72 := hFT1.x _ _ rfl
      have w25 : Xi T1 904 73 = Xi S 904 73 := hFT1.x _ _ rfl
      have w26 : Xi T1 904 74 = Xi S 904 74 := hFT1.x _ _ rfl
      have w27 : Xi T1 904 78 = Xi S 904 78 := hFT1.x _ _ rfl
      have w28 : Xi T1 904 94 = Xi S 904 94 := hFT1.x _ _ rfl
      have w29 : Xi T1 951 1 = Xi S 951 1 := hFT1.x _ _ rfl
      have w30 : Xi T1 951 2 = Xi S 951 2 := hFT1.x _ _ rfl
      have w31 : Xi T1 967 0 = Xi S 967 0 := hFT1.x _ _ rfl
      have w32 : -2147483648 ≤ Xi T1 904 106 ∧ Xi T1 904 106 ≤ 2147483647 := Xi_rgI
      have w33 : -2147483648 ≤ Xi T1 904 117 ∧ Xi T1 904 117 ≤ 2147483647 := Xi_rgI
      have w34 : -2147483648 ≤ Xi T1 904 15 ∧ Xi T1 904 15 ≤ 2147483647 := Xi_rgI
      have w35 : -2147483648 ≤ Xi T1 904 70 ∧ Xi T1 904 70 ≤ 2147483647 := Xi_rgI
      exfalso; omega
  refine y_aload_n rfl rfl ?_
  refine y_gfi rfl rfl rfl rfl rfl ?_
  refine y_tsw rfl rfl rfl rfl (by unfold rg; omega) (fun w36 => ?_) (fun ii tt hii w36 => ?_)
  · refine y_return rfl rfl ?_
    exact ⟨hH, hF, rfl⟩
  · match ii, hii with
    | 0, hii =>
      cases hii
      have w37 : (Xi S 904 70) = 0 := by simpa using w36
      exfalso; omega
    | 1, hii =>
      cases hii
      have w38 : (Xi S 904 70) = 1 := by simpa using w36
      exfalso; omega
    | 2, hii =>
      cases hii
      have w39 : (Xi S 904 70) = 2 := by simpa using w36
      exfalso; omega
    | 3, hii =>
      cases hii
      have w40 : (Xi S 904 70) = 3 := by simpa using w36
      refine y_return rfl rfl ?_
      exact ⟨hH, hF, rfl⟩
    | 4, hii =>
      cases hii
      have w41 : (Xi S 904 70) = 4 := by simpa using w36
      refine y_return rfl rfl ?_
      exact ⟨hH, hF, rfl⟩
    | 5, hii =>
      cases hii
      have w42 : (Xi S 904 70) = 5 := by simpa using w36
      refine y_return rfl rfl ?_
      exact ⟨hH, hF, rfl⟩
    | 6, hii =>
      cases hii
      have w43 : (Xi S 904 70) = 6 := by simpa using w36
      refine y_return rfl rfl ?_
      exact ⟨hH, hF, rfl⟩
    | 7, hii =>
      cases hii
      have w44 : (Xi S 904 70) = 7 := by simpa using w36
      exfalso; omega
    | 8, hii =>
      cases hii
      have w45 : (Xi S 904 70) = 8 := by simpa using w36
      exfalso; omega
    | 9, hii =>
      cases hii
      have w46 : (Xi S 904 70) = 9 := by simpa using w36
      refine y_aload_n rfl rfl ?_
      refine y_callV rfl rfl rfl (t_mo_doProperty__p hH (by first | assumption | exact (LSP_FR hF rfl rfl (by assumption : LSP S))) (by first | assumption | omega) (by first | assumption | exact (RBD_FR hF rfl (by assumption : RBD S))) (by first | assumption | exact (LXR_FR hF rfl rfl (by assumption : LXR S))) (by first | assumption | omega) (by first | assumption | omega) (by first | assumption | omega) _) ?_
      rintro _ T2 ⟨hHT2, w48, rfl, o285⟩
      have hFT2 : FR md_mo_does__9f S T2 := FR.tr hF w48 rfl
      show Pl _ _ _ _ _ _ [] _ _
      have K285 : True := trivial
      refine y_goto rfl rfl ?_
      refine y_return rfl rfl ?_
      exact ⟨hHT2, hFT2, rfl⟩
    | 10, hii =>
      cases hii
      have w52 : (Xi S 904 70) = 10 := by simpa using w36
      exfalso; omega
    | 11, hii =>
      cases hii
      have w53 : (Xi S 904 70) = 11 := by simpa using w36
      exfalso; omega
    | 12, hii =>
      cases hii
      have w54 : (Xi S 904 70) = 12 := by simpa using w36
      exfalso; omega
    | 13, hii =>
      cases hii
      have w55 : (Xi S 904 70) = 13 := by simpa using w36
      exfalso; omega
    | 14, hii =>
      cases hii
      have w56 : (Xi S 904 70) = 14 := by simpa using w36
      exfalso; omega
    | 15, hii =>
      cases hii
      have w57 : (Xi S 904 70) = 15 := by simpa using w36
      exfalso; omega
    | 16, hii =>
      cases hii
      have w58 : (Xi S 904 70) = 16 := by simpa using w36
      exfalso; omega
    | 17, hii =>
      cases hii
      have w59 : (Xi S 904 70) = 17 := by simpa using w36
      exfalso; omega
    | 18, hii =>
      cases hii
      have w60 : (Xi S 904 70) = 18 := by simpa using w36
      exfalso; omega
    | 19, hii =>
      cases hii
      have w61 : (Xi S 904 70) = 19 := by simpa using w36
      exfalso; omega
    | 20, hii =>
      cases hii
      have w62 : (Xi S 904 70) = 20 := by simpa using w36
      exfalso; omega
    | n + 21, hii => exact absurd hii (by simp)
def md_mo_does__10f : List rec := [(904, 905, 15, 16), (904, 905, 16, 17), (904, 905, 18, 19), (912, 913, 0, 100000), (913, 914, 0, 100000), (914, 915, 0, 100000), (915, 916, 0, 100000), (916, 917, 0, 100000), (917, 918, 0, 100000), (926, 927, 0, 100000), (929, 930, 0, 100000), (933, 934, 0, 100000)]
abbrev Q_mo_does__10f (S : sS) (first : Int) : pst := fun r S1 => RI S1 ∧ FR md_mo_does__10f S S1 ∧ (r = none)
set_option maxRecDepth 100000 in
theorem t_mo_does__10f {S : sS} (hH : RI S) (first : Int) (hfirst : 0 ≤ first ∧ first ≤ 5001) (hLS : LSP S) (h15 : 0 ≤ Xi S 904 15) (hRB : RBD S) (hLX : LXR S) (hl : 0 ≤ Xi S 904 71 ∧ Xi S 904 71 ≤ 2600 ∧ 0 ≤ Xi S 904 72 ∧ Xi S 904 72 ≤ 2600) (hs : Xi S 904 70 = 10) (ha : 0 ≤ Xi S 904 16 ∧ Xi S 904 16 ≤ 16 ∧ 0 ≤ Xi S 904 18 ∧ Xi S 904 18 ≤ 8) (hb : cKR S + Xi S 904 72 ≤ 16) (h15b : Xi S 904 15 ≤ 100000) (d : Nat) : Mp lay0 (d + 8) m_mo_does [.ref 904, iv first] S (Q_mo_does__10f S first) := by
  refine Mp_R rfl rfl (fun fu => ?_)
  have hF : FR md_mo_does__10f S S := FR.rf
  have w1 : -2147483648 ≤ Xi S 904 15 ∧ Xi S 904 15 ≤ 2147483647 := Xi_rgI
  have w2 : -2147483648 ≤ Xi S 904 16 ∧ Xi S 904 16 ≤ 2147483647 := Xi_rgI
  have w3 : -2147483648 ≤ Xi S 904 18 ∧ Xi S 904 18 ≤ 2147483647 := Xi_rgI
  have w4 : -2147483648 ≤ Xi S 904 70 ∧ Xi S 904 70 ≤ 2147483647 := Xi_rgI
  have w5 : -2147483648 ≤ Xi S 904 71 ∧ Xi S 904 71 ≤ 2147483647 := Xi_rgI
  have w6 : -2147483648 ≤ Xi S 904 72 ∧ Xi S 904 72 ≤ 2147483647 := Xi_rgI
  have C300 : ∀ (n300 : Nat) (_ : n300 ≤ fu) (T1 : sS) (_ : RI T1) (_ : FR md_mo_does__10f S T1) (v2 : Int), (-2147483648 ≤ v2 ∧ v2 ≤ 2147483647) → ((1 : Int) = 0) → Pl n300 lay0 (d + 7) m_mo_does 300 [(0, .ref 904), (2, iv v2)] [] T1 (Q_mo_does__10f S first) := by
    intro n300
    induction n300 with
    | zero => intros; exact Pl_0
    | succ n300 ih300 =>
      intro hm300 T1 hHT1 hFT1 v2 w7 w8
      have w9 : Xi T1 904 106 = Xi S 904 106 := hFT1.x _ _ rfl
      have w10 : Xi T1 904 110 = Xi S 904 110 := hFT1.x _ _ rfl
      have w11 : Xi T1 904 112 = Xi S 904 112 := hFT1.x _ _ rfl
      have w12 : Xi T1 904 117 = Xi S 904 117 := hFT1.x _ _ rfl
      have w13 : Xi T1 904 142 = Xi S 904 142 := hFT1.x _ _ rfl
      have w14 : Xi T1 904 19 = Xi S 904 19 := hFT1.x _ _ rfl
      have w15 : Xi T1 904 23 = Xi S 904 23 := hFT1.x _ _ rfl
      have w16 : Xi T1 904 30 = Xi S 904 30 := hFT1.x _ _ rfl
      have w17 : Xi T1 904 32 = Xi S 904 32 := hFT1.x _ _ rfl
      have w18 : Xi T1 904 49 = Xi S 904 49 := hFT1.x _ _ rfl
      have w19 : Xi T1 904 55 = Xi S 904 55 := hFT1.x _ _ rfl
      have w20 : Xi T1 904 60 = Xi S 904 60 := hFT1.x _ _ rfl
      have w21 : Xi T1 904 69 = Xi S 904 69 := hFT1.x _ _ rfl
      have w22 : Xi T1 904 70 = Xi S 904 70 := hFT1.x _ _ rfl
      have w23 : Xi T1 904 71 = Xi S 904 71 := hFT1.x _ _ rfl
      have w24 : Xi T1 904 72 = Xi S 904 72 := hFT1.x _ _ rfl
      have w25 : Xi T1 904 73 = Xi S 904 73 := hFT1.x _ _ rfl
      have w26 : Xi T1 904 74 = Xi S 904 74 := hFT1.x _ _ rfl
      have w27 : Xi T1 904 78 = Xi S 904 78 := hFT1.x _ _ rfl
      have w28 : Xi T1 904 94 = Xi S 904 94 := hFT1.x _ _ rfl
      have w29 : Xi T1 951 1 = Xi S 951 1 := hFT1.x _ _ rfl
      have w30 : Xi T1 951 2 = Xi S 951 2 := hFT1.x _ _ rfl
      have w31 : Xi T1 967 0 = Xi S 967 0 := hFT1.x _ _ rfl
      have w32 : -2147483648 ≤ Xi T1 904 15 ∧ Xi T1 904 15 ≤ 2147483647 := Xi_rgI
      have w33 : -2147483648 ≤ Xi T1 904 70 ∧ Xi T1 904 70 ≤ 2147483647 := Xi_rgI
      exfalso; omega
  refine y_aload_n rfl rfl ?_
  refine y_gfi rfl rfl rfl rfl rfl ?_
  refine y_tsw rfl rfl rfl rfl (by unfold rg; omega) (fun w34 => ?_) (fun ii tt hii w34 => ?_)
  · refine y_return rfl rfl ?_
    exact ⟨hH, hF, rfl⟩
  · match ii, hii with
    | 0, hii =>
      cases hii
      have w35 : (Xi S 904 70) = 0 := by simpa using w34
      exfalso; omega
    | 1, hii =>
      cases hii
      have w36 : (Xi S 904 70) = 1 := by simpa using w34
      exfalso; omega
    | 2, hii =>
      cases hii
      have w37 : (Xi S 904 70) = 2 := by simpa using w34
      exfalso; omega
    | 3, hii =>
      cases hii
      have w38 : (Xi S 904 70) = 3 := by simpa using w34
      refine y_return rfl rfl ?_
      exact ⟨hH, hF, rfl⟩
    | 4, hii =>
      cases hii
      have w39 : (Xi S 904 70) = 4 := by simpa using w34
      refine y_return rfl rfl ?_
      exact ⟨hH, hF, rfl⟩
    | 5, hii =>
      cases hii
      have w40 : (Xi S 904 70) = 5 := by simpa using w34
      refine y_return rfl rfl ?_
      exact ⟨hH, hF, rfl⟩
    | 6, hii =>
      cases hii
      have w41 : (Xi S 904 70) = 6 := by simpa using w34
      refine y_return rfl rfl ?_
      exact ⟨hH, hF, rfl⟩
    | 7, hii =>
      cases hii
      have w42 : (Xi S 904 70) = 7 := by simpa using w34
      exfalso; omega
    | 8, hii =>
      cases hii
      have w43 : (Xi S 904 70) = 8 := by simpa using w34
      exfalso; omega
    | 9, hii =>
      cases hii
      have w44 : (Xi S 904 70) = 9 := by simpa using w34
      exfalso; omega
    | 10, hii =>
      cases hii
      have w45 : (Xi S 904 70) = 10 := by simpa using w34
      refine y_aload_n rfl rfl ?_
      refine y_callV rfl rfl rfl (t_mo_doKinds__p hH (by first | assumption | exact (by assumption : LSP S)) (by first | assumption | omega) (by first | assumption | exact (RBD_FR hF rfl (by assumption : RBD S))) (by first | assumption | exact (by assumption : LXR S)) (by first | assumption | omega) (by first | assumption | omega) (by first | assumption | omega) (by first | assumption | omega) _) ?_
      rintro _ T2 ⟨hHT2, w47, rfl, o292⟩
      have hFT2 : FR md_mo_does__10f S T2 := FR.tr hF w47 rfl
      show Pl _ _ _ _ _ _ [] _ _
      have K292 : True := trivial
      refine y_goto rfl rfl ?_
      refine y_return rfl rfl ?_
      exact ⟨hHT2, hFT2, rfl⟩
    | 11, hii =>
      cases hii
      have w49 : (Xi S 904 70) = 11 := by simpa using w34
      exfalso; omega
    | 12, hii =>
      cases hii
      have w50 : (Xi S 904 70) = 12 := by simpa using w34
      exfalso; omega
    | 13, hii =>
      cases hii
      have w51 : (Xi S 904 70) = 13 := by simpa using w34
      exfalso; omega
    | 14, hii =>
      cases hii
      have w52 : (Xi S 904 70) = 14 := by simpa using w34
      exfalso; omega
    | 15, hii =>
      cases hii
      have w53 : (Xi S 904 70) = 15 := by simpa using w34
      exfalso; omega
    | 16, hii =>
      cases hii
      have w54 : (Xi S 904 70) = 16 := by simpa using w34
      exfalso; omega
    | 17, hii =>
      cases hii
      have w55 : (Xi S 904 70) = 17 := by simpa using w34
      exfalso; omega
    | 18, hii =>
      cases hii
      have w56 : (Xi S 904 70) = 18 := by simpa using w34
      exfalso; omega
    | 19, hii =>
      cases hii
      have w57 : (Xi S 904 70) = 19 := by simpa using w34
      exfalso; omega
    | 20, hii =>
      cases hii
      have w58 : (Xi S 904 70) = 20 := by simpa using w34
      exfalso; omega
    | n + 21, hii => exact absurd hii (by simp)
def md_mo_does__11f : List rec := [(904, 905, 15, 16), (904, 905, 49, 50), (912, 913, 0, 100000), (913, 914, 0, 100000), (914, 915, 0, 100000), (915, 916, 0, 100000), (916, 917, 0, 100000), (942, 943, 0, 100000)]
abbrev Q_mo_does__11f (S : sS) (first : Int) : pst := fun r S1 => RI S1 ∧ FR md_mo_does__11f S S1 ∧ (r = none)
set_option maxRecDepth 100000 in
theorem t_mo_does__11f {S : sS} (hH : RI S) (first : Int) (hfirst : 0 ≤ first ∧ first ≤ 5001) (hLS : LSP S) (h15 : 0 ≤ Xi S 904 15) (hRB : RBD S) (hLX : LXR S) (hl : 0 ≤ Xi S 904 71 ∧ Xi S 904 71 ≤ 2600 ∧ 0 ≤ Xi S 904 72 ∧ Xi S 904 72 ≤ 2600) (hs : Xi S 904 70 = 11) (hk : Hid (Xi S 904 78 ≠ -1 → rnR S (Xi S 904 78) 0 ≠ -1)) (ha : 0 ≤ Xi S 904 49 ∧ Xi S 904 49 + Xi S 904 72 ≤ 12) (h15b : Xi S 904 15 ≤ 100000) (d : Nat) : Mp lay0 (d + 8) m_mo_does [.ref 904, iv first] S (Q_mo_does__11f S first) := by
  refine Mp_R rfl rfl (fun fu => ?_)
  have hF : FR md_mo_does__11f S S := FR.rf
  have w1 : -2147483648 ≤ Xi S 904 15 ∧ Xi S 904 15 ≤ 2147483647 := Xi_rgI
  have w2 : -2147483648 ≤ Xi S 904 49 ∧ Xi S 904 49 ≤ 2147483647 := Xi_rgI
  have w3 : -2147483648 ≤ Xi S 904 70 ∧ Xi S 904 70 ≤ 2147483647 := Xi_rgI
  have w4 : -2147483648 ≤ Xi S 904 71 ∧ Xi S 904 71 ≤ 2147483647 := Xi_rgI
  have w5 : -2147483648 ≤ Xi S 904 72 ∧ Xi S 904 72 ≤ 2147483647 := Xi_rgI
  have w6 : -2147483648 ≤ Xi S 904 78 ∧ Xi S 904 78 ≤ 2147483647 := Xi_rgI
  have hkr : rg (kdW S) := kdw_rg hLX h15
  have C300 : ∀ (n300 : Nat) (_ : n300 ≤ fu) (T1 : sS) (_ : RI T1) (_ : FR md_mo_does__11f S T1) (v2 : Int), (0 ≤ v2 ∧ v2 ≤ 2600) → (0 ≤ v2 ∧ v2 ≤ Xi S 904 72) → (Hid (TLL S 11 (Xi S 904 49) (Xi S 904 71) (v2).toNat T1)) → (Hid (ARN S T1 942 (Xi S 904 49) (kdW S) (v2).toNat)) → (LSP T1) → (Hid (Xi S 904 78 ≠ -1 → rnR T1 (Xi S 904 78) 0 = rnR S (Xi S 904 78) 0)) → (Xi T1 904 49 = Xi S 904 49 + v2) → (Xi T1 904 15 = Xi S 904 15 + v2) → (Xi T1 904 78 = Xi S 904 78) → (Xi T1 904 71 = Xi S 904 71) → (Xi T1 904 72 = Xi S 904 72) → Pl n300 lay0 (d + 7) m_mo_does 300 [(0, .ref 904), (2, iv v2)] [] T1 (Q_mo_does__11f S first) := by
    intro n300
    induction n300 with
    | zero => intros; exact Pl_0
    | succ n300 ih300 =>
      intro hm300 T1 hHT1 hFT1 v2 w7 w8 M300 A300 L300 k300 w9 w10 w11 w12 w13
      have w14 : Xi T1 904 106 = Xi S 904 106 := hFT1.x _ _ rfl
      have w15 : Xi T1 904 110 = Xi S 904 110 := hFT1.x _ _ rfl
      have w16 : Xi T1 904 112 = Xi S 904 112 := hFT1.x _ _ rfl
      have w17 : Xi T1 904 117 = Xi S 904 117 := hFT1.x _ _ rfl
      have w18 : Xi T1 904 142 = Xi S 904 142 := hFT1.x _ _ rfl
      have w19 : Xi T1 904 16 = Xi S 904 16 := hFT1.x _ _ rfl
      have w20 : Xi T1 904 18 = Xi S 904 18 := hFT1.x _ _ rfl
      have w21 : Xi T1 904 19 = Xi S 904 19 := hFT1.x _ _ rfl
      have w22 : Xi T1 904 23 = Xi S 904 23 := hFT1.x _ _ rfl
      have w23 : Xi T1 904 30 = Xi S 904 30 := hFT1.x _ _ rfl
      have w24 : Xi T1 904 32 = Xi S 904 32 := hFT1.x _ _ rfl
      have w25 : Xi T1 904 55 = Xi S 904 55 := hFT1.x _ _ rfl
      have w26 : Xi T1 904 60 = Xi S 904 60 := hFT1.x _ _ rfl
      have w27 : Xi T1 904 69 = Xi S 904 69 := hFT1.x _ _ rfl
      have w28 : Xi T1 904 70 = Xi S 904 70 := hFT1.x _ _ rfl
      have w29 : Xi T1 904 71 = Xi S 904 71 := hFT1.x _ _ rfl
      have w30 : Xi T1 904 72 = Xi S 904 72 := hFT1.x _ _ rfl
      have w31 : Xi T1 904 73 = Xi S 904 73 := hFT1.x _ _ rfl
      have w32 : Xi T1 904 74 = Xi S 904 74 := hFT1.x _ _ rfl
      have w33 : Xi T1 904 78 = Xi S 904 78 := hFT1.x _ _ rfl
      have w34 : Xi T1 904 94 = Xi S 904 94 := hFT1.x _ _ rfl
      have w35 : Xi T1 951 1 = Xi S 951 1 := hFT1.x _ _ rfl
      have w36 : Xi T1 951 2 = Xi S 951 2 := hFT1.x _ _ rfl
      have w37 : Xi T1 967 0 = Xi S 967 0 := hFT1.x _ _ rfl
      have w38 : -2147483648 ≤ Xi T1 904 15 ∧ Xi T1 904 15 ≤ 2147483647 := Xi_rgI
      have w39 : -2147483648 ≤ Xi T1 904 49 ∧ Xi T1 904 49 ≤ 2147483647 := Xi_rgI
      have w40 : -2147483648 ≤ Xi T1 904 70 ∧ Xi T1 904 70 ≤ 2147483647 := Xi_rgI
      have w41 : -2147483648 ≤ Xi T1 904 71 ∧ Xi T1 904 71 ≤ 2147483647 := Xi_rgI
      have w42 : -2147483648 ≤ Xi T1 904 72 ∧ Xi T1 904 72 ≤ 2147483647 := Xi_rgI
      have w43 : -2147483648 ≤ Xi T1 904 78 ∧ Xi T1 904 78 ≤ 2147483647 := Xi_rgI
      refine ys_iload_n rfl rfl ?_
      refine y_aload_n rfl rfl ?_
      refine y_gfi rfl rfl rfl rfl rfl ?_
      refine y_icmp_ge rfl rfl (by unfold rg; omega) (by unfold rg; omega) (fun w44 => ?_) (fun w45 => ?_)
      · refine y_goto rfl rfl ?_
        refine y_return rfl rfl ?_
        exact ⟨hHT1, hFT1, rfl⟩
      · refine y_aload_n rfl rfl ?_
        refine y_bipush rfl rfl ?_
        refine y_aload_n rfl rfl ?_
        refine y_aload_n rfl rfl ?_
        refine y_gfi rfl rfl rfl rfl rfl ?_
        refine y_iconst rfl ?_
        refine y_icmp_ne rfl rfl (by unfold rg; omega) (by unfold rg; omega) (fun w46 => ?_) (fun w47 => ?_)
        · refine y_aload_n rfl rfl ?_
          refine y_aload_n rfl rfl ?_
          refine y_gfi rfl rfl rfl rfl rfl ?_
          refine y_iconst rfl ?_
          refine y_callV rfl rfl rfl (t_mo_meansRun__p hHT1 (Xi T1 904 78) 0 ⟨by omega, by omega⟩ ⟨by omega, by omega⟩ (by first | assumption | exact (by assumption : LSP T1)) (by first | assumption | omega) (by first | assumption | exact (RBD_FR hFT1 rfl (by assumption : RBD S))) _) ?_
          rintro _ _ ⟨rfl, z48, rfl, w48, f330⟩
          show Pl _ _ _ _ _ _ [iv z48, .ref 904, iv 11, .ref 904] _ _
          have K330 : z48 = kdW S := by have t := f330; rw [show Xi T1 904 78 = Xi S 904 78 by omega] at t; exact (t.trans (k300.o (by omega))).trans (kdr_y (by omega))
          clear f330
          refine y_callV rfl rfl rfl (t_mo_addAction__p hHT1 z48 ⟨by omega, by omega⟩ (by first | assumption | omega) _) ?_
          rintro _ T2 ⟨hHT2, w50, z49, rfl, w49, z333, e333⟩
          have hFT2 : FR md_mo_does__11f S T2 := FR.tr hFT1 w50 rfl
          show Pl _ _ _ _ _ _ [iv z49, iv 11, .ref 904] _ _
          have F333 := (by assumption : FR md_mo_addAction__p T1 T2)
          have A333 : Hid (ARN S T2 942 (Xi S 904 49) (kdW S) (v2.toNat + 1)) := act1_arn A300.o (Eq.subst (motive := fun x => ACT1 T1 T2 x) (by first | exact K330 | exact kdr_n (by omega)) e333) (by omega) (by omega) hkr
          have c333 : Xi T2 904 49 = Xi T1 904 49 + 1 := e333.1
          clear e333
          have S333 : Hid (SMR T1 T2) := SMR_FR F333 rfl rfl
          have M333 : Hid (TLL S 11 (Xi S 904 49) (Xi S 904 71) (v2).toNat T2) := tll_p M300.o S333.o
          have l333 : LSP T2 := LSP_FR F333 rfl rfl L300
          have q333 : Xi T2 904 15 = Xi T1 904 15 := F333.x 904 15 rfl
          have k333 : Hid (Xi S 904 78 ≠ -1 → rnR T2 (Xi S 904 78) 0 = rnR S (Xi S 904 78) 0) := fun w => (rnR_sm S333.o).trans (k300.o w)
          refine y_aload_n rfl rfl ?_
          refine y_gfi rfl rfl rfl rfl rfl ?_
          have w51 : (Xi T2 904 71) = (Xi T1 904 71) := (show Xi T2 904 71 = Xi T1 904 71 from w50.x _ _ rfl)
          rw [w51]
          refine y_iload_n rfl rfl ?_
          refine y_iadd rfl ?_
          have w52 : Xi T2 904 15 = Xi T1 904 15 := (show Xi T2 904 15 = Xi T1 904 15 from w50.x _ _ rfl)
          have w53 : Xi T2 904 70 = Xi T1 904 70 := (show Xi T2 904 70 = Xi T1 904 70 from w50.x _ _ rfl)
          have w54 : Xi T2 904 71 = Xi T1 904 71 := (show Xi T2 904 71 = Xi T1 904 71 from w50.x _ _ rfl)
          have w55 : Xi T2 904 72 = Xi T1 904 72 := (show Xi T2 904 72 = Xi T1 904 72 from w50.x _ _ rfl)
          have w56 : Xi T2 904 78 = Xi T1 904 78 := (show Xi T2 904 78 = Xi T1 904 78 from w50.x _ _ rfl)
          refine y_callV rfl rfl rfl (t_mo_tellRun__p hHT2 11 z49 ((Xi T1 904 71) + v2) ⟨by omega, by omega⟩ ⟨by omega, by omega⟩ ⟨by omega, by omega⟩ (by first | assumption | exact (RBD_FR hFT2 rfl (by assumption : RBD S))) _) ?_
          rintro _ T3 ⟨hHT3, w58, rfl, e342⟩
          have hFT3 : FR md_mo_does__11f S T3 := FR.tr hFT2 w58 rfl
          show Pl _ _ _ _ _ _ [] _ _
          have K342 : True := trivial
          have F342 := (by assumption : FR md_mo_tellRun__p T2 T3)
          have M342 : Hid (TLL S 11 (Xi S 904 49) (Xi S 904 71) (v2.toNat + 1) T3) := tll_s M333.o e342 (by omega) (by omega) (fun j => (hFT2.cx 910 rfl j).2) (fun j => (hFT2.cx 950 rfl j).1) (fun j => (hFT2.cx 951 rfl j).1)
          have l342 : LSP T3 := LSP_tl e342 (by omega) (by omega) l333
          have q342 : Xi T3 904 15 = Xi T2 904 15 + 1 := e342.2.2
          have k342 : Hid (Xi S 904 78 ≠ -1 → rnR T3 (Xi S 904 78) 0 = rnR S (Xi S 904 78) 0) := fun w => rnR_w e342 (by omega) (fun j => (F342.cx 910 rfl j).2) (fun j => (F342.cx 950 rfl j).1) (fun j => (F342.cx 951 rfl j).1) (hk.o w) (k333.o w)
          have A342 : Hid (ARN S T3 942 (Xi S 904 49) (kdW S) (v2.toNat + 1)) := arn_k A333.o (fun j => (F342.cx 942 rfl j).1)
          clear e342
          refine y_iinc rfl rfl rfl rfl ?_
          refine y_goto rfl rfl ?_
          have w59 : Xi T3 904 49 = Xi T2 904 49 := (show Xi T3 904 49 = Xi T2 904 49 from w58.x _ _ rfl)
          have w60 : Xi T3 904 70 = Xi T1 904 70 := (show Xi T3 904 70 = Xi T2 904 70 from w58.x _ _ rfl).trans ((show Xi T2 904 70 = Xi T1 904 70 from w50.x _ _ rfl))
          have w61 : Xi T3 904 71 = Xi T1 904 71 := (show Xi T3 904 71 = Xi T2 904 71 from w58.x _ _ rfl).trans ((show Xi T2 904 71 = Xi T1 904 71 from w50.x _ _ rfl))
          have w62 : Xi T3 904 72 = Xi T1 904 72 := (show Xi T3 904 72 = Xi T2 904 72 from w58.x _ _ rfl).trans ((show Xi T2 904 72 = Xi T1 904 72 from w50.x _ _ rfl))
          have w63 : Xi T3 904 78 = Xi T1 904 78 := (show Xi T3 904 78 = Xi T2 904 78 from w58.x _ _ rfl).trans ((show Xi T2 904 78 = Xi T1 904 78 from w50.x _ _ rfl))
          exact Pl_weak (ih300 (by omega) T3 hHT3 hFT3 ((v2 + 1)) (by omega) (by omega) (by first | (have t := K342; rw [show (v2 + 1).toNat = v2.toNat + 1 by omega]; exact M342.o) | exact SMR.rf) (by first | (have t := K342; rw [show (v2 + 1).toNat = v2.toNat + 1 by omega]; exact A342.o) | exact arn_0 (fun _ => rfl)) (by first | (have t := K342; exact l342) | exact hLS) (by first | (have t := K342; exact k342.o) | exact (fun _ => rfl)) (by omega) (by omega) (by omega) (by omega) (by omega)) (by omega) (And.intro rfl (And.intro rfl (True.intro)))
        · refine y_iconst rfl ?_
          refine y_goto rfl rfl ?_
          refine y_callV rfl rfl rfl (t_mo_addAction__p hHT1 (-1) ⟨by omega, by omega⟩ (by first | assumption | omega) _) ?_
          rintro _ T4 ⟨hHT4, w65, z64, rfl, w64, z333, e333⟩
          have hFT4 : FR md_mo_does__11f S T4 := FR.tr hFT1 w65 rfl
          show Pl _ _ _ _ _ _ [iv z64, iv 11, .ref 904] _ _
          have F333 := (by assumption : FR md_mo_addAction__p T1 T4)
          have A333 : Hid (ARN S T4 942 (Xi S 904 49) (kdW S) (v2.toNat + 1)) := act1_arn A300.o (Eq.subst (motive := fun x => ACT1 T1 T4 x) (by first | exact K330 | exact kdr_n (by omega)) e333) (by omega) (by omega) hkr
          have c333 : Xi T4 904 49 = Xi T1 904 49 + 1 := e333.1
          clear e333
          have S333 : Hid (SMR T1 T4) := SMR_FR F333 rfl rfl
          have M333 : Hid (TLL S 11 (Xi S 904 49) (Xi S 904 71) (v2).toNat T4) := tll_p M300.o S333.o
          have l333 : LSP T4 := LSP_FR F333 rfl rfl L300
          have q333 : Xi T4 904 15 = Xi T1 904 15 := F333.x 904 15 rfl
          have k333 : Hid (Xi S 904 78 ≠ -1 → rnR T4 (Xi S 904 78) 0 = rnR S (Xi S 904 78) 0) := fun w => (rnR_sm S333.o).trans (k300.o w)
          refine y_aload_n rfl rfl ?_
          refine y_gfi rfl rfl rfl rfl rfl ?_
          have w66 : (Xi T4 904 71) = (Xi T1 904 71) := (show Xi T4 904 71 = Xi T1 904 71 from w65.x _ _ rfl)
          rw [w66]
          refine y_iload_n rfl rfl ?_
          refine y_iadd rfl ?_
          have w67 : Xi T4 904 15 = Xi T1 904 15 := (show Xi T4 904 15 = Xi T1 904 15 from w65.x _ _ rfl)
          have w68 : Xi T4 904 70 = Xi T1 904 70 := (show Xi T4 904 70 = Xi T1 904 70 from w65.x _ _ rfl)
          have w69 : Xi T4 904 71 = Xi T1 904 71 := (show Xi T4 904 71 = Xi T1 904 71 from w65.x _ _ rfl)
          have w70 : Xi T4 904 72 = Xi T1 904 72 := (show Xi T4 904 72 = Xi T1 904 72 from w65.x _ _ rfl)
          have w71 : Xi T4 904 78 = Xi T1 904 78 := (show Xi T4 904 78 = Xi T1 904 78 from w65.x _ _ rfl)
          refine y_callV rfl rfl rfl (t_mo_tellRun__p hHT4 11 z64 ((Xi T1 904 71) + v2) ⟨by omega, by omega⟩ ⟨by omega, by omega⟩ ⟨by omega, by omega⟩ (by first | assumption | exact (RBD_FR hFT4 rfl (by assumption : RBD S))) _) ?_
          rintro _ T5 ⟨hHT5, w73, rfl, e342⟩
          have hFT5 : FR md_mo_does__11f S T5 := FR.tr hFT4 w73 rfl
          show Pl _ _ _ _ _ _ [] _ _
          have K342 : True := trivial
          have F342 := (by assumption : FR md_mo_tellRun__p T4 T5)
          have M342 : Hid (TLL S 11 (Xi S 904 49) (Xi S 904 71) (v2.toNat + 1) T5) := tll_s M333.o e342 (by omega) (by omega) (fun j => (hFT4.cx 910 rfl j).2) (fun j => (hFT4.cx 950 rfl j).1) (fun j => (hFT4.cx 951 rfl j).1)
          have l342 : LSP T5 := LSP_tl e342 (by omega) (by omega) l333
          have q342 : Xi T5 904 15 = Xi T4 904 15 + 1 := e342.2.2
          have k342 : Hid (Xi S 904 78 ≠ -1 → rnR T5 (Xi S 904 78) 0 = rnR S (Xi S 904 78) 0) := fun w => rnR_w e342 (by omega) (fun j => (F342.cx 910 rfl j).2) (fun j => (F342.cx 950 rfl j).1) (fun j => (F342.cx 951 rfl j).1) (hk.o w) (k333.o w)
          have A342 : Hid (ARN S T5 942 (Xi S 904 49) (kdW S) (v2.toNat + 1)) := arn_k A333.o (fun j => (F342.cx 942 rfl j).1)
          clear e342
          refine y_iinc rfl rfl rfl rfl ?_
          refine y_goto rfl rfl ?_
          have w74 : Xi T5 904 49 = Xi T4 904 49 := (show Xi T5 904 49 = Xi T4 904 49 from w73.x _ _ rfl)
          have w75 : Xi T5 904 70 = Xi T1 904 70 := (show Xi T5 904 70 = Xi T4 904 70 from w73.x _ _ rfl).trans ((show Xi T4 904 70 = Xi T1 904 70 from w65.x _ _ rfl))
          have w76 : Xi T5 904 71 = Xi T1 904 71 := (show Xi T5 904 71 = Xi T4 904 71 from w73.x _ _ rfl).trans ((show Xi T4 904 71 = Xi T1 904 71 from w65.x _ _ rfl))
          have w77 : Xi T5 904 72 = Xi T1 904 72 := (show Xi T5 904 72 = Xi T4 904 72 from w73.x _ _ rfl).trans ((show Xi T4 904 72 = Xi T1 904 72 from w65.x _ _ rfl))
          have w78 : Xi T5 904 78 = Xi T1 904 78 := (show Xi T5 904 78 = Xi T4 904 78 from w73.x _ _ rfl).trans ((show Xi T4 904 78 = Xi T1 904 78 from w65.x _ _ rfl))
          exact Pl_weak (ih300 (by omega) T5 hHT5 hFT5 ((v2 + 1)) (by omega) (by omega) (by first | (have t := K342; rw [show (v2 + 1).toNat = v2.toNat + 1 by omega]; exact M342.o) | exact SMR.rf) (by first | (have t := K342; rw [show (v2 + 1).toNat = v2.toNat + 1 by omega]; exact A342.o) | exact arn_0 (fun _ => rfl)) (by first | (have t := K342; exact l342) | exact hLS) (by first | (have t := K342; exact k342.o) | exact (fun _ => rfl)) (by omega) (by omega) (by omega) (by omega) (by omega)) (by omega) (And.intro rfl (And.intro rfl (True.intro)))
  refine y_aload_n rfl rfl ?_
  refine y_gfi rfl rfl rfl rfl rfl ?_
  refine y_tsw rfl rfl rfl rfl (by unfold rg; omega) (fun w79 => ?_) (fun ii tt hii w79 => ?_)
  · refine y_return rfl rfl ?_
    exact ⟨hH, hF, rfl⟩
  · match ii, hii with
    | 0, hii =>
      cases hii
      have w80 : (Xi S 904 70) = 0 := by simpa using w79
      exfalso; omega
    | 1, hii =>
      cases hii
      have w81 : (Xi S 904 70) = 1 := by simpa using w79
      exfalso; omega
    | 2, hii =>
      cases hii
      have w82 : (Xi S 904 70) = 2 := by simpa using w79
      exfalso; omega
    | 3, hii =>
      cases hii
      have w83 : (Xi S 904 70) = 3 := by simpa using w79
      refine y_return rfl rfl ?_
      exact ⟨hH, hF, rfl⟩
    | 4, hii =>
      cases hii
      have w84 : (Xi S 904 70) = 4 := by simpa using w79
      refine y_return rfl rfl ?_
      exact ⟨hH, hF, rfl⟩
    | 5, hii =>
      cases hii
      have w85 : (Xi S 904 70) = 5 := by simpa using w79
      refine y_return rfl rfl ?_
      exact ⟨hH, hF, rfl⟩
    | 6, hii =>
      cases hii
      have w86 : (Xi S 904 70) = 6 := by simpa using w79
      refine y_return rfl rfl ?_
      exact ⟨hH, hF, rfl⟩
    | 7, hii =>
      cases hii
      have w87 : (Xi S 904 70) = 7 := by simpa using w79
      exfalso; omega
    | 8, hii =>
      cases hii
      have w88 : (Xi S 904 70) = 8 := by simpa using w79
      exfalso; omega
    | 9, hii =>
      cases hii
      have w89 : (Xi S 904 70) = 9 := by simpa using w79
      exfalso; omega
    | 10, hii =>
      cases hii
      have w90 : (Xi S 904 70) = 10 := by simpa using w79
      exfalso; omega
    | 11, hii =>
      cases hii
      have w91 : (Xi S 904 70) = 11 := by simpa using w79
      refine y_iconst rfl ?_
      refine y_istore_n rfl rfl rfl ?_
      exact Pl_weak (C300 fu (by omega) S hH hF (0) (by omega) (by omega) (by first | (have t := K342; rw [show (v2 + 1).toNat = v2.toNat + 1 by omega]; exact M342.o) | exact SMR.rf) (by first | (have t := K342; rw [show (v2 + 1).toNat = v2.toNat + 1 by omega]; exact A342.o) | exact arn_0 (fun _ => rfl)) (by first | (have t := K342; exact l342) | exact hLS) (by first | (have t := K342; exact k342.o) | exact (fun _ => rfl)) (by omega) (by omega) (by omega) (by omega) (by omega)) (by omega) (And.intro rfl (And.intro rfl (True.intro)))
    | 12, hii =>
      cases hii
      have w92 : (Xi S 904 70) = 12 := by simpa using w79
      exfalso; omega
    | 13, hii =>
      cases hii
      have w93 : (Xi S 904 70) = 13 := by simpa using w79
      exfalso; omega
    | 14, hii =>
      cases hii
      have w94 : (Xi S 904 70) = 14 := by simpa using w79
      exfalso; omega
    | 15, hii =>
      cases hii
      have w95 : (Xi S 904 70) = 15 := by simpa using w79
      exfalso; omega
    | 16, hii =>
      cases hii
      have w96 : (Xi S 904 70) = 16 := by simpa using w79
      exfalso; omega
    | 17, hii =>
      cases hii
      have w97 : (Xi S 904 70) = 17 := by simpa using w79
      exfalso; omega
    | 18, hii =>
      cases hii
      have w98 : (Xi S 904 70) = 18 := by simpa using w79
      exfalso; omega
    | 19, hii =>
      cases hii
      have w99 : (Xi S 904 70) = 19 := by simpa using w79
      exfalso; omega
    | 20, hii =>
      cases hii
      have w100 : (Xi S 904 70) = 20 := by simpa using w79
      exfalso; omega
    | n + 21, hii => exact absurd hii (by simp)
def md_mo_does__12f : List rec := [(904, 905, 15, 16), (904, 905, 19, 20), (904, 905, 60, 61), (904, 905, 105, 106), (904, 905, 106, 107), (912, 913, 0, 100000), (913, 914, 0, 100000), (914, 915, 0, 100000), (915, 916, 0, 100000), (916, 917, 0, 100000), (918, 919, 0, 100000), (919, 920, 0, 100000), (920, 921, 0, 100000), (925, 926, 0, 100000), (926, 927, 0, 100000), (930, 931, 0, 100000), (931, 932, 0, 100000), (932, 933, 0, 100000)]
abbrev Q_mo_does__12f (S : sS) (first : Int) : pst := fun r S1 => RI S1 ∧ FR md_mo_does__12f S S1 ∧ (r = none)
set_option maxRecDepth 100000 in
theorem t_mo_does__12f {S : sS} (hH : RI S) (first : Int) (hfirst : 0 ≤ first ∧ first ≤ 5001) (hLS : LSP S) (h15 : 0 ≤ Xi S 904 15) (hRB : RBD S) (hLX : LXR S) (hB : ABV S) (hl : 0 ≤ Xi S 904 71 ∧ Xi S 904 71 ≤ 2600 ∧ 0 ≤ Xi S 904 72 ∧ Xi S 904 72 ≤ 2600) (hkb : Hid (KB3 S)) (ho4 : Hid (OB4 S)) (hct : Hid (∀ j : Nat, -1 ≤ Xi S 922 j ∧ Xi S 922 j ≤ 23)) (hz0 : Xi S 904 106 = 0) (ha : 0 ≤ Xi S 904 19 ∧ Xi S 904 19 ≤ 24) (hr74 : -1 ≤ Xi S 904 74 ∧ Xi S 904 74 ≤ 2600) (hlq : Hid (LOQ S (Xi S 904 71) (Xi S 904 72).toNat)) (h110 : -1 ≤ Xi S 904 110 ∧ Xi S 904 110 ≤ 15) (h112 : 0 ≤ Xi S 904 112 ∧ Xi S 904 112 ≤ 6) (hra : Hid (Xi S 904 70 ≠ 13 → ∀ i : Nat, (i : Int) < Xi S 904 112 → 0 ≤ Xi S 967 i ∧ Xi S 967 i ≤ 7000)) (hs : Xi S 904 70 = 12) (d : Nat) : Mp lay0 (d + 8) m_mo_does [.ref 904, iv first] S (Q_mo_does__12f S first) := by
  refine Mp_R rfl rfl (fun fu => ?_)
  have hF : FR md_mo_does__12f S S := FR.rf
  have w1 : -2147483648 ≤ Xi S 904 106 ∧ Xi S 904 106 ≤ 2147483647 := Xi_rgI
  have w2 : -2147483648 ≤ Xi S 904 110 ∧ Xi S 904 110 ≤ 2147483647 := Xi_rgI
  have w3 : -2147483648 ≤ Xi S 904 112 ∧ Xi S 904 112 ≤ 2147483647 := Xi_rgI
  have w4 : -2147483648 ≤ Xi S 904 15 ∧ Xi S 904 15 ≤ 2147483647 := Xi_rgI
  have w5 : -2147483648 ≤ Xi S 904 19 ∧ Xi S 904 19 ≤ 2147483647 := Xi_rgI
  have w6 : -2147483648 ≤ Xi S 904 70 ∧ Xi S 904 70 ≤ 2147483647 := Xi_rgI
  have w7 : -2147483648 ≤ Xi S 904 71 ∧ Xi S 904 71 ≤ 2147483647 := Xi_rgI
  have w8 : -2147483648 ≤ Xi S 904 72 ∧ Xi S 904 72 ≤ 2147483647 := Xi_rgI
  have w9 : -2147483648 ≤ Xi S 904 74 ∧ Xi S 904 74 ≤ 2147483647 := Xi_rgI
  have C300 : ∀ (n300 : Nat) (_ : n300 ≤ fu) (T1 : sS) (_ : RI T1) (_ : FR md_mo_does__12f S T1) (v2 : Int), (-2147483648 ≤ v2 ∧ v2 ≤ 2147483647) → ((1 : Int) = 0) → Pl n300 lay0 (d + 7) m_mo_does 300 [(0, .ref 904), (2, iv v2)] [] T1 (Q_mo_does__12f S first) := by
    intro n300
    induction n300 with
    | zero => intros; exact Pl_0
    | succ n300 ih300 =>
      intro hm300 T1 hHT1 hFT1 v2 w10 w11
      have w12 : Xi T1 904 110 = Xi S 904 110 := hFT1.x _ _ rfl
      have w13 : Xi T1 904 112 = Xi S 904 112 := hFT1.x _ _ rfl
      have w14 : Xi T1 904 117 = Xi S 904 117 := hFT1.x _ _ rfl
      have w15 : Xi T1 904 142 = Xi S 904 142 := hFT1.x _ _ rfl
      have w16 : Xi T1 904 16 = Xi S 904 16 := hFT1.x _ _ rfl
      have w17 : Xi T1 904 18 = Xi S 904 18 := hFT1.x _ _ rfl
      have w18 : Xi T1 904 23 = Xi S 904 23 := hFT1.x _ _ rfl
      have w19 : Xi T1 904 30 = Xi S 904 30 := hFT1.x _ _ rfl
      have w20 : Xi T1 904 32 = Xi S 904 32 := hFT1.x _ _ rfl
      have w21 : Xi T1 904 49 = Xi S 904 49 := hFT1.x _ _ rfl
      have w22 : Xi T1 904 55 = Xi S 904 55 := hFT1.x _ _ rfl
      have w23 : Xi T1 904 69 = Xi S 904 69 := hFT1.x _ _ rfl
      have w24 : Xi T1 904 70 = Xi S 904 70 := hFT1.x _ _ rfl
      have w25 : Xi T1 904 71 = Xi S 904 71 := hFT1.x _ _ rfl
      have w26 : Xi T1 904 72 = Xi S 904 72 := hFT1.x _ _ rfl
      have w27 : Xi T1 904 73 = Xi S 904 73 := hFT1.x _ _ rfl
      have w28 : Xi T1 904 74 = Xi S 904 74 := hFT1.x _ _ rfl
      have w29 : Xi T1 904 78 = Xi S 904 78 := hFT1.x _ _ rfl
      have w30 : Xi T1 904 94 = Xi S 904 94 := hFT1.x _ _ rfl
      have w31 : Xi T1 951 1 = Xi S 951 1 := hFT1.x _ _ rfl
      have w32 : Xi T1 951 2 = Xi S 951 2 := hFT1.x _ _ rfl
      have w33 : Xi T1 967 0 = Xi S 967 0 := hFT1.x _ _ rfl
      have w34 : -2147483648 ≤ Xi T1 904 106 ∧ Xi T1 904 106 ≤ 2147483647 := Xi_rgI
      have w35 : -2147483648 ≤ Xi T1 904 110 ∧ Xi T1 904 110 ≤ 2147483647 := Xi_rgI
      have w36 : -2147483648 ≤ Xi T1 904 112 ∧ Xi T1 904 112 ≤ 2147483647 := Xi_rgI
      have w37 : -2147483648 ≤ Xi T1 904 15 ∧ Xi T1 904 15 ≤ 2147483647 := Xi_rgI
      have w38 : -2147483648 ≤ Xi T1 904 19 ∧ Xi T1 904 19 ≤ 2147483647 := Xi_rgI
      have w39 : -2147483648 ≤ Xi T1 904 70 ∧ Xi T1 904 70 ≤ 2147483647 := Xi_rgI
      have w40 : -2147483648 ≤ Xi T1 904 71 ∧ Xi T1 904 71 ≤ 2147483647 := Xi_rgI
      have w41 : -2147483648 ≤ Xi T1 904 72 ∧ Xi T1 904 72 ≤ 2147483647 := Xi_rgI
      have w42 : -2147483648 ≤ Xi T1 904 74 ∧ Xi T1 904 74 ≤ 2147483647 := Xi_rgI
      exfalso; omega
  refine y_aload_n rfl rfl ?_
  refine y_gfi rfl rfl rfl rfl rfl ?_
  refine y_tsw rfl rfl rfl rfl (by unfold rg; omega) (fun w43 => ?_) (fun ii tt hii w43 => ?_)
  · refine y_return rfl rfl ?_
    exact ⟨hH, hF, rfl⟩
  · match ii, hii with
    | 0, hii =>
      cases hii
      have w44 : (Xi S 904 70) = 0 := by simpa using w43
      exfalso; omega
    | 1, hii =>
      cases hii
      have w45 : (Xi S 904 70) = 1 := by simpa using w43
      exfalso; omega
    | 2, hii =>
      cases hii
      have w46 : (Xi S 904 70) = 2 := by simpa using w43
      exfalso; omega
    | 3, hii =>
      cases hii
      have w47 : (Xi S 904 70) = 3 := by simpa using w43
      refine y_return rfl rfl ?_
      exact ⟨hH, hF, rfl⟩
    | 4, hii =>
      cases hii
      have w48 : (Xi S 904 70) = 4 := by simpa using w43
      refine y_return rfl rfl ?_
      exact ⟨hH, hF, rfl⟩
    | 5, hii =>
      cases hii
      have w49 : (Xi S 904 70) = 5 := by simpa using w43
      refine y_return rfl rfl ?_
      exact ⟨hH, hF, rfl⟩
    | 6, hii =>
      cases hii
      have w50 : (Xi S 904 70) = 6 := by simpa using w43
      refine y_return rfl rfl ?_
      exact ⟨hH, hF, rfl⟩
    | 7, hii =>
      cases hii
      have w51 : (Xi S 904 70) = 7 := by simpa using w43
      exfalso; omega
    | 8, hii =>
      cases hii
      have w52 : (Xi S 904 70) = 8 := by simpa using w43
      exfalso; omega
    | 9, hii =>
      cases hii
      have w53 : (Xi S 904 70) = 9 := by simpa using w43
      exfalso; omega
    | 10, hii =>
      cases hii
      have w54 : (Xi S 904 70) = 10 := by simpa using w43
      exfalso; omega
    | 11, hii =>
      cases hii
      have w55 : (Xi S 904 70) = 11 := by simpa using w43
      exfalso; omega
    | 12, hii =>
      cases hii
      have w56 : (Xi S 904 70) = 12 := by simpa using w43
      refine y_aload_n rfl rfl ?_
      refine y_callV rfl rfl rfl (t_mo_doDescribed__p hH (by first | assumption | exact (by assumption : LSP S)) (by first | assumption | omega) (by first | assumption | exact (RBD_FR hF rfl (by assumption : RBD S))) (by first | assumption | exact (by assumption : LXR S)) (by first | assumption | exact (ABV_FR hF rfl (by assumption : ABV S))) (by first | assumption | omega) (by first | assumption | omega) (by first | assumption | omega) (by first | assumption | omega) (by first | assumption | omega) (by first | assumption | omega) (by first | assumption | omega) (by first | assumption | omega) (by first | assumption | omega) (by first | assumption | omega) (by first | assumption | omega) _) ?_
      rintro _ T2 ⟨hHT2, w58, rfl, o355⟩
      have hFT2 : FR md_mo_does__12f S T2 := FR.tr hF w58 rfl
      show Pl _ _ _ _ _ _ [] _ _
      have K355 : True := trivial
      refine y_goto rfl rfl ?_
      refine y_return rfl rfl ?_
      exact ⟨hHT2, hFT2, rfl⟩
    | 13, hii =>
      cases hii
      have w65 : (Xi S 904 70) = 13 := by simpa using w43
      refine y_aload_n rfl rfl ?_
      refine y_callV rfl rfl rfl (t_mo_doDescribed__p hH (by first | assumption | exact (by assumption : LSP S)) (by first | assumption | omega) (by first | assumption | exact (RBD_FR hF rfl (by assumption : RBD S))) (by first | assumption | exact (by assumption : LXR S)) (by first | assumption | exact (ABV_FR hF rfl (by assumption : ABV S))) (by first | assumption | omega) (by first | assumption | omega) (by first | assumption | omega) (by first | assumption | omega) (by first | assumption | omega) (by first | assumption | omega) (by first | assumption | omega) (by first | assumption | omega) (by first | assumption | omega) (by first | assumption | omega) (by first | assumption | omega) _) ?_
      rintro _ T3 ⟨hHT3, w67, rfl, o355⟩
      have hFT3 : FR md_mo_does__12f S T3 := FR.tr hF w67 rfl
      show Pl _ _ _ _ _ _ [] _ _
      have K355 : True := trivial
      refine y_goto rfl rfl ?_
      refine y_return rfl rfl ?_
      exact ⟨hHT3, hFT3, rfl⟩
    | 14, hii =>
      cases hii
      have w74 : (Xi S 904 70) = 14 := by simpa using w43
      exfalso; omega
    | 15, hii =>
      cases hii
      have w75 : (Xi S 904 70) = 15 := by simpa using w43
      exfalso; omega
    | 16, hii =>
      cases hii
      have w76 : (Xi S 904 70) = 16 := by simpa using w43
      exfalso; omega
    | 17, hii =>
      cases hii
      have w77 : (Xi S 904 70) = 17 := by simpa using w43
      exfalso; omega
    | 18, hii =>
      cases hii
      have w78 : (Xi S 904 70) = 18 := by simpa using w43
      exfalso; omega
    | 19, hii =>
      cases hii
      have w79 : (Xi S 904 70) = 19 := by simpa using w43
      exfalso; omega
    | 20, hii =>
      cases hii
      have w80 : (Xi S 904 70) = 20 := by simpa using w43
      exfalso; omega
    | n + 21, hii => exact absurd hii (by simp)
def md_mo_does__13f : List rec := [(904, 905, 15, 16), (904, 905, 19, 20), (904, 905, 60, 61), (904, 905, 105, 106), (904, 905, 106, 107), (912, 913, 0, 100000), (913, 914, 0, 100000), (914, 915, 0, 100000), (915, 916, 0, 100000), (916, 917, 0, 100000), (918, 919, 0, 100000), (919, 920, 0, 100000), (920, 921, 0, 100000), (925, 926, 0, 100000), (926, 927, 0, 100000), (930, 931, 0, 100000), (931, 932, 0, 100000), (932, 933, 0, 100000)]
abbrev Q_mo_does__13f (S : sS) (first : Int) : pst := fun r S1 => RI S1 ∧ FR md_mo_does__13f S S1 ∧ (r = none)
set_option maxRecDepth 100000 in
theorem t_mo_does__13f {S : sS} (hH : RI S) (first : Int) (hfirst : 0 ≤ first ∧ first ≤ 5001) (hLS : LSP S) (h15 : 0 ≤ Xi S 904 15) (hRB : RBD S) (hLX : LXR S) (hB : ABV S) (hl : 0 ≤ Xi S 904 71 ∧ Xi S 904 71 ≤ 2600 ∧ 0 ≤ Xi S 904 72 ∧ Xi S 904 72 ≤ 2600) (hkb : Hid (KB3 S)) (ho4 : Hid (OB4 S)) (hct : Hid (∀ j : Nat, -1 ≤ Xi S 922 j ∧ Xi S 922 j ≤ 23)) (hz0 : Xi S 904 106 = 0) (ha : 0 ≤ Xi S 904 19 ∧ Xi S 904 19 ≤ 24) (hr74 : -1 ≤ Xi S 904 74 ∧ Xi S 904 74 ≤ 2600) (hlq : Hid (LOQ S (Xi S 904 71) (Xi S 904 72).toNat)) (h110 : -1 ≤ Xi S 904 110 ∧ Xi S 904 110 ≤ 15) (h112 : 0 ≤ Xi S 904 112 ∧ Xi S 904 112 ≤ 6) (hra : Hid (Xi S 904 70 ≠ 13 → ∀ i : Nat, (i : Int) < Xi S 904 112 → 0 ≤ Xi S 967 i ∧ Xi S 967 i ≤ 7000)) (hs : Xi S 904 70 = 13) (d : Nat) : Mp lay0 (d + 8) m_mo_does [.ref 904, iv first] S (Q_mo_does__13f S first) := by
  refine Mp_R rfl rfl (fun fu => ?_)
  have hF : FR md_mo_does__13f S S := FR.rf
  have w1 : -2147483648 ≤ Xi S 904 106 ∧ Xi S 904 106 ≤ 2147483647 := Xi_rgI
  have w2 : -2147483648 ≤ Xi S 904 110 ∧ Xi S 904 110 ≤ 2147483647 := Xi_rgI
  have w3 : -2147483648 ≤ Xi S 904 112 ∧ Xi S 904 112 ≤ 2147483647 := Xi_rgI
  have w4 : -2147483648 ≤ Xi S 904 15 ∧ Xi S 904 15 ≤ 2147483647 := Xi_rgI
  have w5 : -2147483648 ≤ Xi S 904 19 ∧ Xi S 904 19 ≤ 2147483647 := Xi_rgI
  have w6 : -2147483648 ≤ Xi S 904 70 ∧ Xi S 904 70 ≤ 2147483647 := Xi_rgI
  have w7 : -2147483648 ≤ Xi S 904 71 ∧ Xi S 904 71 ≤ 2147483647 := Xi_rgI
  have w8 : -2147483648 ≤ Xi S 904 72 ∧ Xi S 904 72 ≤ 2147483647 := Xi_rgI
  have w9 : -2147483648 ≤ Xi S 904 74 ∧ Xi S 904 74 ≤ 2147483647 := Xi_rgI
  have C300 : ∀ (n300 : Nat) (_ : n300 ≤ fu) (T1 : sS) (_ : RI T1) (_ : FR md_mo_does__13f S T1) (v2 : Int), (-2147483648 ≤ v2 ∧ v2 ≤ 2147483647) → ((1 : Int) = 0) → Pl n300 lay0 (d + 7) m_mo_does 300 [(0, .ref 904), (2, iv v2)] [] T1 (Q_mo_does__13f S first) := by
    intro n300
    induction n300 with
    | zero => intros; exact Pl_0
    | succ n300 ih300 =>
      intro hm300 T1 hHT1 hFT1 v2 w10 w11
      have w12 : Xi T1 904 110 = Xi S 904 110 := hFT1.x _ _ rfl
      have w13 : Xi T1 904 112 = Xi S 904 112 := hFT1.x _ _ rfl
      have w14 : Xi T1 904 117 = Xi S 904 117 := hFT1.x _ _ rfl
      have w15 : Xi T1 904 142 = Xi S 904 142 := hFT1.x _ _ rfl
      have w16 : Xi T1 904 16 = Xi S 904 16 := hFT1.x _ _ rfl
      have w17 : Xi T1 904 18 = Xi S 904 18 := hFT1.x _ _ rfl
      have w18 : Xi T1 904 23 = Xi S 904 23 := hFT1.x _ _ rfl
      have w19 : Xi T1 904 30 = Xi S 904 30 := hFT1.x _ _ rfl
      have w20 : Xi T1 904 32 = Xi S 904 32 := hFT1.x _ _ rfl
      have w21 : Xi T1 904 49 = Xi S 904 49 := hFT1.x _ _ rfl
      have w22 : Xi T1 904 55 = Xi S 904 55 := hFT1.x _ _ rfl
      have w23 : Xi T1 904 69 = Xi S 904 69 := hFT1.x _ _ rfl
      have w24 : Xi T1 904 70 = Xi S 904 70 := hFT1.x _ _ rfl
      have w25 : Xi T1 904 71 = Xi S 904 71 := hFT1.x _ _ rfl
      have w26 : Xi T1 904 72 = Xi S 904 72 := hFT1.x _ _ rfl
      have w27 : Xi T1 904 73 = Xi S 904 73 := hFT1.x _ _ rfl
      have w28 : Xi T1 904 74 = Xi S 904 74 := hFT1.x _ _ rfl
      have w29 : Xi T1 904 78 = Xi S 904 78 := hFT1.x _ _ rfl
      have w30 : Xi T1 904 94 = Xi S 904 94 := hFT1.x _ _ rfl
      have w31 : Xi T1 951 1 = Xi S 951 1 := hFT1.x _ _ rfl
      have w32 : Xi T1 951 2 = Xi S 951 2 := hFT1.x _ _ rfl
      have w33 : Xi T1 967 0 = Xi S 967 0 := hFT1.x _ _ rfl
      have w34 : -2147483648 ≤ Xi T1 904 106 ∧ Xi T1 904 106 ≤ 2147483647 := Xi_rgI
      have w35 : -2147483648 ≤ Xi T1 904 110 ∧ Xi T1 904 110 ≤ 2147483647 := Xi_rgI
      have w36 : -2147483648 ≤ Xi T1 904 112 ∧ Xi T1 904 112 ≤ 2147483647 := Xi_rgI
      have w37 : -2147483648 ≤ Xi T1 904 15 ∧ Xi T1 904 15 ≤ 2147483647 := Xi_rgI
      have w38 : -2147483648 ≤ Xi T1 904 19 ∧ Xi T1 904 19 ≤ 2147483647 := Xi_rgI
      have w39 : -2147483648 ≤ Xi T1 904 70 ∧ Xi T1 904 70 ≤ 2147483647 := Xi_rgI
      have w40 : -2147483648 ≤ Xi T1 904 71 ∧ Xi T1 904 71 ≤ 2147483647 := Xi_rgI
      have w41 : -2147483648 ≤ Xi T1 904 72 ∧ Xi T1 904 72 ≤ 2147483647 := Xi_rgI
      have w42 : -2147483648 ≤ Xi T1 904 74 ∧ Xi T1 904 74 ≤ 2147483647 := Xi_rgI
      exfalso; omega
  refine y_aload_n rfl rfl ?_
  refine y_gfi rfl rfl rfl rfl rfl ?_
  refine y_tsw rfl rfl rfl rfl (by unfold rg; omega) (fun w43 => ?_) (fun ii tt hii w43 => ?_)
  · refine y_return rfl rfl ?_
    exact ⟨hH, hF, rfl⟩
  · match ii, hii with
    | 0, hii =>
      cases hii
      have w44 : (Xi S 904 70) = 0 := by simpa using w43
      exfalso; omega
    | 1, hii =>
      cases hii
      have w45 : (Xi S 904 70) = 1 := by simpa using w43
      exfalso; omega
    | 2, hii =>
      cases hii
      have w46 : (Xi S 904 70) = 2 := by simpa using w43
      exfalso; omega
    | 3, hii =>
      cases hii
      have w47 : (Xi S 904 70) = 3 := by simpa using w43
      refine y_return rfl rfl ?_
      exact ⟨hH, hF, rfl⟩
    | 4, hii =>
      cases hii
      have w48 : (Xi S 904 70) = 4 := by simpa using w43
      refine y_return rfl rfl ?_
      exact ⟨hH, hF, rfl⟩
    | 5, hii =>
      cases hii
      have w49 : (Xi S 904 70) = 5 := by simpa using w43
      refine y_return rfl rfl ?_
      exact ⟨hH, hF, rfl⟩
    | 6, hii =>
      cases hii
      have w50 : (Xi S 904 70) = 6 := by simpa using w43
      refine y_return rfl rfl ?_
      exact ⟨hH, hF, rfl⟩
    | 7, hii =>
      cases hii
      have w51 : (Xi S 904 70) = 7 := by simpa using w43
      exfalso; omega
    | 8, hii =>
      cases hii
      have w52 : (Xi S 904 70) = 8 := by simpa using w43
      exfalso; omega
    | 9, hii =>
      cases hii
      have w53 : (Xi S 904 70) = 9 := by simpa using w43
      exfalso; omega
    | 10, hii =>
      cases hii
      have w54 : (Xi S 904 70) = 10 := by simpa using w43
      exfalso; omega
    | 11, hii =>
      cases hii
      have w55 : (Xi S 904 70) = 11 := by simpa using w43
      exfalso; omega
    | 12, hii =>
      cases hii
      have w56 : (Xi S 904 70) = 12 := by simpa using w43
      refine y_aload_n rfl rfl ?_
      refine y_callV rfl rfl rfl (t_mo_doDescribed__p hH (by first | assumption | exact (by assumption : LSP S)) (by first | assumption | omega) (by first | assumption | exact (RBD_FR hF rfl (by assumption : RBD S))) (by first | assumption | exact (by assumption : LXR S)) (by first | assumption | exact (ABV_FR hF rfl (by assumption : ABV S))) (by first | assumption | omega) (by first | assumption | omega) (by first | assumption | omega) (by first | assumption | omega) (by first | assumption | omega) (by first | assumption | omega) (by first | assumption | omega) (by first | assumption | omega) (by first | assumption | omega) (by first | assumption | omega) (by first | assumption | omega) _) ?_
      rintro _ T2 ⟨hHT2, w58, rfl, o355⟩
      have hFT2 : FR md_mo_does__13f S T2 := FR.tr hF w58 rfl
      show Pl _ _ _ _ _ _ [] _ _
      have K355 : True := trivial
      refine y_goto rfl rfl ?_
      refine y_return rfl rfl ?_
      exact ⟨hHT2, hFT2, rfl⟩
    | 13, hii =>
      cases hii
      have w65 : (Xi S 904 70) = 13 := by simpa using w43
      refine y_aload_n rfl rfl ?_
      refine y_callV rfl rfl rfl (t_mo_doDescribed__p hH (by first | assumption | exact (by assumption : LSP S)) (by first | assumption | omega) (by first | assumption | exact (RBD_FR hF rfl (by assumption : RBD S))) (by first | assumption | exact (by assumption : LXR S)) (by first | assumption | exact (ABV_FR hF rfl (by assumption : ABV S))) (by first | assumption | omega) (by first | assumption | omega) (by first | assumption | omega) (by first | assumption | omega) (by first | assumption | omega) (by first | assumption | omega) (by first | assumption | omega) (by first | assumption | omega) (by first | assumption | omega) (by first | assumption | omega) (by first | assumption | omega) _) ?_
      rintro _ T3 ⟨hHT3, w67, rfl, o355⟩
      have hFT3 : FR md_mo_does__13f S T3 := FR.tr hF w67 rfl
      show Pl _ _ _ _ _ _ [] _ _
      have K355 : True := trivial
      refine y_goto rfl rfl ?_
      refine y_return rfl rfl ?_
      exact ⟨hHT3, hFT3, rfl⟩
    | 14, hii =>
      cases hii
      have w74 : (Xi S 904 70) = 14 := by simpa using w43
      exfalso; omega
    | 15, hii =>
      cases hii
      have w75 : (Xi S 904 70) = 15 := by simpa using w43
      exfalso; omega
    | 16, hii =>
      cases hii
      have w76 : (Xi S 904 70) = 16 := by simpa using w43
      exfalso; omega
    | 17, hii =>
      cases hii
      have w77 : (Xi S 904 70) = 17 := by simpa using w43
      exfalso; omega
    | 18, hii =>
      cases hii
      have w78 : (Xi S 904 70) = 18 := by simpa using w43
      exfalso; omega
    | 19, hii =>
      cases hii
      have w79 : (Xi S 904 70) = 19 := by simpa using w43
      exfalso; omega
    | 20, hii =>
      cases hii
      have w80 : (Xi S 904 70) = 20 := by simpa using w43
      exfalso; omega
    | n + 21, hii => exact absurd hii (by simp)
def md_mo_does__14f : List rec := [(904, 905, 15, 16), (904, 905, 19, 20), (904, 905, 51, 52), (904, 905, 60, 61), (904, 905, 105, 106), (904, 905, 106, 107), (912, 913, 0, 100000), (913, 914, 0, 100000), (914, 915, 0, 100000), (915, 916, 0, 100000), (916, 917, 0, 100000), (918, 919, 0, 100000), (919, 920, 0, 100000), (920, 921, 0, 100000), (925, 926, 0, 100000), (930, 931, 0, 100000), (943, 944, 0, 100000), (944, 945, 0, 100000), (945, 946, 0, 100000)]
abbrev Q_mo_does__14f (S : sS) (first : Int) : pst := fun r S1 => RI S1 ∧ FR md_mo_does__14f S S1 ∧ (r = none)
set_option maxRecDepth 100000 in
theorem t_mo_does__14f {S : sS} (hH : RI S) (first : Int) (hfirst : 0 ≤ first ∧ first ≤ 5001) (hLS : LSP S) (h15 : 0 ≤ Xi S 904 15) (hRB : RBD S) (hrr : 0 ≤ Xi S 904 71 ∧ Xi S 904 71 ≤ 2600 ∧ -2 ≤ Xi S 904 78 ∧ Xi S 904 78 ≤ 2600 ∧ -1 ≤ Xi S 904 74 ∧ Xi S 904 74 ≤ 2600 ∧ 0 ≤ Xi S 904 72 ∧ Xi S 904 72 ≤ 2600) (hs : Xi S 904 70 = 14) (hz0 : Xi S 904 106 = 0) (ha : 0 ≤ Xi S 904 19 ∧ Xi S 904 19 ≤ 24) (hn : Hid (rnR S (Xi S 904 71) 4 = -1 → Xi S 904 19 ≤ 23)) (hw : 0 ≤ Xi S 904 51 ∧ Xi S 904 51 ≤ 144) (d : Nat) : Mp lay0 (d + 8) m_mo_does [.ref 904, iv first] S (Q_mo_does__14f S first) := by
  refine Mp_R rfl rfl (fun fu => ?_)
  have hF : FR md_mo_does__14f S S := FR.rf
  have w1 : -2147483648 ≤ Xi S 904 106 ∧ Xi S 904 106 ≤ 2147483647 := Xi_rgI
  have w2 : -2147483648 ≤ Xi S 904 15 ∧ Xi S 904 15 ≤ 2147483647 := Xi_rgI
  have w3 : -2147483648 ≤ Xi S 904 19 ∧ Xi S 904 19 ≤ 2147483647 := Xi_rgI
  have w4 : -2147483648 ≤ Xi S 904 51 ∧ Xi S 904 51 ≤ 2147483647 := Xi_rgI
  have w5 : -2147483648 ≤ Xi S 904 70 ∧ Xi S 904 70 ≤ 2147483647 := Xi_rgI
  have w6 : -2147483648 ≤ Xi S 904 71 ∧ Xi S 904 71 ≤ 2147483647 := Xi_rgI
  have w7 : -2147483648 ≤ Xi S 904 72 ∧ Xi S 904 72 ≤ 2147483647 := Xi_rgI
  have w8 : -2147483648 ≤ Xi S 904 74 ∧ Xi S 904 74 ≤ 2147483647 := Xi_rgI
  have w9 : -2147483648 ≤ Xi S 904 78 ∧ Xi S 904 78 ≤ 2147483647 := Xi_rgI
  have C300 : ∀ (n300 : Nat) (_ : n300 ≤ fu) (T1 : sS) (_ : RI T1) (_ : FR md_mo_does__14f S T1) (v2 : Int), (-2147483648 ≤ v2 ∧ v2 ≤ 2147483647) → ((1 : Int) = 0) → Pl n300 lay0 (d + 7) m_mo_does 300 [(0, .ref 904), (2, iv v2)] [] T1 (Q_mo_does__14f S first) := by
    intro n300
    induction n300 with
    | zero => intros; exact Pl_0
    | succ n300 ih300 =>
      intro hm300 T1 hHT1 hFT1 v2 w10 w11
      have w12 : Xi T1 904 110 = Xi S 904 110 := hFT1.x _ _ rfl
      have w13 : Xi T1 904 112 = Xi S 904 112 := hFT1.x _ _ rfl
      have w14 : Xi T1 904 117 = Xi S 904 117 := hFT1.x _ _ rfl
      have w15 : Xi T1 904 142 = Xi S 904 142 := hFT1.x _ _ rfl
      have w16 : Xi T1 904 16 = Xi S 904 16 := hFT1.x _ _ rfl
      have w17 : Xi T1 904 18 = Xi S 904 18 := hFT1.x _ _ rfl
      have w18 : Xi T1 904 23 = Xi S 904 23 := hFT1.x _ _ rfl
      have w19 : Xi T1 904 30 = Xi S 904 30 := hFT1.x _ _ rfl
      have w20 : Xi T1 904 32 = Xi S 904 32 := hFT1.x _ _ rfl
      have w21 : Xi T1 904 49 = Xi S 904 49 := hFT1.x _ _ rfl
      have w22 : Xi T1 904 55 = Xi S 904 55 := hFT1.x _ _ rfl
      have w23 : Xi T1 904 69 = Xi S 904 69 := hFT1.x _ _ rfl
      have w24 : Xi T1 904 70 = Xi S 904 70 := hFT1.x _ _ rfl
      have w25 : Xi T1 904 71 = Xi S 904 71 := hFT1.x _ _ rfl
      have w26 : Xi T1 904 72 = Xi S 904 72 := hFT1.x _ _ rfl
      have w27 : Xi T1 904 73 = Xi S 904 73 := hFT1.x _ _ rfl
      have w28 : Xi T1 904 74 = Xi S 904 74 := hFT1.x _ _ rfl
      have w29 : Xi T1 904 78 = Xi S 904 78 := hFT1.x _ _ rfl
      have w30 : Xi T1 904 94 = Xi S 904 94 := hFT1.x _ _ rfl
      have w31 : Xi T1 951 1 = Xi S 951 1 := hFT1.x _ _ rfl
      have w32 : Xi T1 951 2 = Xi S 951 2 := hFT1.x _ _ rfl
      have w33 : Xi T1 967 0 = Xi S 967 0 := hFT1.x _ _ rfl
      have w34 : -2147483648 ≤ Xi T1 904 15 ∧ Xi T1 904 15 ≤ 2147483647 := Xi_rgI
      have w35 : -2147483648 ≤ Xi T1 904 70 ∧ Xi T1 904 70 ≤ 2147483647 := Xi_rgI
      exfalso; omega
  refine y_aload_n rfl rfl ?_
  refine y_gfi rfl rfl rfl rfl rfl ?_
  refine y_tsw rfl rfl rfl rfl (by unfold rg; omega) (fun w36 => ?_) (fun ii tt hii w36 => ?_)
  · refine y_return rfl rfl ?_
    exact ⟨hH, hF, rfl⟩
  · match ii, hii with
    | 0, hii =>
      cases hii
      have w37 : (Xi S 904 70) = 0 := by simpa using w36
      exfalso; omega
    | 1, hii =>
      cases hii
      have w38 : (Xi S 904 70) = 1 := by simpa using w36
      exfalso; omega
    | 2, hii =>
      cases hii
      have w39 : (Xi S 904 70) = 2 := by simpa using w36
      exfalso; omega
    | 3, hii =>
      cases hii
      have w40 : (Xi S 904 70) = 3 := by simpa using w36
      refine y_return rfl rfl ?_
      exact ⟨hH, hF, rfl⟩
    | 4, hii =>
      cases hii
      have w41 : (Xi S 904 70) = 4 := by simpa using w36
      refine y_return rfl rfl ?_
      exact ⟨hH, hF, rfl⟩
    | 5, hii =>
      cases hii
      have w42 : (Xi S 904 70) = 5 := by simpa using w36
      refine y_return rfl rfl ?_
      exact ⟨hH, hF, rfl⟩
    | 6, hii =>
      cases hii
      have w43 : (Xi S 904 70) = 6 := by simpa using w36
      refine y_return rfl rfl ?_
      exact ⟨hH, hF, rfl⟩
    | 7, hii =>
      cases hii
      have w44 : (Xi S 904 70) = 7 := by simpa using w36
      exfalso; omega
    | 8, hii =>
      cases hii
      have w45 : (Xi S 904 70) = 8 := by simpa using w36
      exfalso; omega
    | 9, hii =>
      cases hii
      have w46 : (Xi S 904 70) = 9 := by simpa using w36
      exfalso; omega
    | 10, hii =>
      cases hii
      have w47 : (Xi S 904 70) = 10 := by simpa using w36
      exfalso; omega
    | 11, hii =>
      cases hii
      have w48 : (Xi S 904 70) = 11 := by simpa using w36
      exfalso; omega
    | 12, hii =>
      cases hii
      have w49 : (Xi S 904 70) = 12 := by simpa using w36
      exfalso; omega
    | 13, hii =>
      cases hii
      have w50 : (Xi S 904 70) = 13 := by simpa using w36
      exfalso; omega
    | 14, hii =>
      cases hii
      have w51 : (Xi S 904 70) = 14 := by simpa using w36
      refine y_aload_n rfl rfl ?_
      refine y_callV rfl rfl rfl (t_mo_doWay__p hH (by first | assumption | exact (by assumption : LSP S)) (by first | assumption | omega) (by first | assumption | exact (RBD_FR hF rfl (by assumption : RBD S))) (by first | assumption | omega) (by first | assumption | omega) (by first | assumption | omega) (by first | assumption | omega) (by first | assumption | omega) _) ?_
      rintro _ T2 ⟨hHT2, w53, rfl, o362⟩
      have hFT2 : FR md_mo_does__14f S T2 := FR.tr hF w53 rfl
      show Pl _ _ _ _ _ _ [] _ _
      have K362 : True := trivial
      refine y_goto rfl rfl ?_
      refine y_return rfl rfl ?_
      exact ⟨hHT2, hFT2, rfl⟩
    | 15, hii =>
      cases hii
      have w55 : (Xi S 904 70) = 15 := by simpa using w36
      exfalso; omega
    | 16, hii =>
      cases hii
      have w56 : (Xi S 904 70) = 16 := by simpa using w36
      exfalso; omega
    | 17, hii =>
      cases hii
      have w57 : (Xi S 904 70) = 17 := by simpa using w36
      exfalso; omega
    | 18, hii =>
      cases hii
      have w58 : (Xi S 904 70) = 18 := by simpa using w36
      exfalso; omega
    | 19, hii =>
      cases hii
      have w59 : (Xi S 904 70) = 19 := by simpa using w36
      exfalso; omega
    | 20, hii =>
      cases hii
      have w60 : (Xi S 904 70) = 20 := by simpa using w36
      exfalso; omega
    | n + 21, hii => exact absurd hii (by simp)
def md_mo_does__17f : List rec := [(904, 905, 15, 16), (904, 905, 32, 33), (904, 905, 105, 106), (904, 905, 106, 107), (912, 913, 0, 100000), (913, 914, 0, 100000), (914, 915, 0, 100000), (915, 916, 0, 100000), (916, 917, 0, 100000), (928, 929, 0, 100000), (929, 930, 0, 100000)]
abbrev Q_mo_does__17f (S : sS) (first : Int) : pst := fun r S1 => RI S1 ∧ FR md_mo_does__17f S S1 ∧ (r = none)
set_option maxRecDepth 100000 in
theorem t_mo_does__17f {S : sS} (hH : RI S) (first : Int) (hfirst : 0 ≤ first ∧ first ≤ 5001) (hLS : LSP S) (h15 : 0 ≤ Xi S 904 15) (hRB : RBD S) (hLX : LXR S) (hs : Xi S 904 70 = 17) (hz0 : Xi S 904 106 = 0) (hk : rnR S 0 0 ≠ -1) (ha : 0 ≤ Xi S 904 32 ∧ Xi S 904 32 ≤ 12) (d : Nat) : Mp lay0 (d + 8) m_mo_does [.ref 904, iv first] S (Q_mo_does__17f S first) := by
  refine Mp_R rfl rfl (fun fu => ?_)
  have hF : FR md_mo_does__17f S S := FR.rf
  have w1 : -2147483648 ≤ Xi S 904 106 ∧ Xi S 904 106 ≤ 2147483647 := Xi_rgI
  have w2 : -2147483648 ≤ Xi S 904 15 ∧ Xi S 904 15 ≤ 2147483647 := Xi_rgI
  have w3 : -2147483648 ≤ Xi S 904 32 ∧ Xi S 904 32 ≤ 2147483647 := Xi_rgI
  have w4 : -2147483648 ≤ Xi S 904 70 ∧ Xi S 904 70 ≤ 2147483647 := Xi_rgI
  have C300 : ∀ (n300 : Nat) (_ : n300 ≤ fu) (T1 : sS) (_ : RI T1) (_ : FR md_mo_does__17f S T1) (v2 : Int), (-2147483648 ≤ v2 ∧ v2 ≤ 2147483647) → ((1 : Int) = 0) → Pl n300 lay0 (d + 7) m_mo_does 300 [(0, .ref 904), (2, iv v2)] [] T1 (Q_mo_does__17f S first) := by
    intro n300
    induction n300 with
    | zero => intros; exact Pl_0
    | succ n300 ih300 =>
      intro hm300 T1 hHT1 hFT1 v2 w5 w6
      have w7 : Xi T1 904 110 = Xi S 904 110 := hFT1.x _ _ rfl
      have w8 : Xi T1 904 112 = Xi S 904 112 := hFT1.x _ _ rfl
      have w9 : Xi T1 904 117 = Xi S 904 117 := hFT1.x _ _ rfl
      have w10 : Xi T1 904 142 = Xi S 904 142 := hFT1.x _ _ rfl
      have w11 : Xi T1 904 16 = Xi S 904 16 := hFT1.x _ _ rfl
      have w12 : Xi T1 904 18 = Xi S 904 18 := hFT1.x _ _ rfl
      have w13 : Xi T1 904 19 = Xi S 904 19 := hFT1.x _ _ rfl
      have w14 : Xi T1 904 23 = Xi S 904 23 := hFT1.x _ _ rfl
      have w15 : Xi T1 904 30 = Xi S 904 30 := hFT1.x _ _ rfl
      have w16 : Xi T1 904 49 = Xi S 904 49 := hFT1.x _ _ rfl
      have w17 : Xi T1 904 55 = Xi S 904 55 := hFT1.x _ _ rfl
      have w18 : Xi T1 904 60 = Xi S 904 60 := hFT1.x _ _ rfl
      have w19 : Xi T1 904 69 = Xi S 904 69 := hFT1.x _ _ rfl
      have w20 : Xi T1 904 70 = Xi S 904 70 := hFT1.x _ _ rfl
      have w21 : Xi T1 904 71 = Xi S 904 71 := hFT1.x _ _ rfl
      have w22 : Xi T1 904 72 = Xi S 904 72 := hFT1.x _ _ rfl
      have w23 : Xi T1 904 73 = Xi S 904 73 := hFT1.x _ _ rfl
      have w24 : Xi T1 904 74 = Xi S 904 74 := hFT1.x _ _ rfl
      have w25 : Xi T1 904 78 = Xi S 904 78 := hFT1.x _ _ rfl
      have w26 : Xi T1 904 94 = Xi S 904 94 := hFT1.x _ _ rfl
      have w27 : Xi T1 951 1 = Xi S 951 1 := hFT1.x _ _ rfl
      have w28 : Xi T1 951 2 = Xi S 951 2 := hFT1.x _ _ rfl
      have w29 : Xi T1 967 0 = Xi S 967 0 := hFT1.x _ _ rfl
      have w30 : -2147483648 ≤ Xi T1 904 15 ∧ Xi T1 904 15 ≤ 2147483647 := Xi_rgI
      have w31 : -2147483648 ≤ Xi T1 904 32 ∧ Xi T1 904 32 ≤ 2147483647 := Xi_rgI
      have w32 : -2147483648 ≤ Xi T1 904 70 ∧ Xi T1 904 70 ≤ 2147483647 := Xi_rgI
      exfalso; omega
  refine y_aload_n rfl rfl ?_
  refine y_gfi rfl rfl rfl rfl rfl ?_
  refine y_tsw rfl rfl rfl rfl (by unfold rg; omega) (fun w33 => ?_) (fun ii tt hii w33 => ?_)
  · refine y_return rfl rfl ?_
    exact ⟨hH, hF, rfl⟩
  · match ii, hii with
    | 0, hii =>
      cases hii
      have w34 : (Xi S 904 70) = 0 := by simpa using w33
      exfalso; omega
    | 1, hii =>
      cases hii
      have w35 : (Xi S 904 70) = 1 := by simpa using w33
      exfalso; omega
    | 2, hii =>
      cases hii
      have w36 : (Xi S 904 70) = 2 := by simpa using w33
      exfalso; omega
    | 3, hii =>
      cases hii
      have w37 : (Xi S 904 70) = 3 := by simpa using w33
      refine y_return rfl rfl ?_
      exact ⟨hH, hF, rfl⟩
    | 4, hii =>
      cases hii
      have w38 : (Xi S 904 70) = 4 := by simpa using w33
      refine y_return rfl rfl ?_
      exact ⟨hH, hF, rfl⟩
    | 5, hii =>
      cases hii
      have w39 : (Xi S 904 70) = 5 := by simpa using w33
      refine y_return rfl rfl ?_
      exact ⟨hH, hF, rfl⟩
    | 6, hii =>
      cases hii
      have w40 : (Xi S 904 70) = 6 := by simpa using w33
      refine y_return rfl rfl ?_
      exact ⟨hH, hF, rfl⟩
    | 7, hii =>
      cases hii
      have w41 : (Xi S 904 70) = 7 := by simpa using w33
      exfalso; omega
    | 8, hii =>
      cases hii
      have w42 : (Xi S 904 70) = 8 := by simpa using w33
      exfalso; omega
    | 9, hii =>
      cases hii
      have w43 : (Xi S 904 70) = 9 := by simpa using w33
      exfalso; omega
    | 10, hii =>
      cases hii
      have w44 : (Xi S 904 70) = 10 := by simpa using w33
      exfalso; omega
    | 11, hii =>
      cases hii
      have w45 : (Xi S 904 70) = 11 := by simpa using w33
      exfalso; omega
    | 12, hii =>
      cases hii
      have w46 : (Xi S 904 70) = 12 := by simpa using w33
      exfalso; omega
    | 13, hii =>
      cases hii
      have w47 : (Xi S 904 70) = 13 := by simpa using w33
      exfalso; omega
    | 14, hii =>
      cases hii
      have w48 : (Xi S 904 70) = 14 := by simpa using w33
      exfalso; omega
    | 15, hii =>
      cases hii
      have w49 : (Xi S 904 70) = 15 := by simpa using w33
      exfalso; omega
    | 16, hii =>
      cases hii
      have w50 : (Xi S 904 70) = 16 := by simpa using w33
      exfalso; omega
    | 17, hii =>
      cases hii
      have w51 : (Xi S 904 70) = 17 := by simpa using w33
      refine y_aload_n rfl rfl ?_
      refine y_callV rfl rfl rfl (t_mo_doHas__p hH (by first | assumption | exact (by assumption : LSP S)) (by first | assumption | omega) (by first | assumption | exact (RBD_FR hF rfl (by assumption : RBD S))) (by first | assumption | exact (by assumption : LXR S)) (by first | assumption | omega) (by first | assumption | omega) (by first | assumption | omega) _) ?_
      rintro _ T2 ⟨hHT2, w53, rfl, o376⟩
      have hFT2 : FR md_mo_does__17f S T2 := FR.tr hF w53 rfl
      show Pl _ _ _ _ _ _ [] _ _
      have K376 : True := trivial
      refine y_goto rfl rfl ?_
      refine y_return rfl rfl ?_
      exact ⟨hHT2, hFT2, rfl⟩
    | 18, hii =>
      cases hii
      have w55 : (Xi S 904 70) = 18 := by simpa using w33
      exfalso; omega
    | 19, hii =>
      cases hii
      have w56 : (Xi S 904 70) = 19 := by simpa using w33
      exfalso; omega
    | 20, hii =>
      cases hii
      have w57 : (Xi S 904 70) = 20 := by simpa using w33
      exfalso; omega
    | n + 21, hii => exact absurd hii (by simp)
def md_mo_does__18f : List rec := [(904, 905, 15, 16), (904, 905, 23, 24), (912, 913, 0, 100000), (913, 914, 0, 100000), (914, 915, 0, 100000), (915, 916, 0, 100000), (916, 917, 0, 100000), (921, 922, 0, 100000), (922, 923, 0, 100000), (924, 925, 0, 100000)]
abbrev Q_mo_does__18f (S : sS) (first : Int) : pst := fun r S1 => RI S1 ∧ FR md_mo_does__18f S S1 ∧ (r = none)
set_option maxRecDepth 100000 in
theorem t_mo_does__18f {S : sS} (hH : RI S) (first : Int) (hfirst : 0 ≤ first ∧ first ≤ 5001) (hLS : LSP S) (h15 : 0 ≤ Xi S 904 15) (hRB : RBD S) (hs : Xi S 904 70 = 18) (hk : rnR S 0 0 ≠ -1) (ha : 0 ≤ Xi S 904 23 ∧ Xi S 904 23 ≤ 24) (d : Nat) : Mp lay0 (d + 8) m_mo_does [.ref 904, iv first] S (Q_mo_does__18f S first) := by
  refine Mp_R rfl rfl (fun fu => ?_)
  have hF : FR md_mo_does__18f S S := FR.rf
  have w1 : -2147483648 ≤ Xi S 904 15 ∧ Xi S 904 15 ≤ 2147483647 := Xi_rgI
  have w2 : -2147483648 ≤ Xi S 904 23 ∧ Xi S 904 23 ≤ 2147483647 := Xi_rgI
  have w3 : -2147483648 ≤ Xi S 904 70 ∧ Xi S 904 70 ≤ 2147483647 := Xi_rgI
  have C300 : ∀ (n300 : Nat) (_ : n300 ≤ fu) (T1 : sS) (_ : RI T1) (_ : FR md_mo_does__18f S T1) (v2 : Int), (-2147483648 ≤ v2 ∧ v2 ≤ 2147483647) → ((1 : Int) = 0) → Pl n300 lay0 (d + 7) m_mo_does 300 [(0, .ref 904), (2, iv v2)] [] T1 (Q_mo_does__18f S first) := by
    intro n300
    induction n300 with
    | zero => intros; exact Pl_0
    | succ n300 ih300 =>
      intro hm300 T1 hHT1 hFT1 v2 w4 w5
      have w6 : Xi T1 904 106 = Xi S 904 106 := hFT1.x _ _ rfl
      have w7 : Xi T1 904 110 = Xi S 904 110 := hFT1.x _ _ rfl
      have w8 : Xi T1 904 112 = Xi S 904 112 := hFT1.x _ _ rfl
      have w9 : Xi T1 904 117 = Xi S 904 117 := hFT1.x _ _ rfl
      have w10 : Xi T1 904 142 = Xi S 904 142 := hFT1.x _ _ rfl
      have w11 : Xi T1 904 16 = Xi S 904 16 := hFT1.x _ _ rfl
      have w12 : Xi T1 904 18 = Xi S 904 18 := hFT1.x _ _ rfl
      have w13 : Xi T1 904 19 = Xi S 904 19 := hFT1.x _ _ rfl
      have w14 : Xi T1 904 30 = Xi S 904 30 := hFT1.x _ _ rfl
      have w15 : Xi T1 904 32 = Xi S 904 32 := hFT1.x _ _ rfl
      have w16 : Xi T1 904 49 = Xi S 904 49 := hFT1.x _ _ rfl
      have w17 : Xi T1 904 55 = Xi S 904 55 := hFT1.x _ _ rfl
      have w18 : Xi T1 904 60 = Xi S 904 60 := hFT1.x _ _ rfl
      have w19 : Xi T1 904 69 = Xi S 904 69 := hFT1.x _ _ rfl
      have w20 : Xi T1 904 70 = Xi S 904 70 := hFT1.x _ _ rfl
      have w21 : Xi T1 904 71 = Xi S 904 71 := hFT1.x _ _ rfl
      have w22 : Xi T1 904 72 = Xi S 904 72 := hFT1.x _ _ rfl
      have w23 : Xi T1 904 73 = Xi S 904 73 := hFT1.x _ _ rfl
      have w24 : Xi T1 904 74 = Xi S 904 74 := hFT1.x _ _ rfl
      have w25 : Xi T1 904 78 = Xi S 904 78 := hFT1.x _ _ rfl
      have w26 : Xi T1 904 94 = Xi S 904 94 := hFT1.x _ _ rfl
      have w27 : Xi T1 951 1 = Xi S 951 1 := hFT1.x _ _ rfl
      have w28 : Xi T1 951 2 = Xi S 951 2 := hFT1.x _ _ rfl
      have w29 : Xi T1 967 0 = Xi S 967 0 := hFT1.x _ _ rfl
      have w30 : -2147483648 ≤ Xi T1 904 15 ∧ Xi T1 904 15 ≤ 2147483647 := Xi_rgI
      have w31 : -2147483648 ≤ Xi T1 904 23 ∧ Xi T1 904 23 ≤ 2147483647 := Xi_rgI
      have w32 : -2147483648 ≤ Xi T1 904 70 ∧ Xi T1 904 70 ≤ 2147483647 := Xi_rgI
      exfalso; omega
  refine y_aload_n rfl rfl ?_
  refine y_gfi rfl rfl rfl rfl rfl ?_
  refine y_tsw rfl rfl rfl rfl (by unfold rg; omega) (fun w33 => ?_) (fun ii tt hii w33 => ?_)
  · refine y_return rfl rfl ?_
    exact ⟨hH, hF, rfl⟩
  · match ii, hii with
    | 0, hii =>
      cases hii
      have w34 : (Xi S 904 70) = 0 := by simpa using w33
      exfalso; omega
    | 1, hii =>
      cases hii
      have w35 : (Xi S 904 70) = 1 := by simpa using w33
      exfalso; omega
    | 2, hii =>
      cases hii
      have w36 : (Xi S 904 70) = 2 := by simpa using w33
      exfalso; omega
    | 3, hii =>
      cases hii
      have w37 : (Xi S 904 70) = 3 := by simpa using w33
      refine y_return rfl rfl ?_
      exact ⟨hH, hF, rfl⟩
    | 4, hii =>
      cases hii
      have w38 : (Xi S 904 70) = 4 := by simpa using w33
      refine y_return rfl rfl ?_
      exact ⟨hH, hF, rfl⟩
    | 5, hii =>
      cases hii
      have w39 : (Xi S 904 70) = 5 := by simpa using w33
      refine y_return rfl rfl ?_
      exact ⟨hH, hF, rfl⟩
    | 6, hii =>
      cases hii
      have w40 : (Xi S 904 70) = 6 := by simpa using w33
      refine y_return rfl rfl ?_
      exact ⟨hH, hF, rfl⟩
    | 7, hii =>
      cases hii
      have w41 : (Xi S 904 70) = 7 := by simpa using w33
      exfalso; omega
    | 8, hii =>
      cases hii
      have w42 : (Xi S 904 70) = 8 := by simpa using w33
      exfalso; omega
    | 9, hii =>
      cases hii
      have w43 : (Xi S 904 70) = 9 := by simpa using w33
      exfalso; omega
    | 10, hii =>
      cases hii
      have w44 : (Xi S 904 70) = 10 := by simpa using w33
      exfalso; omega
    | 11, hii =>
      cases hii
      have w45 : (Xi S 904 70) = 11 := by simpa using w33
      exfalso; omega
    | 12, hii =>
      cases hii
      have w46 : (Xi S 904 70) = 12 := by simpa using w33
      exfalso; omega
    | 13, hii =>
      cases hii
      have w47 : (Xi S 904 70) = 13 := by simpa using w33
      exfalso; omega
    | 14, hii =>
      cases hii
      have w48 : (Xi S 904 70) = 14 := by simpa using w33
      exfalso; omega
    | 15, hii =>
      cases hii
      have w49 : (Xi S 904 70) = 15 := by simpa using w33
      exfalso; omega
    | 16, hii =>
      cases hii
      have w50 : (Xi S 904 70) = 16 := by simpa using w33
      exfalso; omega
    | 17, hii =>
      cases hii
      have w51 : (Xi S 904 70) = 17 := by simpa using w33
      exfalso; omega
    | 18, hii =>
      cases hii
      have w52 : (Xi S 904 70) = 18 := by simpa using w33
      refine y_aload_n rfl rfl ?_
      refine y_aload_n rfl rfl ?_
      refine y_iconst rfl ?_
      refine y_iconst rfl ?_
      refine y_callV rfl rfl rfl (t_mo_meansRun__p hH 0 0 ⟨by omega, by omega⟩ ⟨by omega, by omega⟩ (by first | assumption | exact (by assumption : LSP S)) (by first | assumption | omega) (by first | assumption | exact (RBD_FR hF rfl (by assumption : RBD S))) _) ?_
      rintro _ _ ⟨rfl, z53, rfl, w53, f386⟩
      show Pl _ _ _ _ _ _ [iv z53, .ref 904] _ _
      refine y_aload_n rfl rfl ?_
      refine y_gfi rfl rfl rfl rfl rfl ?_
      refine y_iconst rfl ?_
      refine y_iadd rfl ?_
      refine y_callV rfl rfl rfl (t_mo_addAdjective__p hH z53 ((Xi S 904 23) + 1) ⟨by omega, by omega⟩ ⟨by omega, by omega⟩ (by first | assumption | omega) _) ?_
      rintro _ T2 ⟨hHT2, w55, z54, rfl, w54, z395, e395⟩
      have hFT2 : FR md_mo_does__18f S T2 := FR.tr hF w55 rfl
      show Pl _ _ _ _ _ _ [iv z54] _ _
      have F395 := (by assumption : FR md_mo_addAdjective__p S T2)
      have A395 : ADJ S T2 (rnR S 0 0) (Xi S 904 23 + 1) := by have t := e395; rw [f386] at t; exact t
      have k395 : rnR T2 0 0 = rnR S 0 0 := rnR_FR F395 rfl rfl
      have l395 : Xi T2 904 15 = Xi S 904 15 := F395.x 904 15 rfl
      have c395 : Xi T2 904 23 = Xi S 904 23 + 1 := A395.1
      clear e395
      refine y_istore_n rfl rfl rfl ?_
      refine y_aload_n rfl rfl ?_
      refine y_iconst rfl ?_
      refine y_iload_n rfl rfl ?_
      refine y_iconst rfl ?_
      have w56 : Xi T2 904 15 = Xi S 904 15 := (show Xi T2 904 15 = Xi S 904 15 from w55.x _ _ rfl)
      have w57 : Xi T2 904 70 = Xi S 904 70 := (show Xi T2 904 70 = Xi S 904 70 from w55.x _ _ rfl)
      refine y_callV rfl rfl rfl (t_mo_tellRun__p hHT2 5 z54 1 ⟨by omega, by omega⟩ ⟨by omega, by omega⟩ ⟨by omega, by omega⟩ (by first | assumption | exact (RBD_FR hFT2 rfl (by assumption : RBD S))) _) ?_
      rintro _ T3 ⟨hHT3, w59, rfl, e403⟩
      have hFT3 : FR md_mo_does__18f S T3 := FR.tr hFT2 w59 rfl
      show Pl _ _ _ _ _ _ [] _ _
      have F403 := (by assumption : FR md_mo_tellRun__p T2 T3)
      have T403 : TLW T2 T3 T2 5 (Xi S 904 23) 1 := by have t := e403; rw [z395] at t; exact t
      have W403 : TLW S T3 S 5 (Xi S 904 23) 1 := TLW_pre T403 (fun k j h => by rcases h with h | h | h | h <;> rw [h] <;> first | exact (F395.cx 912 rfl j).1 | exact (F395.cx 914 rfl j).1 | exact (F395.cx 915 rfl j).1 | exact (F395.cx 916 rfl j).1) (fun j => (F395.cx 913 rfl j).2) l395 (fun j => (F395.cx 910 rfl j).2) (fun j => (F395.cx 950 rfl j).1) (fun j => (F395.cx 951 rfl j).1)
      have L403 : LSP T3 := LSP_tl e403 (by omega) (by omega) (LSP_FR F395 rfl rfl hLS)
      have h403 : 0 ≤ Xi T3 904 15 := by have t := e403.2.2; omega
      have r403 : rnR T3 0 0 = rnR S 0 0 := (rnR_tl e403 (by omega) (fun j => (F403.cx 910 rfl j).2) (fun j => (F403.cx 950 rfl j).1) (fun j => (F403.cx 951 rfl j).1) (by rw [k395]; exact hk)).trans k395
      have c403 : Xi T3 904 23 = Xi S 904 23 + 1 := (F403.x 904 23 rfl).trans c395
      clear e403
      refine y_aload_n rfl rfl ?_
      refine y_iconst rfl ?_
      refine y_aload_n rfl rfl ?_
      refine y_aload_n rfl rfl ?_
      refine y_iconst rfl ?_
      refine y_iconst rfl ?_
      refine y_callV rfl rfl rfl (t_mo_meansRun__p hHT3 0 0 ⟨by omega, by omega⟩ ⟨by omega, by omega⟩ (by first | assumption | exact (by assumption : LSP T3)) (by first | assumption | omega) (by first | assumption | exact (RBD_FR hFT3 rfl (by assumption : RBD S))) _) ?_
      rintro _ _ ⟨rfl, z62, rfl, w62, f412⟩
      show Pl _ _ _ _ _ _ [iv z62, .ref 904, iv 5, .ref 904] _ _
      have K412 : z62 = rnR S 0 0 := f412.trans r403
      refine y_iload_n rfl rfl ?_
      have w63 : Xi T3 904 23 = Xi T2 904 23 := (show Xi T3 904 23 = Xi T2 904 23 from w59.x _ _ rfl)
      refine y_callV rfl rfl rfl (t_mo_addAdjective__p hHT3 z62 z54 ⟨by omega, by omega⟩ ⟨by omega, by omega⟩ (by first | assumption | omega) _) ?_
      rintro _ T4 ⟨hHT4, w66, z65, rfl, w65, z416, e416⟩
      have hFT4 : FR md_mo_does__18f S T4 := FR.tr hFT3 w66 rfl
      show Pl _ _ _ _ _ _ [iv z65, iv 5, .ref 904] _ _
      have F416 := (by assumption : FR md_mo_addAdjective__p T3 T4)
      have A416 : ADJ T3 T4 (rnR S 0 0) (Xi S 904 23) := by have t := e416; rw [K412, z395] at t; exact t
      have l416 : Xi T4 904 15 = Xi T3 904 15 := F416.x 904 15 rfl
      have y416 : z65 = Xi S 904 23 + 1 := by omega
      clear e416
      refine y_iconst rfl ?_
      refine y_callV rfl rfl rfl (t_mo_tellRun__p hHT4 5 z65 2 ⟨by omega, by omega⟩ ⟨by omega, by omega⟩ ⟨by omega, by omega⟩ (by first | assumption | exact (RBD_FR hFT4 rfl (by assumption : RBD S))) _) ?_
      rintro _ T5 ⟨hHT5, w70, rfl, e420⟩
      have hFT5 : FR md_mo_does__18f S T5 := FR.tr hFT4 w70 rfl
      show Pl _ _ _ _ _ _ [] _ _
      have K420 : True := trivial
      have F420 := (by assumption : FR md_mo_tellRun__p T4 T5)
      have T420 : TLW T4 T5 T4 5 (Xi S 904 23 + 1) 2 := by have t := e420; rw [y416] at t; exact t
      have W420 : TLW T3 T5 S 5 (Xi S 904 23 + 1) 2 := TLW_pre T420 (fun k j h => by rcases h with h | h | h | h <;> rw [h] <;> first | exact (F416.cx 912 rfl j).1 | exact (F416.cx 914 rfl j).1 | exact (F416.cx 915 rfl j).1 | exact (F416.cx 916 rfl j).1) (fun j => (F416.cx 913 rfl j).2) l416 (fun j => by rw [(F416.cx 910 rfl j).2, (F403.cx 910 rfl j).2, (F395.cx 910 rfl j).2]) (fun j => by rw [(F416.cx 950 rfl j).1, (F403.cx 950 rfl j).1, (F395.cx 950 rfl j).1]) (fun j => by rw [(F416.cx 951 rfl j).1, (F403.cx 951 rfl j).1, (F395.cx 951 rfl j).1])
      clear e420
      refine y_goto rfl rfl ?_
      refine y_return rfl rfl ?_
      exact ⟨hHT5, hFT5, rfl⟩
    | 19, hii =>
      cases hii
      have w73 : (Xi S 904 70) = 19 := by simpa using w33
      exfalso; omega
    | 20, hii =>
      cases hii
      have w74 : (Xi S 904 70) = 20 := by simpa using w33
      exfalso; omega
    | n + 21, hii => exact absurd hii (by simp)
def md_mo_does__19f : List rec := [(904, 905, 15, 16), (904, 905, 41, 42), (912, 913, 0, 100000), (913, 914, 0, 100000), (914, 915, 0, 100000), (915, 916, 0, 100000), (916, 917, 0, 100000), (936, 937, 0, 100000), (937, 938, 0, 100000), (938, 939, 0, 100000), (939, 940, 0, 100000)]
abbrev Q_mo_does__19f (S : sS) (first : Int) : pst := fun r S1 => RI S1 ∧ FR md_mo_does__19f S S1 ∧ (r = none)
set_option maxRecDepth 100000 in
theorem t_mo_does__19f {S : sS} (hH : RI S) (first : Int) (hfirst : 0 ≤ first ∧ first ≤ 5001) (hLS : LSP S) (h15 : 0 ≤ Xi S 904 15) (hRB : RBD S) (hs : Xi S 904 70 = 19) (ha : 0 ≤ Xi S 904 41 ∧ Xi S 904 41 ≤ 6) (hb : (Xi S 904 79 = 0 ∨ Xi S 904 79 = 1) ∧ (Xi S 904 80 = 0 ∨ Xi S 904 80 = 1)) (d : Nat) : Mp lay0 (d + 8) m_mo_does [.ref 904, iv first] S (Q_mo_does__19f S first) := by
  refine Mp_R rfl rfl (fun fu => ?_)
  have hF : FR md_mo_does__19f S S := FR.rf
  have w1 : -2147483648 ≤ Xi S 904 15 ∧ Xi S 904 15 ≤ 2147483647 := Xi_rgI
  have w2 : -2147483648 ≤ Xi S 904 41 ∧ Xi S 904 41 ≤ 2147483647 := Xi_rgI
  have w3 : -2147483648 ≤ Xi S 904 70 ∧ Xi S 904 70 ≤ 2147483647 := Xi_rgI
  have w4 : -2147483648 ≤ Xi S 904 79 ∧ Xi S 904 79 ≤ 2147483647 := Xi_rgI
  have w5 : -2147483648 ≤ Xi S 904 80 ∧ Xi S 904 80 ≤ 2147483647 := Xi_rgI
  have C300 : ∀ (n300 : Nat) (_ : n300 ≤ fu) (T1 : sS) (_ : RI T1) (_ : FR md_mo_does__19f S T1) (v2 : Int), (-2147483648 ≤ v2 ∧ v2 ≤ 2147483647) → ((1 : Int) = 0) → Pl n300 lay0 (d + 7) m_mo_does 300 [(0, .ref 904), (2, iv v2)] [] T1 (Q_mo_does__19f S first) := by
    intro n300
    induction n300 with
    | zero => intros; exact Pl_0
    | succ n300 ih300 =>
      intro hm300 T1 hHT1 hFT1 v2 w6 w7
      have w8 : Xi T1 904 106 = Xi S 904 106 := hFT1.x _ _ rfl
      have w9 : Xi T1 904 110 = Xi S 904 110 := hFT1.x _ _ rfl
      have w10 : Xi T1 904 112 = Xi S 904 112 := hFT1.x _ _ rfl
      have w11 : Xi T1 904 117 = Xi S 904 117 := hFT1.x _ _ rfl
      have w12 : Xi T1 904 142 = Xi S 904 142 := hFT1.x _ _ rfl
      have w13 : Xi T1 904 16 = Xi S 904 16 := hFT1.x _ _ rfl
      have w14 : Xi T1 904 18 = Xi S 904 18 := hFT1.x _ _ rfl
      have w15 : Xi T1 904 19 = Xi S 904 19 := hFT1.x _ _ rfl
      have w16 : Xi T1 904 23 = Xi S 904 23 := hFT1.x _ _ rfl
      have w17 : Xi T1 904 30 = Xi S 904 30 := hFT1.x _ _ rfl
      have w18 : Xi T1 904 32 = Xi S 904 32 := hFT1.x _ _ rfl
      have w19 : Xi T1 904 49 = Xi S 904 49 := hFT1.x _ _ rfl
      have w20 : Xi T1 904 55 = Xi S 904 55 := hFT1.x _ _ rfl
      have w21 : Xi T1 904 60 = Xi S 904 60 := hFT1.x _ _ rfl
      have w22 : Xi T1 904 69 = Xi S 904 69 := hFT1.x _ _ rfl
      have w23 : Xi T1 904 70 = Xi S 904 70 := hFT1.x _ _ rfl
      have w24 : Xi T1 904 71 = Xi S 904 71 := hFT1.x _ _ rfl
      have w25 : Xi T1 904 72 = Xi S 904 72 := hFT1.x _ _ rfl
      have w26 : Xi T1 904 73 = Xi S 904 73 := hFT1.x _ _ rfl
      have w27 : Xi T1 904 74 = Xi S 904 74 := hFT1.x _ _ rfl
      have w28 : Xi T1 904 78 = Xi S 904 78 := hFT1.x _ _ rfl
      have w29 : Xi T1 904 79 = Xi S 904 79 := hFT1.x _ _ rfl
      have w30 : Xi T1 904 80 = Xi S 904 80 := hFT1.x _ _ rfl
      have w31 : Xi T1 904 94 = Xi S 904 94 := hFT1.x _ _ rfl
      have w32 : Xi T1 951 1 = Xi S 951 1 := hFT1.x _ _ rfl
      have w33 : Xi T1 951 2 = Xi S 951 2 := hFT1.x _ _ rfl
      have w34 : Xi T1 967 0 = Xi S 967 0 := hFT1.x _ _ rfl
      have w35 : -2147483648 ≤ Xi T1 904 15 ∧ Xi T1 904 15 ≤ 2147483647 := Xi_rgI
      have w36 : -2147483648 ≤ Xi T1 904 41 ∧ Xi T1 904 41 ≤ 2147483647 := Xi_rgI
      have w37 : -2147483648 ≤ Xi T1 904 70 ∧ Xi T1 904 70 ≤ 2147483647 := Xi_rgI
      have w38 : -2147483648 ≤ Xi T1 904 79 ∧ Xi T1 904 79 ≤ 2147483647 := Xi_rgI
      have w39 : -2147483648 ≤ Xi T1 904 80 ∧ Xi T1 904 80 ≤ 2147483647 := Xi_rgI
      exfalso; omega
  refine y_aload_n rfl rfl ?_
  refine y_gfi rfl rfl rfl rfl rfl ?_
  refine y_tsw rfl rfl rfl rfl (by unfold rg; omega) (fun w40 => ?_) (fun ii tt hii w40 => ?_)
  · refine y_return rfl rfl ?_
    exact ⟨hH, hF, rfl⟩
  · match ii, hii with
    | 0, hii =>
      cases hii
      have w41 : (Xi S 904 70) = 0 := by simpa using w40
      exfalso; omega
    | 1, hii =>
      cases hii
      have w42 : (Xi S 904 70) = 1 := by simpa using w40
      exfalso; omega
    | 2, hii =>
      cases hii
      have w43 : (Xi S 904 70) = 2 := by simpa using w40
      exfalso; omega
    | 3, hii =>
      cases hii
      have w44 : (Xi S 904 70) = 3 := by simpa using w40
      refine y_return rfl rfl ?_
      exact ⟨hH, hF, rfl⟩
    | 4, hii =>
      cases hii
      have w45 : (Xi S 904 70) = 4 := by simpa using w40
      refine y_return rfl rfl ?_
      exact ⟨hH, hF, rfl⟩
    | 5, hii =>
      cases hii
      have w46 : (Xi S 904 70) = 5 := by simpa using w40
      refine y_return rfl rfl ?_
      exact ⟨hH, hF, rfl⟩
    | 6, hii =>
      cases hii
      have w47 : (Xi S 904 70) = 6 := by simpa using w40
      refine y_return rfl rfl ?_
      exact ⟨hH, hF, rfl⟩
    | 7, hii =>
      cases hii
      have w48 : (Xi S 904 70) = 7 := by simpa using w40
      exfalso; omega
    | 8, hii =>
      cases hii
      have w49 : (Xi S 904 70) = 8 := by simpa using w40
      exfalso; omega
    | 9, hii =>
      cases hii
      have w50 : (Xi S 904 70) = 9 := by simpa using w40
      exfalso; omega
    | 10, hii =>
      cases hii
      have w51 : (Xi S 904 70) = 10 := by simpa using w40
      exfalso; omega
    | 11, hii =>
      cases hii
      have w52 : (Xi S 904 70) = 11 := by simpa using w40
      exfalso; omega
    | 12, hii =>
      cases hii
      have w53 : (Xi S 904 70) = 12 := by simpa using w40
      exfalso; omega
    | 13, hii =>
      cases hii
      have w54 : (Xi S 904 70) = 13 := by simpa using w40
      exfalso; omega
    | 14, hii =>
      cases hii
      have w55 : (Xi S 904 70) = 14 := by simpa using w40
      exfalso; omega
    | 15, hii =>
      cases hii
      have w56 : (Xi S 904 70) = 15 := by simpa using w40
      exfalso; omega
    | 16, hii =>
      cases hii
      have w57 : (Xi S 904 70) = 16 := by simpa using w40
      exfalso; omega
    | 17, hii =>
      cases hii
      have w58 : (Xi S 904 70) = 17 := by simpa using w40
      exfalso; omega
    | 18, hii =>
      cases hii
      have w59 : (Xi S 904 70) = 18 := by simpa using w40
      exfalso; omega
    | 19, hii =>
      cases hii
      have w60 : (Xi S 904 70) = 19 := by simpa using w40
      refine y_aload_n rfl rfl ?_
      refine y_gfr rfl rfl rfl rfl rfl (hH.r 904 42 936 rfl) ?_
      refine y_aload_n rfl rfl ?_
      refine y_gfi rfl rfl rfl rfl rfl ?_
      refine y_aload_n rfl rfl ?_
      refine y_iconst rfl ?_
      refine y_callV rfl rfl rfl (t_mo_kindOrPlural__p hH 1 ⟨by omega, by omega⟩ (by first | assumption | exact (by assumption : LSP S)) (by first | assumption | omega) (by first | assumption | exact (RBD_FR hF rfl (by assumption : RBD S))) _) ?_
      rintro _ _ ⟨rfl, z61, rfl, w61, f436⟩
      show Pl _ _ _ _ _ _ [iv z61, iv (Xi S 904 41), .ref 936] _ _
      refine y_iastoreP (n := 6) rfl rfl (by unfold rg; omega) (fun w62 w63 => ?_)
      obtain ⟨U2, eU2⟩ : ∃ T : sS, T = uI S 936 (((Xi S 904 41)).toNat) (Int32.ofInt z61) := ⟨_, rfl⟩
      rw [← eU2]
      have hHU2 : RI U2 := by rw [eU2]; exact RI_w hH
      have hFU2 : FR md_mo_does__19f S U2 := by rw [eU2]; exact FR.wI hF (mdf_i (r := (936, 937, 0, 100000)) (List.mem_of_getElem? (i := 7) rfl) (inR_i (by omega) (by omega) (by omega) (by omega)))
      have w64 : Xi U2 936 (((Xi S 904 41)).toNat) = z61 := by rw [eU2]; exact Xi_same (by unfold rg; omega)
      have w439 := eU2
      refine y_aload_n rfl rfl ?_
      refine y_gfr rfl rfl rfl rfl rfl (hHU2.r 904 43 937 rfl) ?_
      refine y_aload_n rfl rfl ?_
      refine y_gfi rfl rfl rfl rfl rfl ?_
      have w65 : (Xi U2 904 41) = (Xi S 904 41) := (show Xi U2 904 41 = Xi S 904 41 from by rw [eU2]; exact Xi_ne (by omega))
      rw [w65]
      refine y_aload_n rfl rfl ?_
      refine y_iconst rfl ?_
      have w66 : Xi U2 904 15 = Xi S 904 15 := (show Xi U2 904 15 = Xi S 904 15 from by rw [eU2]; exact Xi_ne (by omega))
      have w67 : Xi U2 904 41 = Xi S 904 41 := (show Xi U2 904 41 = Xi S 904 41 from by rw [eU2]; exact Xi_ne (by omega))
      have w68 : Xi U2 904 70 = Xi S 904 70 := (show Xi U2 904 70 = Xi S 904 70 from by rw [eU2]; exact Xi_ne (by omega))
      have w69 : Xi U2 904 79 = Xi S 904 79 := (show Xi U2 904 79 = Xi S 904 79 from by rw [eU2]; exact Xi_ne (by omega))
      have w70 : Xi U2 904 80 = Xi S 904 80 := (show Xi U2 904 80 = Xi S 904 80 from by rw [eU2]; exact Xi_ne (by omega))
      refine y_callV rfl rfl rfl (t_mo_kindOrPlural__p hHU2 2 ⟨by omega, by omega⟩ (by first | assumption | exact (LSP_FR (FR_e eU2) rfl rfl (by assumption : LSP S))) (by first | assumption | omega) (by first | assumption | exact (RBD_FR hFU2 rfl (by assumption : RBD S))) _) ?_
      rintro _ _ ⟨rfl, z71, rfl, w71, f450⟩
      show Pl _ _ _ _ _ _ [iv z71, iv (Xi S 904 41), .ref 937] _ _
      have K450 : z71 = r2R S 2 0 1 := f450.trans (r2R_FR (FR_e w439) rfl rfl)
      refine y_iastoreP (n := 6) rfl rfl (by unfold rg; omega) (fun w72 w73 => ?_)
      obtain ⟨U3, eU3⟩ : ∃ T : sS, T = uI U2 937 (((Xi S 904 41)).toNat) (Int32.ofInt z71) := ⟨_, rfl⟩
      rw [← eU3]
      have hHU3 : RI U3 := by rw [eU3]; exact RI_w hHU2
      have hFU3 : FR md_mo_does__19f S U3 := by rw [eU3]; exact FR.wI hFU2 (mdf_i (r := (937, 938, 0, 100000)) (List.mem_of_getElem? (i := 8) rfl) (inR_i (by omega) (by omega) (by omega) (by omega)))
      have w74 : Xi U3 937 (((Xi S 904 41)).toNat) = z71 := by rw [eU3]; exact Xi_same (by unfold rg; omega)
      have w453 := eU3
      refine y_aload_n rfl rfl ?_
      refine y_gfr rfl rfl rfl rfl rfl (hHU3.r 904 44 938 rfl) ?_
      refine y_aload_n rfl rfl ?_
      refine y_gfi rfl rfl rfl rfl rfl ?_
      have w75 : (Xi U3 904 41) = (Xi S 904 41) := (show Xi U3 904 41 = Xi U2 904 41 from by rw [eU3]; exact Xi_ne (by omega)).trans ((show Xi U2 904 41 = Xi S 904 41 from by rw [eU2]; exact Xi_ne (by omega)))
      rw [w75]
      refine y_aload_n rfl rfl ?_
      refine y_gfi rfl rfl rfl rfl rfl ?_
      have w76 : (Xi U3 904 79) = (Xi S 904 79) := (show Xi U3 904 79 = Xi U2 904 79 from by rw [eU3]; exact Xi_ne (by omega)).trans ((show Xi U2 904 79 = Xi S 904 79 from by rw [eU2]; exact Xi_ne (by omega)))
      rw [w76]
      refine y_bastoreZP (n := 6) rfl rfl (by unfold rg; omega) ⟨by omega, by omega⟩ (fun w77 w78 => ?_)
      obtain ⟨U4, eU4⟩ : ∃ T : sS, T = uI U3 938 (((Xi S 904 41)).toNat) (Int32.ofInt (Xi S 904 79)) := ⟨_, rfl⟩
      rw [← eU4]
      have hHU4 : RI U4 := by rw [eU4]; exact RI_w hHU3
      have hFU4 : FR md_mo_does__19f S U4 := by rw [eU4]; exact FR.wI hFU3 (mdf_i (r := (938, 939, 0, 100000)) (List.mem_of_getElem? (i := 9) rfl) (inR_i (by omega) (by omega) (by omega) (by omega)))
      have w79 : Xi U4 938 (((Xi S 904 41)).toNat) = (Xi S 904 79) := by rw [eU4]; exact Xi_same (by unfold rg; omega)
      have w466 := eU4
      refine y_aload_n rfl rfl ?_
      refine y_gfr rfl rfl rfl rfl rfl (hHU4.r 904 45 939 rfl) ?_
      refine y_aload_n rfl rfl ?_
      refine y_gfi rfl rfl rfl rfl rfl ?_
      have w80 : (Xi U4 904 41) = (Xi S 904 41) := (show Xi U4 904 41 = Xi U3 904 41 from by rw [eU4]; exact Xi_ne (by omega)).trans ( (show Xi U3 904 41 = Xi U2 904 41 from by rw [eU3]; exact Xi_ne (by omega)).trans ((show Xi U2 904 41 = Xi S 904 41 from by rw [eU2]; exact Xi_ne (by omega))))
      rw [w80]
      refine y_aload_n rfl rfl ?_
      refine y_gfi rfl rfl rfl rfl rfl ?_
      have w81 : (Xi U4 904 80) = (Xi S 904 80) := (show Xi U4 904 80 = Xi U3 904 80 from by rw [eU4]; exact Xi_ne (by omega)).trans ( (show Xi U3 904 80 = Xi U2 904 80 from by rw [eU3]; exact Xi_ne (by omega)).trans ((show Xi U2 904 80 = Xi S 904 80 from by rw [eU2]; exact Xi_ne (by omega))))
      rw [w81]
      refine y_bastoreZP (n := 6) rfl rfl (by unfold rg; omega) ⟨by omega, by omega⟩ (fun w82 w83 => ?_)
      obtain ⟨U5, eU5⟩ : ∃ T : sS, T = uI U4 939 (((Xi S 904 41)).toNat) (Int32.ofInt (Xi S 904 80)) := ⟨_, rfl⟩
      rw [← eU5]
      have hHU5 : RI U5 := by rw [eU5]; exact RI_w hHU4
      have hFU5 : FR md_mo_does__19f S U5 := by rw [eU5]; exact FR.wI hFU4 (mdf_i (r := (939, 940, 0, 100000)) (List.mem_of_getElem? (i := 10) rfl) (inR_i (by omega) (by omega) (by omega) (by omega)))
      have w84 : Xi U5 939 (((Xi S 904 41)).toNat) = (Xi S 904 80) := by rw [eU5]; exact Xi_same (by unfold rg; omega)
      have w479 := eU5
      refine y_aload_n rfl rfl ?_
      refine y_bipush rfl rfl ?_
      refine y_aload_n rfl rfl ?_
      refine y_gfi rfl rfl rfl rfl rfl ?_
      have w85 : (Xi U5 904 41) = (Xi S 904 41) := (show Xi U5 904 41 = Xi U4 904 41 from by rw [eU5]; exact Xi_ne (by omega)).trans ( (show Xi U4 904 41 = Xi U3 904 41 from by rw [eU4]; exact Xi_ne (by omega)).trans ( (show Xi U3 904 41 = Xi U2 904 41 from by rw [eU3]; exact Xi_ne (by omega)).trans ((show Xi U2 904 41 = Xi S 904 41 from by rw [eU2]; exact Xi_ne (by omega)))))
      rw [w85]
      refine y_iconst rfl ?_
      have w86 : Xi U5 904 15 = Xi S 904 15 := (show Xi U5 904 15 = Xi U4 904 15 from by rw [eU5]; exact Xi_ne (by omega)).trans ( (show Xi U4 904 15 = Xi U3 904 15 from by rw [eU4]; exact Xi_ne (by omega)).trans ( (show Xi U3 904 15 = Xi U2 904 15 from by rw [eU3]; exact Xi_ne (by omega)).trans ((show Xi U2 904 15 = Xi S 904 15 from by rw [eU2]; exact Xi_ne (by omega)))))
      have w87 : Xi U5 904 41 = Xi S 904 41 := (show Xi U5 904 41 = Xi U4 904 41 from by rw [eU5]; exact Xi_ne (by omega)).trans ( (show Xi U4 904 41 = Xi U3 904 41 from by rw [eU4]; exact Xi_ne (by omega)).trans ( (show Xi U3 904 41 = Xi U2 904 41 from by rw [eU3]; exact Xi_ne (by omega)).trans ((show Xi U2 904 41 = Xi S 904 41 from by rw [eU2]; exact Xi_ne (by omega)))))
      have w88 : Xi U5 904 70 = Xi S 904 70 := (show Xi U5 904 70 = Xi U4 904 70 from by rw [eU5]; exact Xi_ne (by omega)).trans ( (show Xi U4 904 70 = Xi U3 904 70 from by rw [eU4]; exact Xi_ne (by omega)).trans ( (show Xi U3 904 70 = Xi U2 904 70 from by rw [eU3]; exact Xi_ne (by omega)).trans ((show Xi U2 904 70 = Xi S 904 70 from by rw [eU2]; exact Xi_ne (by omega)))))
      have w89 : Xi U5 904 79 = Xi S 904 79 := (show Xi U5 904 79 = Xi U4 904 79 from by rw [eU5]; exact Xi_ne (by omega)).trans ( (show Xi U4 904 79 = Xi U3 904 79 from by rw [eU4]; exact Xi_ne (by omega)).trans ( (show Xi U3 904 79 = Xi U2 904 79 from by rw [eU3]; exact Xi_ne (by omega)).trans ((show Xi U2 904 79 = Xi S 904 79 from by rw [eU2]; exact Xi_ne (by omega)))))
      have w90 : Xi U5 904 80 = Xi S 904 80 := (show Xi U5 904 80 = Xi U4 904 80 from by rw [eU5]; exact Xi_ne (by omega)).trans ( (show Xi U4 904 80 = Xi U3 904 80 from by rw [eU4]; exact Xi_ne (by omega)).trans ( (show Xi U3 904 80 = Xi U2 904 80 from by rw [eU3]; exact Xi_ne (by omega)).trans ((show Xi U2 904 80 = Xi S 904 80 from by rw [eU2]; exact Xi_ne (by omega)))))
      refine y_callV rfl rfl rfl (t_mo_tellRun__p hHU5 8 (Xi S 904 41) 0 ⟨by omega, by omega⟩ ⟨by omega, by omega⟩ ⟨by omega, by omega⟩ (by first | assumption | exact (RBD_FR hFU5 rfl (by assumption : RBD S))) _) ?_
      rintro _ T6 ⟨hHT6, w92, rfl, e488⟩
      have hFT6 : FR md_mo_does__19f S T6 := FR.tr hFU5 w92 rfl
      show Pl _ _ _ _ _ _ [] _ _
      have F488 := (by assumption : FR md_mo_tellRun__p U5 T6)
      have T488 : TLW U5 T6 U5 8 (Xi S 904 41) 0 := e488
      clear e488
      refine y_aload_n rfl rfl ?_
      refine y_dup rfl rfl ?_
      refine y_gfi rfl rfl rfl rfl rfl ?_
      have w93 : (Xi T6 904 41) = (Xi S 904 41) := (show Xi T6 904 41 = Xi U5 904 41 from w92.x _ _ rfl).trans ( (show Xi U5 904 41 = Xi U4 904 41 from by rw [eU5]; exact Xi_ne (by omega)).trans ( (show Xi U4 904 41 = Xi U3 904 41 from by rw [eU4]; exact Xi_ne (by omega)).trans ( (show Xi U3 904 41 = Xi U2 904 41 from by rw [eU3]; exact Xi_ne (by omega)).trans ((show Xi U2 904 41 = Xi S 904 41 from by rw [eU2]; exact Xi_ne (by omega))))))
      rw [w93]
      refine y_iconst rfl ?_
      refine y_iadd rfl ?_
      refine y_pfi rfl rfl rfl rfl ?_
      obtain ⟨U7, eU7⟩ : ∃ T : sS, T = uI T6 904 41 (Int32.ofInt ((Xi S 904 41) + 1)) := ⟨_, rfl⟩
      rw [← eU7]
      have hHU7 : RI U7 := by rw [eU7]; exact RI_w hHT6
      have hFU7 : FR md_mo_does__19f S U7 := by rw [eU7]; exact FR.wI hFT6 (mdf_i (r := (904, 905, 41, 42)) (List.mem_of_getElem? (i := 1) rfl) (inR_i (by omega) (by omega) (by omega) (by omega)))
      have w94 : Xi U7 904 41 = ((Xi S 904 41) + 1) := by rw [eU7]; exact Xi_same (by unfold rg; omega)
      have K498 : True := trivial
      have R498 : RD19 S U7 := rd19_of w439 w453 w466 w479 (fun j => ⟨(F488.cx 936 rfl j).1, (F488.cx 937 rfl j).1, (F488.cx 938 rfl j).1, (F488.cx 939 rfl j).1⟩) T488 eU7 ha (by unfold rg; omega) (by unfold rg; omega) (by omega) (by omega) f436 K450 (by first | rfl | omega) (by first | rfl | omega)
      refine y_goto rfl rfl ?_
      refine y_return rfl rfl ?_
      exact ⟨hHU7, hFU7, rfl⟩
    | 20, hii =>
      cases hii
      have w99 : (Xi S 904 70) = 20 := by simpa using w40
      exfalso; omega
    | n + 21, hii => exact absurd hii (by simp)
def md_mo_does__20f : List rec := [(904, 905, 105, 106), (904, 905, 106, 107), (940, 941, 0, 100000)]
abbrev Q_mo_does__20f (S : sS) (first : Int) : pst := fun r S1 => RI S1 ∧ FR md_mo_does__20f S S1 ∧ (r = none)
set_option maxRecDepth 100000 in
theorem t_mo_does__20f {S : sS} (hH : RI S) (first : Int) (hfirst : 0 ≤ first ∧ first ≤ 5001) (hob : 0 ≤ Xi S 904 19 ∧ Xi S 904 19 ≤ 24) (h0 : Xi S 904 106 = 0) (hrl : 0 ≤ Xi S 904 147 ∧ Xi S 904 147 ≤ 5) (h144 : 0 ≤ Xi S 904 144 ∧ Xi S 904 144 ≤ 5200) (h146 : 0 ≤ Xi S 904 146 ∧ Xi S 904 146 ≤ 5200) (ha : Hid (∀ i : Nat, (i : Int) < Xi S 904 144 → 0 ≤ Xi S 988 i ∧ Xi S 988 i ≤ 23)) (hb : Hid (∀ i : Nat, (i : Int) < Xi S 904 146 → 0 ≤ Xi S 989 i ∧ Xi S 989 i ≤ 23)) (hs : Xi S 904 70 = 20) (d : Nat) : Mp lay0 (d + 8) m_mo_does [.ref 904, iv first] S (Q_mo_does__20f S first) := by
  refine Mp_R rfl rfl (fun fu => ?_)
  have hF : FR md_mo_does__20f S S := FR.rf
  have w1 : -2147483648 ≤ Xi S 904 106 ∧ Xi S 904 106 ≤ 2147483647 := Xi_rgI
  have w2 : -2147483648 ≤ Xi S 904 144 ∧ Xi S 904 144 ≤ 2147483647 := Xi_rgI
  have w3 : -2147483648 ≤ Xi S 904 146 ∧ Xi S 904 146 ≤ 2147483647 := Xi_rgI
  have w4 : -2147483648 ≤ Xi S 904 147 ∧ Xi S 904 147 ≤ 2147483647 := Xi_rgI
  have w5 : -2147483648 ≤ Xi S 904 19 ∧ Xi S 904 19 ≤ 2147483647 := Xi_rgI
  have w6 : -2147483648 ≤ Xi S 904 70 ∧ Xi S 904 70 ≤ 2147483647 := Xi_rgI
  have C300 : ∀ (n300 : Nat) (_ : n300 ≤ fu) (T1 : sS) (_ : RI T1) (_ : FR md_mo_does__20f S T1) (v2 : Int), (-2147483648 ≤ v2 ∧ v2 ≤ 2147483647) → ((1 : Int) = 0) → Pl n300 lay0 (d + 7) m_mo_does 300 [(0, .ref 904), (2, iv v2)] [] T1 (Q_mo_does__20f S first) := by
    intro n300
    induction n300 with
    | zero => intros; exact Pl_0
    | succ n300 ih300 =>
      intro hm300 T1 hHT1 hFT1 v2 w7 w8
      have w9 : Xi T1 904 110 = Xi S 904 110 := hFT1.x _ _ rfl
      have w10 : Xi T1 904 112 = Xi S 904 112 := hFT1.x _ _ rfl
      have w11 : Xi T1 904 117 = Xi S 904 117 := hFT1.x _ _ rfl
      have w12 : Xi T1 904 142 = Xi S 904 142 := hFT1.x _ _ rfl
      have w13 : Xi T1 904 144 = Xi S 904 144 := hFT1.x _ _ rfl
      have w14 : Xi T1 904 146 = Xi S 904 146 := hFT1.x _ _ rfl
      have w15 : Xi T1 904 147 = Xi S 904 147 := hFT1.x _ _ rfl
      have w16 : Xi T1 904 15 = Xi S 904 15 := hFT1.x _ _ rfl
      have w17 : Xi T1 904 16 = Xi S 904 16 := hFT1.x _ _ rfl
      have w18 : Xi T1 904 18 = Xi S 904 18 := hFT1.x _ _ rfl
      have w19 : Xi T1 904 19 = Xi S 904 19 := hFT1.x _ _ rfl
      have w20 : Xi T1 904 23 = Xi S 904 23 := hFT1.x _ _ rfl
      have w21 : Xi T1 904 30 = Xi S 904 30 := hFT1.x _ _ rfl
      have w22 : Xi T1 904 32 = Xi S 904 32 := hFT1.x _ _ rfl
      have w23 : Xi T1 904 49 = Xi S 904 49 := hFT1.x _ _ rfl
      have w24 : Xi T1 904 55 = Xi S 904 55 := hFT1.x _ _ rfl
      have w25 : Xi T1 904 60 = Xi S 904 60 := hFT1.x _ _ rfl
      have w26 : Xi T1 904 69 = Xi S 904 69 := hFT1.x _ _ rfl
      have w27 : Xi T1 904 70 = Xi S 904 70 := hFT1.x _ _ rfl
      have w28 : Xi T1 904 71 = Xi S 904 71 := hFT1.x _ _ rfl
      have w29 : Xi T1 904 72 = Xi S 904 72 := hFT1.x _ _ rfl
      have w30 : Xi T1 904 73 = Xi S 904 73 := hFT1.x _ _ rfl
      have w31 : Xi T1 904 74 = Xi S 904 74 := hFT1.x _ _ rfl
      have w32 : Xi T1 904 78 = Xi S 904 78 := hFT1.x _ _ rfl
      have w33 : Xi T1 904 94 = Xi S 904 94 := hFT1.x _ _ rfl
      have w34 : Xi T1 951 1 = Xi S 951 1 := hFT1.x _ _ rfl
      have w35 : Xi T1 951 2 = Xi S 951 2 := hFT1.x _ _ rfl
      have w36 : Xi T1 967 0 = Xi S 967 0 := hFT1.x _ _ rfl
      have w37 : -2147483648 ≤ Xi T1 904 106 ∧ Xi T1 904 106 ≤ 2147483647 := Xi_rgI
      have w38 : -2147483648 ≤ Xi T1 904 144 ∧ Xi T1 904 144 ≤ 2147483647 := Xi_rgI
      have w39 : -2147483648 ≤ Xi T1 904 146 ∧ Xi T1 904 146 ≤ 2147483647 := Xi_rgI
      have w40 : -2147483648 ≤ Xi T1 904 147 ∧ Xi T1 904 147 ≤ 2147483647 := Xi_rgI
      have w41 : -2147483648 ≤ Xi T1 904 19 ∧ Xi T1 904 19 ≤ 2147483647 := Xi_rgI
      have w42 : -2147483648 ≤ Xi T1 904 70 ∧ Xi T1 904 70 ≤ 2147483647 := Xi_rgI
      exfalso; omega
  refine y_aload_n rfl rfl ?_
  refine y_gfi rfl rfl rfl rfl rfl ?_
  refine y_tsw rfl rfl rfl rfl (by unfold rg; omega) (fun w43 => ?_) (fun ii tt hii w43 => ?_)
  · refine y_return rfl rfl ?_
    exact ⟨hH, hF, rfl⟩
  · match ii, hii with
    | 0, hii =>
      cases hii
      have w44 : (Xi S 904 70) = 0 := by simpa using w43
      exfalso; omega
    | 1, hii =>
      cases hii
      have w45 : (Xi S 904 70) = 1 := by simpa using w43
      exfalso; omega
    | 2, hii =>
      cases hii
      have w46 : (Xi S 904 70) = 2 := by simpa using w43
      exfalso; omega
    | 3, hii =>
      cases hii
      have w47 : (Xi S 904 70) = 3 := by simpa using w43
      refine y_return rfl rfl ?_
      exact ⟨hH, hF, rfl⟩
    | 4, hii =>
      cases hii
      have w48 : (Xi S 904 70) = 4 := by simpa using w43
      refine y_return rfl rfl ?_
      exact ⟨hH, hF, rfl⟩
    | 5, hii =>
      cases hii
      have w49 : (Xi S 904 70) = 5 := by simpa using w43
      refine y_return rfl rfl ?_
      exact ⟨hH, hF, rfl⟩
    | 6, hii =>
      cases hii
      have w50 : (Xi S 904 70) = 6 := by simpa using w43
      refine y_return rfl rfl ?_
      exact ⟨hH, hF, rfl⟩
    | 7, hii =>
      cases hii
      have w51 : (Xi S 904 70) = 7 := by simpa using w43
      exfalso; omega
    | 8, hii =>
      cases hii
      have w52 : (Xi S 904 70) = 8 := by simpa using w43
      exfalso; omega
    | 9, hii =>
      cases hii
      have w53 : (Xi S 904 70) = 9 := by simpa using w43
      exfalso; omega
    | 10, hii =>
      cases hii
      have w54 : (Xi S 904 70) = 10 := by simpa using w43
      exfalso; omega
    | 11, hii =>
      cases hii
      have w55 : (Xi S 904 70) = 11 := by simpa using w43
      exfalso; omega
    | 12, hii =>
      cases hii
      have w56 : (Xi S 904 70) = 12 := by simpa using w43
      exfalso; omega
    | 13, hii =>
      cases hii
      have w57 : (Xi S 904 70) = 13 := by simpa using w43
      exfalso; omega
    | 14, hii =>
      cases hii
      have w58 : (Xi S 904 70) = 14 := by simpa using w43
      exfalso; omega
    | 15, hii =>
      cases hii
      have w59 : (Xi S 904 70) = 15 := by simpa using w43
      exfalso; omega
    | 16, hii =>
      cases hii
      have w60 : (Xi S 904 70) = 16 := by simpa using w43
      exfalso; omega
    | 17, hii =>
      cases hii
      have w61 : (Xi S 904 70) = 17 := by simpa using w43
      exfalso; omega
    | 18, hii =>
      cases hii
      have w62 : (Xi S 904 70) = 18 := by simpa using w43
      exfalso; omega
    | 19, hii =>
      cases hii
      have w63 : (Xi S 904 70) = 19 := by simpa using w43
      exfalso; omega
    | 20, hii =>
      cases hii
      have w64 : (Xi S 904 70) = 20 := by simpa using w43
      refine y_aload_n rfl rfl ?_
      refine y_iload_n rfl rfl ?_
      refine y_callV rfl rfl rfl (t_mo_doSaying__p hH first ⟨by omega, by omega⟩ (by first | assumption | omega) (by first | assumption | omega) (by first | assumption | omega) (by first | assumption | omega) (by first | assumption | omega) (by first | assumption | omega) (by first | assumption | omega) _) ?_
      rintro _ T2 ⟨hHT2, w66, rfl, o506⟩
      have hFT2 : FR md_mo_does__20f S T2 := FR.tr hF w66 rfl
      show Pl _ _ _ _ _ _ [] _ _
      have K506 : True := trivial
      refine y_goto rfl rfl ?_
      refine y_return rfl rfl ?_
      exact ⟨hHT2, hFT2, rfl⟩
    | n + 21, hii => exact absurd hii (by simp)
def md_mo_does__15af : List rec := [(904, 905, 105, 106), (904, 905, 106, 107), (925, 926, 0, 100000), (926, 927, 0, 100000), (933, 934, 0, 100000), (934, 935, 0, 100000), (935, 936, 0, 100000)]
abbrev Q_mo_does__15af (S : sS) (first : Int) : pst := fun r S1 => RI S1 ∧ FR md_mo_does__15af S S1 ∧ (r = none)
set_option maxRecDepth 100000 in
theorem t_mo_does__15af {S : sS} (hH : RI S) (first : Int) (hfirst : 0 ≤ first ∧ first ≤ 5001) (hLS : LSP S) (h15 : 0 ≤ Xi S 904 15) (hRB : RBD S) (hLX : LXR S) (hct : Hid (∀ j : Nat, -1 ≤ Xi S 922 j ∧ Xi S 922 j ≤ 23)) (hh : Xi S 904 142 = 1) (hz0 : Xi S 904 106 = 0) (hk : rnR S (Xi S 904 71) 0 ≠ -1 ∧ rnR S (Xi S 904 71) 0 ≤ 15) (hra : 0 ≤ Xi S 967 0 ∧ Xi S 967 0 ≤ 7000) (hs : 15 ≤ Xi S 904 70 ∧ Xi S 904 70 ≤ 16) (d : Nat) : Mp lay0 (d + 8) m_mo_does [.ref 904, iv first] S (Q_mo_does__15af S first) := by
  refine Mp_R rfl rfl (fun fu => ?_)
  have hF : FR md_mo_does__15af S S := FR.rf
  have w1 : -2147483648 ≤ Xi S 904 106 ∧ Xi S 904 106 ≤ 2147483647 := Xi_rgI
  have w2 : -2147483648 ≤ Xi S 904 110 ∧ Xi S 904 110 ≤ 2147483647 := Xi_rgI
  have w3 : -2147483648 ≤ Xi S 904 112 ∧ Xi S 904 112 ≤ 2147483647 := Xi_rgI
  have w4 : -2147483648 ≤ Xi S 904 142 ∧ Xi S 904 142 ≤ 2147483647 := Xi_rgI
  have w5 : -2147483648 ≤ Xi S 904 15 ∧ Xi S 904 15 ≤ 2147483647 := Xi_rgI
  have w6 : -2147483648 ≤ Xi S 904 19 ∧ Xi S 904 19 ≤ 2147483647 := Xi_rgI
  have w7 : -2147483648 ≤ Xi S 904 30 ∧ Xi S 904 30 ≤ 2147483647 := Xi_rgI
  have w8 : -2147483648 ≤ Xi S 904 32 ∧ Xi S 904 32 ≤ 2147483647 := Xi_rgI
  have w9 : -2147483648 ≤ Xi S 904 69 ∧ Xi S 904 69 ≤ 2147483647 := Xi_rgI
  have w10 : -2147483648 ≤ Xi S 904 70 ∧ Xi S 904 70 ≤ 2147483647 := Xi_rgI
  have w11 : -2147483648 ≤ Xi S 904 71 ∧ Xi S 904 71 ≤ 2147483647 := Xi_rgI
  have w12 : -2147483648 ≤ Xi S 904 72 ∧ Xi S 904 72 ≤ 2147483647 := Xi_rgI
  have w13 : -2147483648 ≤ Xi S 904 74 ∧ Xi S 904 74 ≤ 2147483647 := Xi_rgI
  have w14 : -2147483648 ≤ Xi S 904 75 ∧ Xi S 904 75 ≤ 2147483647 := Xi_rgI
  have w15 : -2147483648 ≤ Xi S 904 78 ∧ Xi S 904 78 ≤ 2147483647 := Xi_rgI
  have w16 : -2147483648 ≤ Xi S 967 0 ∧ Xi S 967 0 ≤ 2147483647 := Xi_rgI
  have C300 : ∀ (n300 : Nat) (_ : n300 ≤ fu) (T1 : sS) (_ : RI T1) (_ : FR md_mo_does__15af S T1) (v2 : Int), (-2147483648 ≤ v2 ∧ v2 ≤ 2147483647) → ((1 : Int) = 0) → Pl n300 lay0 (d + 7) m_mo_does 300 [(0, .ref 904), (2, iv v2)] [] T1 (Q_mo_does__15af S first) := by
    intro n300
    induction n300 with
    | zero => intros; exact Pl_0
    | succ n300 ih300 =>
      intro hm300 T1 hHT1 hFT1 v2 w17 w18
      have w19 : Xi T1 904 110 = Xi S 904 110 := hFT1.x _ _ rfl
      have w20 : Xi T1 904 112 = Xi S 904 112 := hFT1.x _ _ rfl
      have w21 : Xi T1 904 117 = Xi S 904 117 := hFT1.x _ _ rfl
      have w22 : Xi T1 904 142 = Xi S 904 142 := hFT1.x _ _ rfl
      have w23 : Xi T1 904 15 = Xi S 904 15 := hFT1.x _ _ rfl
      have w24 : Xi T1 904 16 = Xi S 904 16 := hFT1.x _ _ rfl
      have w25 : Xi T1 904 18 = Xi S 904 18 := hFT1.x _ _ rfl
      have w26 : Xi T1 904 19 = Xi S 904 19 := hFT1.x _ _ rfl
      have w27 : Xi T1 904 23 = Xi S 904 23 := hFT1.x _ _ rfl
      have w28 : Xi T1 904 30 = Xi S 904 30 := hFT1.x _ _ rfl
      have w29 : Xi T1 904 32 = Xi S 904 32 := hFT1.x _ _ rfl
      have w30 : Xi T1 904 49 = Xi S 904 49 := hFT1.x _ _ rfl
      have w31 : Xi T1 904 55 = Xi S 904 55 := hFT1.x _ _ rfl
      have w32 : Xi T1 904 60 = Xi S 904 60 := hFT1.x _ _ rfl
      have w33 : Xi T1 904 69 = Xi S 904 69 := hFT1.x _ _ rfl
      have w34 : Xi T1 904 70 = Xi S 904 70 := hFT1.x _ _ rfl
      have w35 : Xi T1 904 71 = Xi S 904 71 := hFT1.x _ _ rfl
      have w36 : Xi T1 904 72 = Xi S 904 72 := hFT1.x _ _ rfl
      have w37 : Xi T1 904 73 = Xi S 904 73 := hFT1.x _ _ rfl
      have w38 : Xi T1 904 74 = Xi S 904 74 := hFT1.x _ _ rfl
      have w39 : Xi T1 904 78 = Xi S 904 78 := hFT1.x _ _ rfl
      have w40 : Xi T1 904 94 = Xi S 904 94 := hFT1.x _ _ rfl
      have w41 : Xi T1 951 1 = Xi S 951 1 := hFT1.x _ _ rfl
      have w42 : Xi T1 951 2 = Xi S 951 2 := hFT1.x _ _ rfl
      have w43 : Xi T1 967 0 = Xi S 967 0 := hFT1.x _ _ rfl
      have w44 : -2147483648 ≤ Xi T1 904 106 ∧ Xi T1 904 106 ≤ 2147483647 := Xi_rgI
      have w45 : -2147483648 ≤ Xi T1 904 110 ∧ Xi T1 904 110 ≤ 2147483647 := Xi_rgI
      have w46 : -2147483648 ≤ Xi T1 904 112 ∧ Xi T1 904 112 ≤ 2147483647 := Xi_rgI
      have w47 : -2147483648 ≤ Xi T1 904 142 ∧ Xi T1 904 142 ≤ 2147483647 := Xi_rgI
      have w48 : -2147483648 ≤ Xi T1 904 15 ∧ Xi T1 904 15 ≤ 2147483647 := Xi_rgI
      have w49 : -2147483648 ≤ Xi T1 904 19 ∧ Xi T1 904 19 ≤ 2147483647 := Xi_rgI
      have w50 : -2147483648 ≤ Xi T1 904 30 ∧ Xi T1 904 30 ≤ 2147483647 := Xi_rgI
      have w51 : -2147483648 ≤ Xi T1 904 32 ∧ Xi T1 904 32 ≤ 2147483647 := Xi_rgI
      have w52 : -2147483648 ≤ Xi T1 904 69 ∧ Xi T1 904 69 ≤ 2147483647 := Xi_rgI
      have w53 : -2147483648 ≤ Xi T1 904 70 ∧ Xi T1 904 70 ≤ 2147483647 := Xi_rgI
      have w54 : -2147483648 ≤ Xi T1 904 71 ∧ Xi T1 904 71 ≤ 2147483647 := Xi_rgI
      have w55 : -2147483648 ≤ Xi T1 904 72 ∧ Xi T1 904 72 ≤ 2147483647 := Xi_rgI
      have w56 : -2147483648 ≤ Xi T1 904 74 ∧ Xi T1 904 74 ≤ 2147483647 := Xi_rgI
      have w57 : -2147483648 ≤ Xi T1 904 75 ∧ Xi T1 904 75 ≤ 2147483647 := Xi_rgI
      have w58 : -2147483648 ≤ Xi T1 904 78 ∧ Xi T1 904 78 ≤ 2147483647 := Xi_rgI
      exfalso; omega
  refine y_aload_n rfl rfl ?_
  refine y_gfi rfl rfl rfl rfl rfl ?_
  refine y_tsw rfl rfl rfl rfl (by unfold rg; omega) (fun w59 => ?_) (fun ii tt hii w59 => ?_)
  · refine y_return rfl rfl ?_
    exact ⟨hH, hF, rfl⟩
  · match ii, hii with
    | 0, hii =>
      cases hii
      have w60 : (Xi S 904 70) = 0 := by simpa using w59
      exfalso; omega
    | 1, hii =>
      cases hii
      have w61 : (Xi S 904 70) = 1 := by simpa using w59
      exfalso; omega
    | 2, hii =>
      cases hii
      have w62 : (Xi S 904 70) = 2 := by simpa using w59
      exfalso; omega
    | 3, hii =>
      cases hii
      have w63 : (Xi S 904 70) = 3 := by simpa using w59
      refine y_return rfl rfl ?_
      exact ⟨hH, hF, rfl⟩
    | 4, hii =>
      cases hii
      have w64 : (Xi S 904 70) = 4 := by simpa using w59
      refine y_return rfl rfl ?_
      exact ⟨hH, hF, rfl⟩
    | 5, hii =>
      cases hii
      have w65 : (Xi S 904 70) = 5 := by simpa using w59
      refine y_return rfl rfl ?_
      exact ⟨hH, hF, rfl⟩
    | 6, hii =>
      cases hii
      have w66 : (Xi S 904 70) = 6 := by simpa using w59
      refine y_return rfl rfl ?_
      exact ⟨hH, hF, rfl⟩
    | 7, hii =>
      cases hii
      have w67 : (Xi S 904 70) = 7 := by simpa using w59
      exfalso; omega
    | 8, hii =>
      cases hii
      have w68 : (Xi S 904 70) = 8 := by simpa using w59
      exfalso; omega
    | 9, hii =>
      cases hii
      have w69 : (Xi S 904 70) = 9 := by simpa using w59
      exfalso; omega
    | 10, hii =>
      cases hii
      have w70 : (Xi S 904 70) = 10 := by simpa using w59
      exfalso; omega
    | 11, hii =>
      cases hii
      have w71 : (Xi S 904 70) = 11 := by simpa using w59
      exfalso; omega
    | 12, hii =>
      cases hii
      have w72 : (Xi S 904 70) = 12 := by simpa using w59
      exfalso; omega
    | 13, hii =>
      cases hii
      have w73 : (Xi S 904 70) = 13 := by simpa using w59
      exfalso; omega
    | 14, hii =>
      cases hii
      have w74 : (Xi S 904 70) = 14 := by simpa using w59
      exfalso; omega
    | 15, hii =>
      cases hii
      have w75 : (Xi S 904 70) = 15 := by simpa using w59
      refine y_aload_n rfl rfl ?_
      refine y_callV rfl rfl rfl (t_mo_doFifteen__1f hH (by first | assumption | exact (LSP_FR hF rfl rfl (by assumption : LSP S))) (by first | assumption | omega) (by first | assumption | exact (RBD_FR hF rfl (by assumption : RBD S))) (by first | assumption | exact (LXR_FR hF rfl rfl (by assumption : LXR S))) (by first | assumption | omega) (by first | assumption | omega) (by first | assumption | omega) (by first | assumption | omega) (by first | assumption | omega) _) ?_
      rintro _ T2 ⟨hHT2, w77, rfl⟩
      have hFT2 : FR md_mo_does__15af S T2 := FR.tr hF w77 rfl
      show Pl _ _ _ _ _ _ [] _ _
      have K369 : True := trivial
      refine y_goto rfl rfl ?_
      refine y_return rfl rfl ?_
      exact ⟨hHT2, hFT2, rfl⟩
    | 16, hii =>
      cases hii
      have w89 : (Xi S 904 70) = 16 := by simpa using w59
      refine y_aload_n rfl rfl ?_
      refine y_callV rfl rfl rfl (t_mo_doFifteen__1f hH (by first | assumption | exact (LSP_FR hF rfl rfl (by assumption : LSP S))) (by first | assumption | omega) (by first | assumption | exact (RBD_FR hF rfl (by assumption : RBD S))) (by first | assumption | exact (LXR_FR hF rfl rfl (by assumption : LXR S))) (by first | assumption | omega) (by first | assumption | omega) (by first | assumption | omega) (by first | assumption | omega) (by first | assumption | omega) _) ?_
      rintro _ T3 ⟨hHT3, w91, rfl⟩
      have hFT3 : FR md_mo_does__15af S T3 := FR.tr hF w91 rfl
      show Pl _ _ _ _ _ _ [] _ _
      have K369 : True := trivial
      refine y_goto rfl rfl ?_
      refine y_return rfl rfl ?_
      exact ⟨hHT3, hFT3, rfl⟩
    | 17, hii =>
      cases hii
      have w103 : (Xi S 904 70) = 17 := by simpa using w59
      exfalso; omega
    | 18, hii =>
      cases hii
      have w104 : (Xi S 904 70) = 18 := by simpa using w59
      exfalso; omega
    | 19, hii =>
      cases hii
      have w105 : (Xi S 904 70) = 19 := by simpa using w59
      exfalso; omega
    | 20, hii =>
      cases hii
      have w106 : (Xi S 904 70) = 20 := by simpa using w59
      exfalso; omega
    | n + 21, hii => exact absurd hii (by simp)
def md_mo_does__15bf : List rec := [(904, 905, 15, 16), (904, 905, 30, 31), (912, 913, 0, 100000), (913, 914, 0, 100000), (914, 915, 0, 100000), (915, 916, 0, 100000), (916, 917, 0, 100000), (927, 928, 0, 100000)]
abbrev Q_mo_does__15bf (S : sS) (first : Int) : pst := fun r S1 => RI S1 ∧ FR md_mo_does__15bf S S1 ∧ (r = none)
set_option maxRecDepth 100000 in
theorem t_mo_does__15bf {S : sS} (hH : RI S) (first : Int) (hfirst : 0 ≤ first ∧ first ≤ 5001) (hLS : LSP S) (h15 : 0 ≤ Xi S 904 15) (hRB : RBD S) (hLX : LXR S) (hh : Xi S 904 142 = 2) (hw : 0 ≤ Xi S 904 78 ∧ Xi S 904 78 ≤ Xi S 904 69 ∧ Xi S 904 69 ≤ 2600) (hv : 0 ≤ Xi S 904 30 ∧ Xi S 904 30 + (Xi S 904 69 - Xi S 904 78) ≤ 64) (hs : 15 ≤ Xi S 904 70 ∧ Xi S 904 70 ≤ 16) (d : Nat) : Mp lay0 (d + 8) m_mo_does [.ref 904, iv first] S (Q_mo_does__15bf S first) := by
  refine Mp_R rfl rfl (fun fu => ?_)
  have hF : FR md_mo_does__15bf S S := FR.rf
  have w1 : -2147483648 ≤ Xi S 904 106 ∧ Xi S 904 106 ≤ 2147483647 := Xi_rgI
  have w2 : -2147483648 ≤ Xi S 904 110 ∧ Xi S 904 110 ≤ 2147483647 := Xi_rgI
  have w3 : -2147483648 ≤ Xi S 904 112 ∧ Xi S 904 112 ≤ 2147483647 := Xi_rgI
  have w4 : -2147483648 ≤ Xi S 904 142 ∧ Xi S 904 142 ≤ 2147483647 := Xi_rgI
  have w5 : -2147483648 ≤ Xi S 904 15 ∧ Xi S 904 15 ≤ 2147483647 := Xi_rgI
  have w6 : -2147483648 ≤ Xi S 904 19 ∧ Xi S 904 19 ≤ 2147483647 := Xi_rgI
  have w7 : -2147483648 ≤ Xi S 904 30 ∧ Xi S 904 30 ≤ 2147483647 := Xi_rgI
  have w8 : -2147483648 ≤ Xi S 904 32 ∧ Xi S 904 32 ≤ 2147483647 := Xi_rgI
  have w9 : -2147483648 ≤ Xi S 904 69 ∧ Xi S 904 69 ≤ 2147483647 := Xi_rgI
  have w10 : -2147483648 ≤ Xi S 904 70 ∧ Xi S 904 70 ≤ 2147483647 := Xi_rgI
  have w11 : -2147483648 ≤ Xi S 904 71 ∧ Xi S 904 71 ≤ 2147483647 := Xi_rgI
  have w12 : -2147483648 ≤ Xi S 904 72 ∧ Xi S 904 72 ≤ 2147483647 := Xi_rgI
  have w13 : -2147483648 ≤ Xi S 904 74 ∧ Xi S 904 74 ≤ 2147483647 := Xi_rgI
  have w14 : -2147483648 ≤ Xi S 904 75 ∧ Xi S 904 75 ≤ 2147483647 := Xi_rgI
  have w15 : -2147483648 ≤ Xi S 904 78 ∧ Xi S 904 78 ≤ 2147483647 := Xi_rgI
  have C300 : ∀ (n300 : Nat) (_ : n300 ≤ fu) (T1 : sS) (_ : RI T1) (_ : FR md_mo_does__15bf S T1) (v2 : Int), (-2147483648 ≤ v2 ∧ v2 ≤ 2147483647) → ((1 : Int) = 0) → Pl n300 lay0 (d + 7) m_mo_does 300 [(0, .ref 904), (2, iv v2)] [] T1 (Q_mo_does__15bf S first) := by
    intro n300
    induction n300 with
    | zero => intros; exact Pl_0
    | succ n300 ih300 =>
      intro hm300 T1 hHT1 hFT1 v2 w16 w17
      have w18 : Xi T1 904 106 = Xi S 904 106 := hFT1.x _ _ rfl
      have w19 : Xi T1 904 110 = Xi S 904 110 := hFT1.x _ _ rfl
      have w20 : Xi T1 904 112 = Xi S 904 112 := hFT1.x _ _ rfl
      have w21 : Xi T1 904 117 = Xi S 904 117 := hFT1.x _ _ rfl
      have w22 : Xi T1 904 142 = Xi S 904 142 := hFT1.x _ _ rfl
      have w23 : Xi T1 904 16 = Xi S 904 16 := hFT1.x _ _ rfl
      have w24 : Xi T1 904 18 = Xi S 904 18 := hFT1.x _ _ rfl
      have w25 : Xi T1 904 19 = Xi S 904 19 := hFT1.x _ _ rfl
      have w26 : Xi T1 904 23 = Xi S 904 23 := hFT1.x _ _ rfl
      have w27 : Xi T1 904 32 = Xi S 904 32 := hFT1.x _ _ rfl
      have w28 : Xi T1 904 49 = Xi S 904 49 := hFT1.x _ _ rfl
      have w29 : Xi T1 904 55 = Xi S 904 55 := hFT1.x _ _ rfl
      have w30 : Xi T1 904 60 = Xi S 904 60 := hFT1.x _ _ rfl
      have w31 : Xi T1 904 69 = Xi S 904 69 := hFT1.x _ _ rfl
      have w32 : Xi T1 904 70 = Xi S 904 70 := hFT1.x _ _ rfl
      have w33 : Xi T1 904 71 = Xi S 904 71 := hFT1.x _ _ rfl
      have w34 : Xi T1 904 72 = Xi S 904 72 := hFT1.x _ _ rfl
      have w35 : Xi T1 904 73 = Xi S 904 73 := hFT1.x _ _ rfl
      have w36 : Xi T1 904 74 = Xi S 904 74 := hFT1.x _ _ rfl
      have w37 : Xi T1 904 78 = Xi S 904 78 := hFT1.x _ _ rfl
      have w38 : Xi T1 904 94 = Xi S 904 94 := hFT1.x _ _ rfl
      have w39 : Xi T1 951 1 = Xi S 951 1 := hFT1.x _ _ rfl
      have w40 : Xi T1 951 2 = Xi S 951 2 := hFT1.x _ _ rfl
      have w41 : Xi T1 967 0 = Xi S 967 0 := hFT1.x _ _ rfl
      have w42 : -2147483648 ≤ Xi T1 904 106 ∧ Xi T1 904 106 ≤ 2147483647 := Xi_rgI
      have w43 : -2147483648 ≤ Xi T1 904 110 ∧ Xi T1 904 110 ≤ 2147483647 := Xi_rgI
      have w44 : -2147483648 ≤ Xi T1 904 112 ∧ Xi T1 904 112 ≤ 2147483647 := Xi_rgI
      have w45 : -2147483648 ≤ Xi T1 904 142 ∧ Xi T1 904 142 ≤ 2147483647 := Xi_rgI
      have w46 : -2147483648 ≤ Xi T1 904 15 ∧ Xi T1 904 15 ≤ 2147483647 := Xi_rgI
      have w47 : -2147483648 ≤ Xi T1 904 19 ∧ Xi T1 904 19 ≤ 2147483647 := Xi_rgI
      have w48 : -2147483648 ≤ Xi T1 904 30 ∧ Xi T1 904 30 ≤ 2147483647 := Xi_rgI
      have w49 : -2147483648 ≤ Xi T1 904 32 ∧ Xi T1 904 32 ≤ 2147483647 := Xi_rgI
      have w50 : -2147483648 ≤ Xi T1 904 69 ∧ Xi T1 904 69 ≤ 2147483647 := Xi_rgI
      have w51 : -2147483648 ≤ Xi T1 904 70 ∧ Xi T1 904 70 ≤ 2147483647 := Xi_rgI
      have w52 : -2147483648 ≤ Xi T1 904 71 ∧ Xi T1 904 71 ≤ 2147483647 := Xi_rgI
      have w53 : -2147483648 ≤ Xi T1 904 72 ∧ Xi T1 904 72 ≤ 2147483647 := Xi_rgI
      have w54 : -2147483648 ≤ Xi T1 904 74 ∧ Xi T1 904 74 ≤ 2147483647 := Xi_rgI
      have w55 : -2147483648 ≤ Xi T1 904 75 ∧ Xi T1 904 75 ≤ 2147483647 := Xi_rgI
      have w56 : -2147483648 ≤ Xi T1 904 78 ∧ Xi T1 904 78 ≤ 2147483647 := Xi_rgI
      exfalso; omega
  refine y_aload_n rfl rfl ?_
  refine y_gfi rfl rfl rfl rfl rfl ?_
  refine y_tsw rfl rfl rfl rfl (by unfold rg; omega) (fun w57 => ?_) (fun ii tt hii w57 => ?_)
  · refine y_return rfl rfl ?_
    exact ⟨hH, hF, rfl⟩
  · match ii, hii with
    | 0, hii =>
      cases hii
      have w58 : (Xi S 904 70) = 0 := by simpa using w57
      exfalso; omega
    | 1, hii =>
      cases hii
      have w59 : (Xi S 904 70) = 1 := by simpa using w57
      exfalso; omega
    | 2, hii =>
      cases hii
      have w60 : (Xi S 904 70) = 2 := by simpa using w57
      exfalso; omega
    | 3, hii =>
      cases hii
      have w61 : (Xi S 904 70) = 3 := by simpa using w57
      refine y_return rfl rfl ?_
      exact ⟨hH, hF, rfl⟩
    | 4, hii =>
      cases hii
      have w62 : (Xi S 904 70) = 4 := by simpa using w57
      refine y_return rfl rfl ?_
      exact ⟨hH, hF, rfl⟩
    | 5, hii =>
      cases hii
      have w63 : (Xi S 904 70) = 5 := by simpa using w57
      refine y_return rfl rfl ?_
      exact ⟨hH, hF, rfl⟩
    | 6, hii =>
      cases hii
      have w64 : (Xi S 904 70) = 6 := by simpa using w57
      refine y_return rfl rfl ?_
      exact ⟨hH, hF, rfl⟩
    | 7, hii =>
      cases hii
      have w65 : (Xi S 904 70) = 7 := by simpa using w57
      exfalso; omega
    | 8, hii =>
      cases hii
      have w66 : (Xi S 904 70) = 8 := by simpa using w57
      exfalso; omega
    | 9, hii =>
      cases hii
      have w67 : (Xi S 904 70) = 9 := by simpa using w57
      exfalso; omega
    | 10, hii =>
      cases hii
      have w68 : (Xi S 904 70) = 10 := by simpa using w57
      exfalso; omega
    | 11, hii =>
      cases hii
      have w69 : (Xi S 904 70) = 11 := by simpa using w57
      exfalso; omega
    | 12, hii =>
      cases hii
      have w70 : (Xi S 904 70) = 12 := by simpa using w57
      exfalso; omega
    | 13, hii =>
      cases hii
      have w71 : (Xi S 904 70) = 13 := by simpa using w57
      exfalso; omega
    | 14, hii =>
      cases hii
      have w72 : (Xi S 904 70) = 14 := by simpa using w57
      exfalso; omega
    | 15, hii =>
      cases hii
      have w73 : (Xi S 904 70) = 15 := by simpa using w57
      refine y_aload_n rfl rfl ?_
      refine y_callV rfl rfl rfl (t_mo_doFifteen__2f hH (by first | assumption | exact (by assumption : LSP S)) (by first | assumption | omega) (by first | assumption | exact (RBD_FR hF rfl (by assumption : RBD S))) (by first | assumption | exact (by assumption : LXR S)) (by first | assumption | omega) (by first | assumption | omega) (by first | assumption | omega) _) ?_
      rintro _ T2 ⟨hHT2, w75, rfl⟩
      have hFT2 : FR md_mo_does__15bf S T2 := FR.tr hF w75 rfl
      show Pl _ _ _ _ _ _ [] _ _
      have K369 : True := trivial
      refine y_goto rfl rfl ?_
      refine y_return rfl rfl ?_
      exact ⟨hHT2, hFT2, rfl⟩
    | 16, hii =>
      cases hii
      have w87 : (Xi S 904 70) = 16 := by simpa using w57
      refine y_aload_n rfl rfl ?_
      refine y_callV rfl rfl rfl (t_mo_doFifteen__2f hH (by first | assumption | exact (by assumption : LSP S)) (by first | assumption | omega) (by first | assumption | exact (RBD_FR hF rfl (by assumption : RBD S))) (by first | assumption | exact (by assumption : LXR S)) (by first | assumption | omega) (by first | assumption | omega) (by first | assumption | omega) _) ?_
      rintro _ T3 ⟨hHT3, w89, rfl⟩
      have hFT3 : FR md_mo_does__15bf S T3 := FR.tr hF w89 rfl
      show Pl _ _ _ _ _ _ [] _ _
      have K369 : True := trivial
      refine y_goto rfl rfl ?_
      refine y_return rfl rfl ?_
      exact ⟨hHT3, hFT3, rfl⟩
    | 17, hii =>
      cases hii
      have w101 : (Xi S 904 70) = 17 := by simpa using w57
      exfalso; omega
    | 18, hii =>
      cases hii
      have w102 : (Xi S 904 70) = 18 := by simpa using w57
      exfalso; omega
    | 19, hii =>
      cases hii
      have w103 : (Xi S 904 70) = 19 := by simpa using w57
      exfalso; omega
    | 20, hii =>
      cases hii
      have w104 : (Xi S 904 70) = 20 := by simpa using w57
      exfalso; omega
    | n + 21, hii => exact absurd hii (by simp)
def md_mo_does__15cf : List rec := [(904, 905, 15, 16), (904, 905, 19, 20), (904, 905, 60, 61), (904, 905, 73, 74), (904, 905, 105, 106), (904, 905, 106, 107), (912, 913, 0, 100000), (913, 914, 0, 100000), (914, 915, 0, 100000), (915, 916, 0, 100000), (916, 917, 0, 100000), (918, 919, 0, 100000), (919, 920, 0, 100000), (920, 921, 0, 100000), (925, 926, 0, 100000), (926, 927, 0, 100000), (930, 931, 0, 100000), (931, 932, 0, 100000), (932, 933, 0, 100000)]
abbrev Q_mo_does__15cf (S : sS) (first : Int) : pst := fun r S1 => RI S1 ∧ FR md_mo_does__15cf S S1 ∧ (r = none)
set_option maxRecDepth 100000 in
theorem t_mo_does__15cf {S : sS} (hH : RI S) (first : Int) (hfirst : 0 ≤ first ∧ first ≤ 5001) (hLS : LSP S) (h15 : 0 ≤ Xi S 904 15) (hRB : RBD S) (hLX : LXR S) (hB : ABV S) (hl : 0 ≤ Xi S 904 71 ∧ Xi S 904 71 ≤ 2600 ∧ 0 ≤ Xi S 904 72 ∧ Xi S 904 72 ≤ 2600) (hkb : Hid (KB3 S)) (ho4 : Hid (OB4 S)) (hct : Hid (∀ j : Nat, -1 ≤ Xi S 922 j ∧ Xi S 922 j ≤ 23)) (hz0 : Xi S 904 106 = 0) (ha : 0 ≤ Xi S 904 19 ∧ Xi S 904 19 ≤ 24) (hr74 : -1 ≤ Xi S 904 74 ∧ Xi S 904 74 ≤ 2600) (hlq : Hid (LOQ S (Xi S 904 71) (Xi S 904 72).toNat)) (h110 : -1 ≤ Xi S 904 110 ∧ Xi S 904 110 ≤ 15) (h112 : 0 ≤ Xi S 904 112 ∧ Xi S 904 112 ≤ 6) (hra : Hid (Xi S 904 70 ≠ 13 → ∀ i : Nat, (i : Int) < Xi S 904 112 → 0 ≤ Xi S 967 i ∧ Xi S 967 i ≤ 7000)) (hh : Xi S 904 142 = 3) (hs : 15 ≤ Xi S 904 70 ∧ Xi S 904 70 ≤ 16) (d : Nat) : Mp lay0 (d + 8) m_mo_does [.ref 904, iv first] S (Q_mo_does__15cf S first) := by
  refine Mp_R rfl rfl (fun fu => ?_)
  have hF : FR md_mo_does__15cf S S := FR.rf
  have w1 : -2147483648 ≤ Xi S 904 106 ∧ Xi S 904 106 ≤ 2147483647 := Xi_rgI
  have w2 : -2147483648 ≤ Xi S 904 110 ∧ Xi S 904 110 ≤ 2147483647 := Xi_rgI
  have w3 : -2147483648 ≤ Xi S 904 112 ∧ Xi S 904 112 ≤ 2147483647 := Xi_rgI
  have w4 : -2147483648 ≤ Xi S 904 142 ∧ Xi S 904 142 ≤ 2147483647 := Xi_rgI
  have w5 : -2147483648 ≤ Xi S 904 15 ∧ Xi S 904 15 ≤ 2147483647 := Xi_rgI
  have w6 : -2147483648 ≤ Xi S 904 19 ∧ Xi S 904 19 ≤ 2147483647 := Xi_rgI
  have w7 : -2147483648 ≤ Xi S 904 30 ∧ Xi S 904 30 ≤ 2147483647 := Xi_rgI
  have w8 : -2147483648 ≤ Xi S 904 32 ∧ Xi S 904 32 ≤ 2147483647 := Xi_rgI
  have w9 : -2147483648 ≤ Xi S 904 69 ∧ Xi S 904 69 ≤ 2147483647 := Xi_rgI
  have w10 : -2147483648 ≤ Xi S 904 70 ∧ Xi S 904 70 ≤ 2147483647 := Xi_rgI
  have w11 : -2147483648 ≤ Xi S 904 71 ∧ Xi S 904 71 ≤ 2147483647 := Xi_rgI
  have w12 : -2147483648 ≤ Xi S 904 72 ∧ Xi S 904 72 ≤ 2147483647 := Xi_rgI
  have w13 : -2147483648 ≤ Xi S 904 74 ∧ Xi S 904 74 ≤ 2147483647 := Xi_rgI
  have w14 : -2147483648 ≤ Xi S 904 75 ∧ Xi S 904 75 ≤ 2147483647 := Xi_rgI
  have w15 : -2147483648 ≤ Xi S 904 78 ∧ Xi S 904 78 ≤ 2147483647 := Xi_rgI
  have C300 : ∀ (n300 : Nat) (_ : n300 ≤ fu) (T1 : sS) (_ : RI T1) (_ : FR md_mo_does__15cf S T1) (v2 : Int), (-2147483648 ≤ v2 ∧ v2 ≤ 2147483647) → ((1 : Int) = 0) → Pl n300 lay0 (d + 7) m_mo_does 300 [(0, .ref 904), (2, iv v2)] [] T1 (Q_mo_does__15cf S first) := by
    intro n300
    induction n300 with
    | zero => intros; exact Pl_0
    | succ n300 ih300 =>
      intro hm300 T1 hHT1 hFT1 v2 w16 w17
      have w18 : Xi T1 904 110 = Xi S 904 110 := hFT1.x _ _ rfl
      have w19 : Xi T1 904 112 = Xi S 904 112 := hFT1.x _ _ rfl
      have w20 : Xi T1 904 117 = Xi S 904 117 := hFT1.x _ _ rfl
      have w21 : Xi T1 904 142 = Xi S 904 142 := hFT1.x _ _ rfl
      have w22 : Xi T1 904 16 = Xi S 904 16 := hFT1.x _ _ rfl
      have w23 : Xi T1 904 18 = Xi S 904 18 := hFT1.x _ _ rfl
      have w24 : Xi T1 904 23 = Xi S 904 23 := hFT1.x _ _ rfl
      have w25 : Xi T1 904 30 = Xi S 904 30 := hFT1.x _ _ rfl
      have w26 : Xi T1 904 32 = Xi S 904 32 := hFT1.x _ _ rfl
      have w27 : Xi T1 904 49 = Xi S 904 49 := hFT1.x _ _ rfl
      have w28 : Xi T1 904 55 = Xi S 904 55 := hFT1.x _ _ rfl
      have w29 : Xi T1 904 69 = Xi S 904 69 := hFT1.x _ _ rfl
      have w30 : Xi T1 904 70 = Xi S 904 70 := hFT1.x _ _ rfl
      have w31 : Xi T1 904 71 = Xi S 904 71 := hFT1.x _ _ rfl
      have w32 : Xi T1 904 72 = Xi S 904 72 := hFT1.x _ _ rfl
      have w33 : Xi T1 904 74 = Xi S 904 74 := hFT1.x _ _ rfl
      have w34 : Xi T1 904 78 = Xi S 904 78 := hFT1.x _ _ rfl
      have w35 : Xi T1 904 94 = Xi S 904 94 := hFT1.x _ _ rfl
      have w36 : Xi T1 951 1 = Xi S 951 1 := hFT1.x _ _ rfl
      have w37 : Xi T1 951 2 = Xi S 951 2 := hFT1.x _ _ rfl
      have w38 : Xi T1 967 0 = Xi S 967 0 := hFT1.x _ _ rfl
      have w39 : -2147483648 ≤ Xi T1 904 106 ∧ Xi T1 904 106 ≤ 2147483647 := Xi_rgI
      have w40 : -2147483648 ≤ Xi T1 904 110 ∧ Xi T1 904 110 ≤ 2147483647 := Xi_rgI
      have w41 : -2147483648 ≤ Xi T1 904 112 ∧ Xi T1 904 112 ≤ 2147483647 := Xi_rgI
      have w42 : -2147483648 ≤ Xi T1 904 142 ∧ Xi T1 904 142 ≤ 2147483647 := Xi_rgI
      have w43 : -2147483648 ≤ Xi T1 904 15 ∧ Xi T1 904 15 ≤ 2147483647 := Xi_rgI
      have w44 : -2147483648 ≤ Xi T1 904 19 ∧ Xi T1 904 19 ≤ 2147483647 := Xi_rgI
      have w45 : -2147483648 ≤ Xi T1 904 30 ∧ Xi T1 904 30 ≤ 2147483647 := Xi_rgI
      have w46 : -2147483648 ≤ Xi T1 904 32 ∧ Xi T1 904 32 ≤ 2147483647 := Xi_rgI
      have w47 : -2147483648 ≤ Xi T1 904 69 ∧ Xi T1 904 69 ≤ 2147483647 := Xi_rgI
      have w48 : -2147483648 ≤ Xi T1 904 70 ∧ Xi T1 904 70 ≤ 2147483647 := Xi_rgI
      have w49 : -2147483648 ≤ Xi T1 904 71 ∧ Xi T1 904 71 ≤ 2147483647 := Xi_rgI
      have w50 : -2147483648 ≤ Xi T1 904 72 ∧ Xi T1 904 72 ≤ 2147483647 := Xi_rgI
      have w51 : -2147483648 ≤ Xi T1 904 74 ∧ Xi T1 904 74 ≤ 2147483647 := Xi_rgI
      have w52 : -2147483648 ≤ Xi T1 904 75 ∧ Xi T1 904 75 ≤ 2147483647 := Xi_rgI
      have w53 : -2147483648 ≤ Xi T1 904 78 ∧ Xi T1 904 78 ≤ 2147483647 := Xi_rgI
      exfalso; omega
  refine y_aload_n rfl rfl ?_
  refine y_gfi rfl rfl rfl rfl rfl ?_
  refine y_tsw rfl rfl rfl rfl (by unfold rg; omega) (fun w54 => ?_) (fun ii tt hii w54 => ?_)
  · refine y_return rfl rfl ?_
    exact ⟨hH, hF, rfl⟩
  · match ii, hii with
    | 0, hii =>
      cases hii
      have w55 : (Xi S 904 70) = 0 := by simpa using w54
      exfalso; omega
    | 1, hii =>
      cases hii
      have w56 : (Xi S 904 70) = 1 := by simpa using w54
      exfalso; omega
    | 2, hii =>
      cases hii
      have w57 : (Xi S 904 70) = 2 := by simpa using w54
      exfalso; omega
    | 3, hii =>
      cases hii
      have w58 : (Xi S 904 70) = 3 := by simpa using w54
      refine y_return rfl rfl ?_
      exact ⟨hH, hF, rfl⟩
    | 4, hii =>
      cases hii
      have w59 : (Xi S 904 70) = 4 := by simpa using w54
      refine y_return rfl rfl ?_
      exact ⟨hH, hF, rfl⟩
    | 5, hii =>
      cases hii
      have w60 : (Xi S 904 70) = 5 := by simpa using w54
      refine y_return rfl rfl ?_
      exact ⟨hH, hF, rfl⟩
    | 6, hii =>
      cases hii
      have w61 : (Xi S 904 70) = 6 := by simpa using w54
      refine y_return rfl rfl ?_
      exact ⟨hH, hF, rfl⟩
    | 7, hii =>
      cases hii
      have w62 : (Xi S 904 70) = 7 := by simpa using w54
      exfalso; omega
    | 8, hii =>
      cases hii
      have w63 : (Xi S 904 70) = 8 := by simpa using w54
      exfalso; omega
    | 9, hii =>
      cases hii
      have w64 : (Xi S 904 70) = 9 := by simpa using w54
      exfalso; omega
    | 10, hii =>
      cases hii
      have w65 : (Xi S 904 70) = 10 := by simpa using w54
      exfalso; omega
    | 11, hii =>
      cases hii
      have w66 : (Xi S 904 70) = 11 := by simpa using w54
      exfalso; omega
    | 12, hii =>
      cases hii
      have w67 : (Xi S 904 70) = 12 := by simpa using w54
      exfalso; omega
    | 13, hii =>
      cases hii
      have w68 : (Xi S 904 70) = 13 := by simpa using w54
      exfalso; omega
    | 14, hii =>
      cases hii
      have w69 : (Xi S 904 70) = 14 := by simpa using w54
      exfalso; omega
    | 15, hii =>
      cases hii
      have w70 : (Xi S 904 70) = 15 := by simpa using w54
      refine y_aload_n rfl rfl ?_
      refine y_callV rfl rfl rfl (t_mo_doFifteen__3f hH (by first | assumption | exact (by assumption : LSP S)) (by first | assumption | omega) (by first | assumption | exact (RBD_FR hF rfl (by assumption : RBD S))) (by first | assumption | exact (by assumption : LXR S)) (by first | assumption | exact (ABV_FR hF rfl (by assumption : ABV S))) (by first | assumption | omega) (by first | assumption | omega) (by first | assumption | omega) (by first | assumption | omega) (by first | assumption | omega) (by first | assumption | omega) (by first | assumption | omega) (by first | assumption | omega) (by first | assumption | omega) (by first | assumption | omega) (by first | assumption | omega) (by first | assumption | omega) _) ?_
      rintro _ T2 ⟨hHT2, w72, rfl⟩
      have hFT2 : FR md_mo_does__15cf S T2 := FR.tr hF w72 rfl
      show Pl _ _ _ _ _ _ [] _ _
      have K369 : True := trivial
      refine y_goto rfl rfl ?_
      refine y_return rfl rfl ?_
      exact ⟨hHT2, hFT2, rfl⟩
    | 16, hii =>
      cases hii
      have w84 : (Xi S 904 70) = 16 := by simpa using w54
      refine y_aload_n rfl rfl ?_
      refine y_callV rfl rfl rfl (t_mo_doFifteen__3f hH (by first | assumption | exact (by assumption : LSP S)) (by first | assumption | omega) (by first | assumption | exact (RBD_FR hF rfl (by assumption : RBD S))) (by first | assumption | exact (by assumption : LXR S)) (by first | assumption | exact (ABV_FR hF rfl (by assumption : ABV S))) (by first | assumption | omega) (by first | assumption | omega) (by first | assumption | omega) (by first | assumption | omega) (by first | assumption | omega) (by first | assumption | omega) (by first | assumption | omega) (by first | assumption | omega) (by first | assumption | omega) (by first | assumption | omega) (by first | assumption | omega) (by first | assumption | omega) _) ?_
      rintro _ T3 ⟨hHT3, w86, rfl⟩
      have hFT3 : FR md_mo_does__15cf S T3 := FR.tr hF w86 rfl
      show Pl _ _ _ _ _ _ [] _ _
      have K369 : True := trivial
      refine y_goto rfl rfl ?_
      refine y_return rfl rfl ?_
      exact ⟨hHT3, hFT3, rfl⟩
    | 17, hii =>
      cases hii
      have w98 : (Xi S 904 70) = 17 := by simpa using w54
      exfalso; omega
    | 18, hii =>
      cases hii
      have w99 : (Xi S 904 70) = 18 := by simpa using w54
      exfalso; omega
    | 19, hii =>
      cases hii
      have w100 : (Xi S 904 70) = 19 := by simpa using w54
      exfalso; omega
    | 20, hii =>
      cases hii
      have w101 : (Xi S 904 70) = 20 := by simpa using w54
      exfalso; omega
    | n + 21, hii => exact absurd hii (by simp)
def md_mo_does__15df : List rec := [(904, 905, 60, 61), (904, 905, 64, 65), (904, 905, 105, 106), (904, 905, 106, 107), (904, 905, 113, 114), (925, 926, 0, 100000), (926, 927, 0, 100000), (930, 931, 0, 100000), (931, 932, 0, 100000), (932, 933, 0, 100000)]
abbrev Q_mo_does__15df (S : sS) (first : Int) : pst := fun r S1 => RI S1 ∧ FR md_mo_does__15df S S1 ∧ (r = none)
set_option maxRecDepth 100000 in
theorem t_mo_does__15df {S : sS} (hH : RI S) (first : Int) (hfirst : 0 ≤ first ∧ first ≤ 5001) (hLS : LSP S) (h15 : 0 ≤ Xi S 904 15) (hRB : RBD S) (hLX : LXR S) (hB : ABV S) (hl : 0 ≤ Xi S 904 71 ∧ Xi S 904 71 ≤ 2600 ∧ 0 ≤ Xi S 904 72 ∧ Xi S 904 72 ≤ 2600) (hkb : Hid (KB3 S)) (hct : Hid (∀ j : Nat, -1 ≤ Xi S 922 j ∧ Xi S 922 j ≤ 23)) (hp32 : 0 ≤ Xi S 904 32 ∧ Xi S 904 32 ≤ 12) (hh : Xi S 904 142 = 4) (hz0 : Xi S 904 106 = 0) (hfw : 0 ≤ Xi S 950 (Xi S 904 78).toNat ∧ Xi S 950 (Xi S 904 78).toNat ≤ 5100) (hac : Hid (∀ i : Nat, (i : Int) < Xi S 904 72 → (0 ≤ o15R S i ∧ o15R S i ≤ 23) ∧ 0 ≤ a15R S (o15R S i) ∧ a15R S (o15R S i) ≤ 7000)) (hs : 15 ≤ Xi S 904 70 ∧ Xi S 904 70 ≤ 16) (d : Nat) : Mp lay0 (d + 8) m_mo_does [.ref 904, iv first] S (Q_mo_does__15df S first) := by
  refine Mp_R rfl rfl (fun fu => ?_)
  have hF : FR md_mo_does__15df S S := FR.rf
  have w1 : -2147483648 ≤ Xi S 904 106 ∧ Xi S 904 106 ≤ 2147483647 := Xi_rgI
  have w2 : -2147483648 ≤ Xi S 904 110 ∧ Xi S 904 110 ≤ 2147483647 := Xi_rgI
  have w3 : -2147483648 ≤ Xi S 904 112 ∧ Xi S 904 112 ≤ 2147483647 := Xi_rgI
  have w4 : -2147483648 ≤ Xi S 904 142 ∧ Xi S 904 142 ≤ 2147483647 := Xi_rgI
  have w5 : -2147483648 ≤ Xi S 904 15 ∧ Xi S 904 15 ≤ 2147483647 := Xi_rgI
  have w6 : -2147483648 ≤ Xi S 904 19 ∧ Xi S 904 19 ≤ 2147483647 := Xi_rgI
  have w7 : -2147483648 ≤ Xi S 904 30 ∧ Xi S 904 30 ≤ 2147483647 := Xi_rgI
  have w8 : -2147483648 ≤ Xi S 904 32 ∧ Xi S 904 32 ≤ 2147483647 := Xi_rgI
  have w9 : -2147483648 ≤ Xi S 904 69 ∧ Xi S 904 69 ≤ 2147483647 := Xi_rgI
  have w10 : -2147483648 ≤ Xi S 904 70 ∧ Xi S 904 70 ≤ 2147483647 := Xi_rgI
  have w11 : -2147483648 ≤ Xi S 904 71 ∧ Xi S 904 71 ≤ 2147483647 := Xi_rgI
  have w12 : -2147483648 ≤ Xi S 904 72 ∧ Xi S 904 72 ≤ 2147483647 := Xi_rgI
  have w13 : -2147483648 ≤ Xi S 904 74 ∧ Xi S 904 74 ≤ 2147483647 := Xi_rgI
  have w14 : -2147483648 ≤ Xi S 904 75 ∧ Xi S 904 75 ≤ 2147483647 := Xi_rgI
  have w15 : -2147483648 ≤ Xi S 904 78 ∧ Xi S 904 78 ≤ 2147483647 := Xi_rgI
  have C300 : ∀ (n300 : Nat) (_ : n300 ≤ fu) (T1 : sS) (_ : RI T1) (_ : FR md_mo_does__15df S T1) (v2 : Int), (-2147483648 ≤ v2 ∧ v2 ≤ 2147483647) → ((1 : Int) = 0) → Pl n300 lay0 (d + 7) m_mo_does 300 [(0, .ref 904), (2, iv v2)] [] T1 (Q_mo_does__15df S first) := by
    intro n300
    induction n300 with
    | zero => intros; exact Pl_0
    | succ n300 ih300 =>
      intro hm300 T1 hHT1 hFT1 v2 w16 w17
      have w18 : Xi T1 904 110 = Xi S 904 110 := hFT1.x _ _ rfl
      have w19 : Xi T1 904 112 = Xi S 904 112 := hFT1.x _ _ rfl
      have w20 : Xi T1 904 117 = Xi S 904 117 := hFT1.x _ _ rfl
      have w21 : Xi T1 904 142 = Xi S 904 142 := hFT1.x _ _ rfl
      have w22 : Xi T1 904 15 = Xi S 904 15 := hFT1.x _ _ rfl
      have w23 : Xi T1 904 16 = Xi S 904 16 := hFT1.x _ _ rfl
      have w24 : Xi T1 904 18 = Xi S 904 18 := hFT1.x _ _ rfl
      have w25 : Xi T1 904 19 = Xi S 904 19 := hFT1.x _ _ rfl
      have w26 : Xi T1 904 23 = Xi S 904 23 := hFT1.x _ _ rfl
      have w27 : Xi T1 904 30 = Xi S 904 30 := hFT1.x _ _ rfl
      have w28 : Xi T1 904 32 = Xi S 904 32 := hFT1.x _ _ rfl
      have w29 : Xi T1 904 49 = Xi S 904 49 := hFT1.x _ _ rfl
      have w30 : Xi T1 904 55 = Xi S 904 55 := hFT1.x _ _ rfl
      have w31 : Xi T1 904 69 = Xi S 904 69 := hFT1.x _ _ rfl
      have w32 : Xi T1 904 70 = Xi S 904 70 := hFT1.x _ _ rfl
      have w33 : Xi T1 904 71 = Xi S 904 71 := hFT1.x _ _ rfl
      have w34 : Xi T1 904 72 = Xi S 904 72 := hFT1.x _ _ rfl
      have w35 : Xi T1 904 73 = Xi S 904 73 := hFT1.x _ _ rfl
      have w36 : Xi T1 904 74 = Xi S 904 74 := hFT1.x _ _ rfl
      have w37 : Xi T1 904 78 = Xi S 904 78 := hFT1.x _ _ rfl
      have w38 : Xi T1 904 94 = Xi S 904 94 := hFT1.x _ _ rfl
      have w39 : Xi T1 951 1 = Xi S 951 1 := hFT1.x _ _ rfl
      have w40 : Xi T1 951 2 = Xi S 951 2 := hFT1.x _ _ rfl
      have w41 : Xi T1 967 0 = Xi S 967 0 := hFT1.x _ _ rfl
      have w42 : -2147483648 ≤ Xi T1 904 106 ∧ Xi T1 904 106 ≤ 2147483647 := Xi_rgI
      have w43 : -2147483648 ≤ Xi T1 904 110 ∧ Xi T1 904 110 ≤ 2147483647 := Xi_rgI
      have w44 : -2147483648 ≤ Xi T1 904 112 ∧ Xi T1 904 112 ≤ 2147483647 := Xi_rgI
      have w45 : -2147483648 ≤ Xi T1 904 142 ∧ Xi T1 904 142 ≤ 2147483647 := Xi_rgI
      have w46 : -2147483648 ≤ Xi T1 904 15 ∧ Xi T1 904 15 ≤ 2147483647 := Xi_rgI
      have w47 : -2147483648 ≤ Xi T1 904 19 ∧ Xi T1 904 19 ≤ 2147483647 := Xi_rgI
      have w48 : -2147483648 ≤ Xi T1 904 30 ∧ Xi T1 904 30 ≤ 2147483647 := Xi_rgI
      have w49 : -2147483648 ≤ Xi T1 904 32 ∧ Xi T1 904 32 ≤ 2147483647 := Xi_rgI
      have w50 : -2147483648 ≤ Xi T1 904 69 ∧ Xi T1 904 69 ≤ 2147483647 := Xi_rgI
      have w51 : -2147483648 ≤ Xi T1 904 70 ∧ Xi T1 904 70 ≤ 2147483647 := Xi_rgI
      have w52 : -2147483648 ≤ Xi T1 904 71 ∧ Xi T1 904 71 ≤ 2147483647 := Xi_rgI
      have w53 : -2147483648 ≤ Xi T1 904 72 ∧ Xi T1 904 72 ≤ 2147483647 := Xi_rgI
      have w54 : -2147483648 ≤ Xi T1 904 74 ∧ Xi T1 904 74 ≤ 2147483647 := Xi_rgI
      have w55 : -2147483648 ≤ Xi T1 904 75 ∧ Xi T1 904 75 ≤ 2147483647 := Xi_rgI
      have w56 : -2147483648 ≤ Xi T1 904 78 ∧ Xi T1 904 78 ≤ 2147483647 := Xi_rgI
      exfalso; omega
  refine y_aload_n rfl rfl ?_
  refine y_gfi rfl rfl rfl rfl rfl ?_
  refine y_tsw rfl rfl rfl rfl (by unfold rg; omega) (fun w57 => ?_) (fun ii tt hii w57 => ?_)
  · refine y_return rfl rfl ?_
    exact ⟨hH, hF, rfl⟩
  · match ii, hii with
    | 0, hii =>
      cases hii
      have w58 : (Xi S 904 70) = 0 := by simpa using w57
      exfalso; omega
    | 1, hii =>
      cases hii
      have w59 : (Xi S 904 70) = 1 := by simpa using w57
      exfalso; omega
    | 2, hii =>
      cases hii
      have w60 : (Xi S 904 70) = 2 := by simpa using w57
      exfalso; omega
    | 3, hii =>
      cases hii
      have w61 : (Xi S 904 70) = 3 := by simpa using w57
      refine y_return rfl rfl ?_
      exact ⟨hH, hF, rfl⟩
    | 4, hii =>
      cases hii
      have w62 : (Xi S 904 70) = 4 := by simpa using w57
      refine y_return rfl rfl ?_
      exact ⟨hH, hF, rfl⟩
    | 5, hii =>
      cases hii
      have w63 : (Xi S 904 70) = 5 := by simpa using w57
      refine y_return rfl rfl ?_
      exact ⟨hH, hF, rfl⟩
    | 6, hii =>
      cases hii
      have w64 : (Xi S 904 70) = 6 := by simpa using w57
      refine y_return rfl rfl ?_
      exact ⟨hH, hF, rfl⟩
    | 7, hii =>
      cases hii
      have w65 : (Xi S 904 70) = 7 := by simpa using w57
      exfalso; omega
    | 8, hii =>
      cases hii
      have w66 : (Xi S 904 70) = 8 := by simpa using w57
      exfalso; omega
    | 9, hii =>
      cases hii
      have w67 : (Xi S 904 70) = 9 := by simpa using w57
      exfalso; omega
    | 10, hii =>
      cases hii
      have w68 : (Xi S 904 70) = 10 := by simpa using w57
      exfalso; omega
    | 11, hii =>
      cases hii
      have w69 : (Xi S 904 70) = 11 := by simpa using w57
      exfalso; omega
    | 12, hii =>
      cases hii
      have w70 : (Xi S 904 70) = 12 := by simpa using w57
      exfalso; omega
    | 13, hii =>
      cases hii
      have w71 : (Xi S 904 70) = 13 := by simpa using w57
      exfalso; omega
    | 14, hii =>
      cases hii
      have w72 : (Xi S 904 70) = 14 := by simpa using w57
      exfalso; omega
    | 15, hii =>
      cases hii
      have w73 : (Xi S 904 70) = 15 := by simpa using w57
      refine y_aload_n rfl rfl ?_
      refine y_callV rfl rfl rfl (t_mo_doFifteen__4f hH (by first | assumption | exact (LSP_FR hF rfl rfl (by assumption : LSP S))) (by first | assumption | omega) (by first | assumption | exact (RBD_FR hF rfl (by assumption : RBD S))) (by first | assumption | exact (LXR_FR hF rfl rfl (by assumption : LXR S))) (by first | assumption | exact (ABV_FR hF rfl (by assumption : ABV S))) (by first | assumption | omega) (by first | assumption | omega) (by first | assumption | omega) (by first | assumption | omega) (by first | assumption | omega) (by first | assumption | omega) (by first | assumption | omega) (by first | assumption | omega) _) ?_
      rintro _ T2 ⟨hHT2, w75, rfl⟩
      have hFT2 : FR md_mo_does__15df S T2 := FR.tr hF w75 rfl
      show Pl _ _ _ _ _ _ [] _ _
      have K369 : True := trivial
      refine y_goto rfl rfl ?_
      refine y_return rfl rfl ?_
      exact ⟨hHT2, hFT2, rfl⟩
    | 16, hii =>
      cases hii
      have w87 : (Xi S 904 70) = 16 := by simpa using w57
      refine y_aload_n rfl rfl ?_
      refine y_callV rfl rfl rfl (t_mo_doFifteen__4f hH (by first | assumption | exact (LSP_FR hF rfl rfl (by assumption : LSP S))) (by first | assumption | omega) (by first | assumption | exact (RBD_FR hF rfl (by assumption : RBD S))) (by first | assumption | exact (LXR_FR hF rfl rfl (by assumption : LXR S))) (by first | assumption | exact (ABV_FR hF rfl (by assumption : ABV S))) (by first | assumption | omega) (by first | assumption | omega) (by first | assumption | omega) (by first | assumption | omega) (by first | assumption | omega) (by first | assumption | omega) (by first | assumption | omega) (by first | assumption | omega) _) ?_
      rintro _ T3 ⟨hHT3, w89, rfl⟩
      have hFT3 : FR md_mo_does__15df S T3 := FR.tr hF w89 rfl
      show Pl _ _ _ _ _ _ [] _ _
      have K369 : True := trivial
      refine y_goto rfl rfl ?_
      refine y_return rfl rfl ?_
      exact ⟨hHT3, hFT3, rfl⟩
    | 17, hii =>
      cases hii
      have w101 : (Xi S 904 70) = 17 := by simpa using w57
      exfalso; omega
    | 18, hii =>
      cases hii
      have w102 : (Xi S 904 70) = 18 := by simpa using w57
      exfalso; omega
    | 19, hii =>
      cases hii
      have w103 : (Xi S 904 70) = 19 := by simpa using w57
      exfalso; omega
    | 20, hii =>
      cases hii
      have w104 : (Xi S 904 70) = 20 := by simpa using w57
      exfalso; omega
    | n + 21, hii => exact absurd hii (by simp)
end
