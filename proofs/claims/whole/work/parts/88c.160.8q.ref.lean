section
/-! 15: the reference asks: usually -/
noncomputable def kU5 (S : sS) : Int := rnR S (Xi S 904 71) 0
noncomputable def cU5 (S : sS) : Int := adR S (fW S) (nW S) (kU5 S) 0 1
def RAU (S S1 : sS) : Prop :=
  (kU5 S = -1 → NTB (NT3 S1) 4 (pR S (Xi S 904 71))) ∧
  (kU5 S ≠ -1 → 1 < Xi S 904 72 → NTB (NT3 S1) 4 (pR S (Xi S 904 71 + 1))) ∧
  (kU5 S ≠ -1 → Xi S 904 72 ≤ 1 → cU5 S ≤ 0 → NTB (NT3 S1) 4 (Xi S 908 (fW S).toNat)) ∧
  (kU5 S ≠ -1 → Xi S 904 72 ≤ 1 → 2 ≤ cU5 S → NTB (NT3 S1) 7 (Xi S 908 (fW S).toNat)) ∧
  (kU5 S ≠ -1 → Xi S 904 72 ≤ 1 → cU5 S = 1 → (NT3 S1).1 = 0 ∧ Xi S1 967 0 = acR S (fW S) (nW S) (kU5 S) 0 1) ∧ Xi S1 904 142 = 1
theorem rau_0 {S S1 : sS} {x0 x1 : Int × Int × Int} (h0 : x0.1 = 0) (k : kU5 S = -1) (n1 : x1 = if kU5 S = -1 then ntF x0 4 (pR S (Xi S 904 71)) else x0) (n2 : NT3 S1 = if 1 < Xi S 904 72 then ntF x1 4 (pR S (Xi S 904 71 + 1)) else x1) (hp : 1 < Xi S 904 72 → pR S (Xi S 904 71) < pR S (Xi S 904 71 + 1)) (hw : Xi S1 904 142 = 1) : RAU S S1 := by
  have b : NTB x1 4 (pR S (Xi S 904 71)) := by rw [n1, if_pos k]; exact ntF_0 h0
  refine ⟨fun _ => ?_, fun q => absurd k q, fun q => absurd k q, fun q => absurd k q, fun q => absurd k q, hw⟩
  by_cases w : 1 < Xi S 904 72
  · rw [n2, if_pos w, ntF_k (by rw [b.1]; decide) (by rw [b.2]; exact hp w)]; exact b
  · rw [n2, if_neg w]; exact b
theorem rau_1 {S S1 : sS} {x0 x1 x2 x3 : Int × Int × Int} {g1 g2 : Int} (h0 : x0.1 = 0) (k : kU5 S ≠ -1) (n1 : x1 = if kU5 S = -1 then ntF x0 4 (pR S (Xi S 904 71)) else x0) (n2 : x2 = if 1 < Xi S 904 72 then ntF x1 4 (pR S (Xi S 904 71 + 1)) else x1) (n3 : x3 = if g1 = 0 then ntF x2 4 (Xi S 908 (fW S).toNat) else x2) (n4 : NT3 S1 = if g2 = 0 then ntF x3 7 (Xi S 908 (fW S).toNat) else x3) (w1 : 0 < cU5 S → g1 = 1) (w2 : ¬ 0 < cU5 S → g1 = 0) (v1 : cU5 S < 2 → g2 = 1) (v2 : ¬ cU5 S < 2 → g2 = 0) (hp : 1 < Xi S 904 72 → pR S (Xi S 904 71 + 1) < Xi S 908 (fW S).toNat) (ha : Xi S1 967 0 = acR S (fW S) (nW S) (kU5 S) 0 1) (hw : Xi S1 904 142 = 1) : RAU S S1 := by
  rw [if_neg k] at n1
  refine ⟨fun q => absurd q k, fun _ l => ?_, fun _ l c => ?_, fun _ l c => ?_, fun _ l c => ⟨?_, ha⟩, hw⟩
  · have b : NTB x2 4 (pR S (Xi S 904 71 + 1)) := by rw [n2, if_pos l, n1]; exact ntF_0 h0
    have b3 : NTB x3 4 (pR S (Xi S 904 71 + 1)) := by
      by_cases y : g1 = 0
      · rw [n3, if_pos y, ntF_k (by rw [b.1]; decide) (by rw [b.2]; exact hp l)]; exact b
      · rw [n3, if_neg y]; exact b
    by_cases y : g2 = 0
    · rw [n4, if_pos y, ntF_k (by rw [b3.1]; decide) (by rw [b3.2]; exact hp l)]; exact b3
    · rw [n4, if_neg y]; exact b3
  · rw [n4, if_neg (by have := v1 (by omega); omega), n3, if_pos (w2 (by omega)), n2, if_neg (by omega), n1]; exact ntF_0 h0
  · rw [n4, if_pos (v2 (by omega)), n3, if_neg (by have := w1 (by omega); omega), n2, if_neg (by omega), n1]; exact ntF_0 h0
  · rw [n4, if_neg (by have := v1 (by omega); omega), n3, if_neg (by have := w1 (by omega); omega), n2, if_neg (by omega), n1]; exact h0

def md_mo_askFifteen__1 : List rec := [(904, 905, 64, 65), (904, 905, 104, 105), (904, 905, 105, 106), (904, 905, 106, 107), (904, 905, 108, 109), (904, 905, 109, 110), (904, 905, 110, 111), (904, 905, 112, 113), (904, 905, 113, 114), (904, 905, 142, 143), (966, 967, 0, 100000), (967, 968, 0, 100000), (968, 969, 0, 100000)]
abbrev Q_mo_askFifteen__1 (S : sS) : pst := fun r S1 => RI S1 ∧ FR md_mo_askFifteen__1 S S1 ∧ (r = none ∧ (RAU S S1))
set_option maxRecDepth 100000 in
theorem t_mo_askFifteen__1 {S : sS} (hH : RI S) (hLS : LSP S) (h15 : 0 ≤ Xi S 904 15) (hRB : RBD S) (hLX : LXR S) (hB : ABV S) (hu : Xi S 904 76 ≠ 0) (hz0 : Xi S 904 106 = 0) (hp32 : 0 ≤ Xi S 904 32 ∧ Xi S 904 32 ≤ 12) (hk15 : rnR S (Xi S 904 71) 0 ≤ 15) (hfw : 0 ≤ Xi S 950 (Xi S 904 78).toNat ∧ Xi S 950 (Xi S 904 78).toNat ≤ 5100) (hl : 0 ≤ Xi S 904 71 ∧ Xi S 904 71 ≤ 2600) (hq1 : Hid (1 < Xi S 904 72 → pR S (Xi S 904 71) < pR S (Xi S 904 71 + 1))) (hq2 : Hid (1 < Xi S 904 72 → pR S (Xi S 904 71 + 1) < Xi S 908 (fW S).toNat)) (d : Nat) : Mp lay0 (d + 11) m_mo_askFifteen [.ref 904] S (Q_mo_askFifteen__1 S) := by
  refine Mp_R rfl rfl (fun fu => ?_)
  have hF : FR md_mo_askFifteen__1 S S := FR.rf
  have w1 : -2147483648 ≤ Xi S 904 106 ∧ Xi S 904 106 ≤ 2147483647 := Xi_rgI
  have w2 : -2147483648 ≤ Xi S 904 142 ∧ Xi S 904 142 ≤ 2147483647 := Xi_rgI
  have w3 : -2147483648 ≤ Xi S 904 15 ∧ Xi S 904 15 ≤ 2147483647 := Xi_rgI
  have w4 : -2147483648 ≤ Xi S 904 32 ∧ Xi S 904 32 ≤ 2147483647 := Xi_rgI
  have w5 : -2147483648 ≤ Xi S 904 71 ∧ Xi S 904 71 ≤ 2147483647 := Xi_rgI
  have w6 : -2147483648 ≤ Xi S 904 72 ∧ Xi S 904 72 ≤ 2147483647 := Xi_rgI
  have w7 : -2147483648 ≤ Xi S 904 76 ∧ Xi S 904 76 ≤ 2147483647 := Xi_rgI
  have w8 : -2147483648 ≤ Xi S 904 78 ∧ Xi S 904 78 ≤ 2147483647 := Xi_rgI
  have C361 : ∀ (n361 : Nat) (_ : n361 ≤ fu) (T1 : sS) (_ : RI T1) (_ : FR md_mo_askFifteen__1 S T1) (v1 : Int) (v2 : Int) (v5 : Int) (v6 : Int) (v7 : Int), (-2147483648 ≤ v1 ∧ v1 ≤ 2147483647) → (-2147483648 ≤ v2 ∧ v2 ≤ 2147483647) → (-2147483648 ≤ v5 ∧ v5 ≤ 2147483647) → (-2147483648 ≤ v6 ∧ v6 ≤ 2147483647) → (-2147483648 ≤ v7 ∧ v7 ≤ 2147483647) → ((1 : Int) = 0) → Pl n361 lay0 (d + 10) m_mo_askFifteen 361 [(0, .ref 904), (1, iv v1), (2, iv v2), (5, iv v5), (6, iv v6), (7, iv v7)] [] T1 (Q_mo_askFifteen__1 S) := by
    intro n361
    induction n361 with
    | zero => intros; exact Pl_0
    | succ n361 ih361 =>
      intro hm361 T1 hHT1 hFT1 v1 v2 v5 v6 v7 w9 w10 w11 w12 w13 w14
      have w15 : Xi T1 904 15 = Xi S 904 15 := hFT1.x _ _ rfl
      have w16 : Xi T1 904 16 = Xi S 904 16 := hFT1.x _ _ rfl
      have w17 : Xi T1 904 30 = Xi S 904 30 := hFT1.x _ _ rfl
      have w18 : Xi T1 904 32 = Xi S 904 32 := hFT1.x _ _ rfl
      have w19 : Xi T1 904 69 = Xi S 904 69 := hFT1.x _ _ rfl
      have w20 : Xi T1 904 71 = Xi S 904 71 := hFT1.x _ _ rfl
      have w21 : Xi T1 904 72 = Xi S 904 72 := hFT1.x _ _ rfl
      have w22 : Xi T1 904 76 = Xi S 904 76 := hFT1.x _ _ rfl
      have w23 : Xi T1 904 78 = Xi S 904 78 := hFT1.x _ _ rfl
      have w24 : -2147483648 ≤ Xi T1 904 106 ∧ Xi T1 904 106 ≤ 2147483647 := Xi_rgI
      have w25 : -2147483648 ≤ Xi T1 904 142 ∧ Xi T1 904 142 ≤ 2147483647 := Xi_rgI
      have w26 : -2147483648 ≤ Xi T1 904 15 ∧ Xi T1 904 15 ≤ 2147483647 := Xi_rgI
      have w27 : -2147483648 ≤ Xi T1 904 32 ∧ Xi T1 904 32 ≤ 2147483647 := Xi_rgI
      have w28 : -2147483648 ≤ Xi T1 904 71 ∧ Xi T1 904 71 ≤ 2147483647 := Xi_rgI
      have w29 : -2147483648 ≤ Xi T1 904 72 ∧ Xi T1 904 72 ≤ 2147483647 := Xi_rgI
      have w30 : -2147483648 ≤ Xi T1 904 76 ∧ Xi T1 904 76 ≤ 2147483647 := Xi_rgI
      have w31 : -2147483648 ≤ Xi T1 904 78 ∧ Xi T1 904 78 ≤ 2147483647 := Xi_rgI
      have C432 : ∀ (n432 : Nat) (_ : n432 ≤ n361) (T2 : sS) (_ : RI T2) (_ : FR md_mo_askFifteen__1 S T2) (v1 : Int) (v2 : Int) (v5 : Int) (v7 : Int), (-2147483648 ≤ v1 ∧ v1 ≤ 2147483647) → (-2147483648 ≤ v2 ∧ v2 ≤ 2147483647) → (-2147483648 ≤ v5 ∧ v5 ≤ 2147483647) → (-2147483648 ≤ v7 ∧ v7 ≤ 2147483647) → ((1 : Int) = 0) → Pl n432 lay0 (d + 10) m_mo_askFifteen 432 [(0, .ref 904), (1, iv v1), (2, iv v2), (5, iv v5), (7, iv v7)] [] T2 (Q_mo_askFifteen__1 S) := by
        intro n432
        induction n432 with
        | zero => intros; exact Pl_0
        | succ n432 ih432 =>
          intro hm432 T2 hHT2 hFT2 v1 v2 v5 v7 w32 w33 w34 w35 w36
          have w37 : Xi T2 904 15 = Xi S 904 15 := hFT2.x _ _ rfl
          have w38 : Xi T2 904 16 = Xi S 904 16 := hFT2.x _ _ rfl
          have w39 : Xi T2 904 30 = Xi S 904 30 := hFT2.x _ _ rfl
          have w40 : Xi T2 904 32 = Xi S 904 32 := hFT2.x _ _ rfl
          have w41 : Xi T2 904 69 = Xi S 904 69 := hFT2.x _ _ rfl
          have w42 : Xi T2 904 71 = Xi S 904 71 := hFT2.x _ _ rfl
          have w43 : Xi T2 904 72 = Xi S 904 72 := hFT2.x _ _ rfl
          have w44 : Xi T2 904 76 = Xi S 904 76 := hFT2.x _ _ rfl
          have w45 : Xi T2 904 78 = Xi S 904 78 := hFT2.x _ _ rfl
          have w46 : -2147483648 ≤ Xi T2 904 106 ∧ Xi T2 904 106 ≤ 2147483647 := Xi_rgI
          have w47 : -2147483648 ≤ Xi T2 904 142 ∧ Xi T2 904 142 ≤ 2147483647 := Xi_rgI
          have w48 : -2147483648 ≤ Xi T2 904 15 ∧ Xi T2 904 15 ≤ 2147483647 := Xi_rgI
          have w49 : -2147483648 ≤ Xi T2 904 32 ∧ Xi T2 904 32 ≤ 2147483647 := Xi_rgI
          have w50 : -2147483648 ≤ Xi T2 904 71 ∧ Xi T2 904 71 ≤ 2147483647 := Xi_rgI
          have w51 : -2147483648 ≤ Xi T2 904 72 ∧ Xi T2 904 72 ≤ 2147483647 := Xi_rgI
          have w52 : -2147483648 ≤ Xi T2 904 76 ∧ Xi T2 904 76 ≤ 2147483647 := Xi_rgI
          have w53 : -2147483648 ≤ Xi T2 904 78 ∧ Xi T2 904 78 ≤ 2147483647 := Xi_rgI
          exfalso; omega
      exfalso; omega
  refine y_aload_n rfl rfl ?_
  refine y_gfi rfl rfl rfl rfl rfl ?_
  refine y_istore_n rfl rfl rfl ?_
  refine y_aload_n rfl rfl ?_
  refine y_gfr rfl rfl rfl rfl rfl (hH.r 904 67 950 rfl) ?_
  refine y_aload_n rfl rfl ?_
  refine y_gfi rfl rfl rfl rfl rfl ?_
  refine y_ialoadP (n := 2600) rfl rfl (by unfold rg; omega) (fun w54 w55 => ?_)
  have w56 : -2147483648 ≤ (Xi S 950 (((Xi S 904 78)).toNat)) ∧ (Xi S 950 (((Xi S 904 78)).toNat)) ≤ 2147483647 := Xi_rgI
  refine y_istore_n rfl rfl rfl ?_
  refine y_aload_n rfl rfl ?_
  refine y_gfi rfl rfl rfl rfl rfl ?_
  refine y_if_eq rfl rfl (by unfold rg; omega) (fun w57 => ?_) (fun w58 => ?_)
  · exfalso; omega
  · refine y_aload_n rfl rfl ?_
    refine y_iconst rfl ?_
    refine y_pfi rfl rfl rfl rfl ?_
    obtain ⟨U3, eU3⟩ : ∃ T : sS, T = uI S 904 142 (Int32.ofInt 1) := ⟨_, rfl⟩
    rw [← eU3]
    have hHU3 : RI U3 := by rw [eU3]; exact RI_w hH
    have hFU3 : FR md_mo_askFifteen__1 S U3 := by rw [eU3]; exact FR.wI hF (mdf_i (r := (904, 905, 142, 143)) (List.mem_of_getElem? (i := 9) rfl) (inR_i (by omega) (by omega) (by omega) (by omega)))
    have w59 : Xi U3 904 142 = 1 := by rw [eU3]; exact Xi_same (by unfold rg; omega)
    have ee24 := eU3
    have t24 : NT3 U3 = NT3 S := by unfold NT3; rw [eU3]; repeat rw [Xi_ne (by omega)]
    refine y_aload_n rfl rfl ?_
    refine y_iload_n rfl rfl ?_
    have w60 : Xi U3 904 106 = Xi S 904 106 := (show Xi U3 904 106 = Xi S 904 106 from by rw [eU3]; exact Xi_ne (by omega))
    have w61 : Xi U3 904 15 = Xi S 904 15 := (show Xi U3 904 15 = Xi S 904 15 from by rw [eU3]; exact Xi_ne (by omega))
    have w62 : Xi U3 904 32 = Xi S 904 32 := (show Xi U3 904 32 = Xi S 904 32 from by rw [eU3]; exact Xi_ne (by omega))
    have w63 : Xi U3 904 71 = Xi S 904 71 := (show Xi U3 904 71 = Xi S 904 71 from by rw [eU3]; exact Xi_ne (by omega))
    have w64 : Xi U3 904 72 = Xi S 904 72 := (show Xi U3 904 72 = Xi S 904 72 from by rw [eU3]; exact Xi_ne (by omega))
    have w65 : Xi U3 904 76 = Xi S 904 76 := (show Xi U3 904 76 = Xi S 904 76 from by rw [eU3]; exact Xi_ne (by omega))
    have w66 : Xi U3 904 78 = Xi S 904 78 := (show Xi U3 904 78 = Xi S 904 78 from by rw [eU3]; exact Xi_ne (by omega))
    refine y_callV rfl rfl rfl (t_mo_kindOfRun__p hHU3 (Xi S 904 71) ⟨by omega, by omega⟩ (by first | assumption | exact (LSP_FR hFU3 rfl rfl (by assumption : LSP S))) (by first | assumption | omega) (by first | assumption | exact (RBD_FR hFU3 rfl (by assumption : RBD S))) _) ?_
    rintro _ T4 ⟨hHT4, w68, z67, rfl, w67, f29, nt29⟩
    have hFT4 : FR md_mo_askFifteen__1 S T4 := FR.tr hFU3 w68 rfl
    show Pl _ _ _ _ _ _ [iv z67] _ _
    have k29 : z67 = kU5 S := by have t := f29; rw [rnR_sm (SMR_FR hFU3 rfl rfl)] at t; exact t
    have b29 := rnR_ix (r := Xi S 904 71) (s := 0) hLX h15
    have b29b : kU5 S = rnR S (Xi S 904 71) 0 := rfl
    have n29 : Hid (NT3 T4 = if kU5 S = -1 then ntF (NT3 S) 4 (pR S (Xi S 904 71)) else NT3 S) := by have t := nt29; rw [rnR_sm (SMR_FR hFU3 rfl rfl), t24, (SMR_FR hFU3 rfl rfl).2.1 908 _ (by omega), (SMR_FR hFU3 rfl rfl).2.1 950 _ (by omega)] at t; exact t
    clear f29 nt29
    refine y_istore_n rfl rfl rfl ?_
    refine y_aload_n rfl rfl ?_
    refine y_gfi rfl rfl rfl rfl rfl ?_
    have w69 : (Xi T4 904 72) = (Xi S 904 72) := (show Xi T4 904 72 = Xi U3 904 72 from w68.x _ _ rfl).trans ((show Xi U3 904 72 = Xi S 904 72 from by rw [eU3]; exact Xi_ne (by omega)))
    rw [w69]
    refine y_iconst rfl ?_
    refine y_icmp_le rfl rfl (by unfold rg; omega) (by unfold rg; omega) (fun w70 => ?_) (fun w71 => ?_)
    · refine y_iload_n rfl rfl ?_
      have n54 : Hid (NT3 T4 = if 1 < Xi S 904 72 then ntF (NT3 T4) 4 (pR S (Xi S 904 71 + 1)) else NT3 T4) := by first | (have t := K51; have t := nt51; rw [if_pos (by omega)]; rw [(SMR_FR hFU3 rfl rfl).2.1 908 _ (by omega), (SMR_FR hFU3 rfl rfl).2.1 950 _ (by omega)] at t; exact t) | (unfold Hid; rw [if_neg (by omega)])
      refine y_iconst rfl ?_
      refine y_icmp_eq rfl rfl (by unfold rg; omega) (by unfold rg; omega) (fun w72 => ?_) (fun w73 => ?_)
      · refine y_return rfl rfl ?_
        have w74 : Xi T4 904 142 = Xi U3 904 142 := (show Xi T4 904 142 = Xi U3 904 142 from w68.x _ _ rfl)
        have w75 : Xi T4 904 15 = Xi S 904 15 := (show Xi T4 904 15 = Xi U3 904 15 from w68.x _ _ rfl).trans ((show Xi U3 904 15 = Xi S 904 15 from by rw [eU3]; exact Xi_ne (by omega)))
        have w76 : Xi T4 904 32 = Xi S 904 32 := (show Xi T4 904 32 = Xi U3 904 32 from w68.x _ _ rfl).trans ((show Xi U3 904 32 = Xi S 904 32 from by rw [eU3]; exact Xi_ne (by omega)))
        have w77 : Xi T4 904 71 = Xi S 904 71 := (show Xi T4 904 71 = Xi U3 904 71 from w68.x _ _ rfl).trans ((show Xi U3 904 71 = Xi S 904 71 from by rw [eU3]; exact Xi_ne (by omega)))
        have w78 : Xi T4 904 72 = Xi S 904 72 := (show Xi T4 904 72 = Xi U3 904 72 from w68.x _ _ rfl).trans ((show Xi U3 904 72 = Xi S 904 72 from by rw [eU3]; exact Xi_ne (by omega)))
        have w79 : Xi T4 904 76 = Xi S 904 76 := (show Xi T4 904 76 = Xi U3 904 76 from w68.x _ _ rfl).trans ((show Xi U3 904 76 = Xi S 904 76 from by rw [eU3]; exact Xi_ne (by omega)))
        have w80 : Xi T4 904 78 = Xi S 904 78 := (show Xi T4 904 78 = Xi U3 904 78 from w68.x _ _ rfl).trans ((show Xi U3 904 78 = Xi S 904 78 from by rw [eU3]; exact Xi_ne (by omega)))
        exact ⟨hHT4, hFT4, rfl, (by first | (have t := K121; exact rau_1 hz0 k59 n29.o n54.o n91 n109 (fun q => by omega) (fun q => by omega) (fun q => by omega) (fun q => by omega) hq2.o a121 (by omega)) | exact rau_0 hz0 (by omega) n29.o n54.o hq1.o (by omega))⟩
      · refine y_aload_n rfl rfl ?_
        have k59 : kU5 S ≠ -1 := by omega
        refine y_iload_n rfl rfl ?_
        refine y_aload_n rfl rfl ?_
        refine y_gfr rfl rfl rfl rfl rfl (hHT4.r 904 68 951 rfl) ?_
        refine y_aload_n rfl rfl ?_
        refine y_gfi rfl rfl rfl rfl rfl ?_
        have w81 : (Xi T4 904 78) = (Xi S 904 78) := (show Xi T4 904 78 = Xi U3 904 78 from w68.x _ _ rfl).trans ((show Xi U3 904 78 = Xi S 904 78 from by rw [eU3]; exact Xi_ne (by omega)))
        rw [w81]
        refine y_ialoadP (n := 2600) rfl rfl (by unfold rg; omega) (fun w82 w83 => ?_)
        have w84 : -2147483648 ≤ (Xi T4 951 (((Xi S 904 78)).toNat)) ∧ (Xi T4 951 (((Xi S 904 78)).toNat)) ≤ 2147483647 := Xi_rgI
        have e69 : (Xi T4 951 (((Xi S 904 78)).toNat)) = nW S := by unfold nW; rw [(SMR_FR hFT4 rfl rfl).2.1 951 _ (by omega)]
        refine y_iload_n rfl rfl ?_
        refine y_iconst rfl ?_
        refine y_iconst rfl ?_
        have w85 : Xi T4 904 142 = Xi U3 904 142 := (show Xi T4 904 142 = Xi U3 904 142 from w68.x _ _ rfl)
        have w86 : Xi T4 904 15 = Xi S 904 15 := (show Xi T4 904 15 = Xi U3 904 15 from w68.x _ _ rfl).trans ((show Xi U3 904 15 = Xi S 904 15 from by rw [eU3]; exact Xi_ne (by omega)))
        have w87 : Xi T4 904 32 = Xi S 904 32 := (show Xi T4 904 32 = Xi U3 904 32 from w68.x _ _ rfl).trans ((show Xi U3 904 32 = Xi S 904 32 from by rw [eU3]; exact Xi_ne (by omega)))
        have w88 : Xi T4 904 71 = Xi S 904 71 := (show Xi T4 904 71 = Xi U3 904 71 from w68.x _ _ rfl).trans ((show Xi U3 904 71 = Xi S 904 71 from by rw [eU3]; exact Xi_ne (by omega)))
        have w89 : Xi T4 904 72 = Xi S 904 72 := (show Xi T4 904 72 = Xi U3 904 72 from w68.x _ _ rfl).trans ((show Xi U3 904 72 = Xi S 904 72 from by rw [eU3]; exact Xi_ne (by omega)))
        have w90 : Xi T4 904 76 = Xi S 904 76 := (show Xi T4 904 76 = Xi U3 904 76 from w68.x _ _ rfl).trans ((show Xi U3 904 76 = Xi S 904 76 from by rw [eU3]; exact Xi_ne (by omega)))
        have w91 : Xi T4 904 78 = Xi S 904 78 := (show Xi T4 904 78 = Xi U3 904 78 from w68.x _ _ rfl).trans ((show Xi U3 904 78 = Xi S 904 78 from by rw [eU3]; exact Xi_ne (by omega)))
        refine y_callV rfl rfl rfl (t_mo_adjective__p hHT4 (Xi S 950 (((Xi S 904 78)).toNat)) (Xi T4 951 (((Xi S 904 78)).toNat)) z67 0 1 ⟨by omega, by omega⟩ ⟨by omega, by omega⟩ ⟨by omega, by omega⟩ ⟨by omega, by omega⟩ ⟨by omega, by omega⟩ (by first | assumption | exact (LSP_FR hFT4 rfl rfl (by assumption : LSP S))) (by first | assumption | omega) (by first | assumption | exact (LXR_FR hFT4 rfl rfl (by assumption : LXR S))) (by first | assumption | exact (ABV_FR hFT4 rfl (by assumption : ABV S))) (by first | assumption | omega) _) ?_
        rintro _ T5 ⟨hHT5, w93, z92, rfl, w92, f73, g73⟩
        have hFT5 : FR md_mo_askFifteen__1 S T5 := FR.tr hFT4 w93 rfl
        show Pl _ _ _ _ _ _ [iv z92] _ _
        have c73 : z92 = cU5 S := by have t := f73; rw [adR_am (AMR_FR hFT4 rfl rfl), e69, k29] at t; exact t
        have a73 : Xi T5 904 113 = acR S (fW S) (nW S) (kU5 S) 0 1 := by have t := g73; rw [acR_am (AMR_FR hFT4 rfl rfl), e69, k29] at t; exact t
        clear f73 g73
        have F73 := (by assumption : FR md_mo_adjective__p T4 T5)
        have t73 : NT3 T5 = NT3 T4 := by unfold NT3; rw [F73.x 904 106 rfl, F73.x 904 105 rfl, F73.x 904 104 rfl]
        refine y_istore rfl rfl rfl ?_
        refine y_aload_n rfl rfl ?_
        refine y_iload rfl rfl ?_
        refine y_if_le rfl rfl (by unfold rg; omega) (fun w94 => ?_) (fun w95 => ?_)
        · refine y_iconst rfl ?_
          refine y_iconst rfl ?_
          refine y_iload_n rfl rfl ?_
          have w96 : Xi T5 904 106 = Xi T4 904 106 := (show Xi T5 904 106 = Xi T4 904 106 from w93.x _ _ rfl)
          have w97 : Xi T5 904 142 = Xi U3 904 142 := (show Xi T5 904 142 = Xi T4 904 142 from w93.x _ _ rfl).trans ((show Xi T4 904 142 = Xi U3 904 142 from w68.x _ _ rfl))
          have w98 : Xi T5 904 15 = Xi S 904 15 := (show Xi T5 904 15 = Xi T4 904 15 from w93.x _ _ rfl).trans ( (show Xi T4 904 15 = Xi U3 904 15 from w68.x _ _ rfl).trans ((show Xi U3 904 15 = Xi S 904 15 from by rw [eU3]; exact Xi_ne (by omega))))
          have w99 : Xi T5 904 32 = Xi S 904 32 := (show Xi T5 904 32 = Xi T4 904 32 from w93.x _ _ rfl).trans ( (show Xi T4 904 32 = Xi U3 904 32 from w68.x _ _ rfl).trans ((show Xi U3 904 32 = Xi S 904 32 from by rw [eU3]; exact Xi_ne (by omega))))
          have w100 : Xi T5 904 71 = Xi S 904 71 := (show Xi T5 904 71 = Xi T4 904 71 from w93.x _ _ rfl).trans ( (show Xi T4 904 71 = Xi U3 904 71 from w68.x _ _ rfl).trans ((show Xi U3 904 71 = Xi S 904 71 from by rw [eU3]; exact Xi_ne (by omega))))
          have w101 : Xi T5 904 72 = Xi S 904 72 := (show Xi T5 904 72 = Xi T4 904 72 from w93.x _ _ rfl).trans ( (show Xi T4 904 72 = Xi U3 904 72 from w68.x _ _ rfl).trans ((show Xi U3 904 72 = Xi S 904 72 from by rw [eU3]; exact Xi_ne (by omega))))
          have w102 : Xi T5 904 76 = Xi S 904 76 := (show Xi T5 904 76 = Xi T4 904 76 from w93.x _ _ rfl).trans ( (show Xi T4 904 76 = Xi U3 904 76 from w68.x _ _ rfl).trans ((show Xi U3 904 76 = Xi S 904 76 from by rw [eU3]; exact Xi_ne (by omega))))
          have w103 : Xi T5 904 78 = Xi S 904 78 := (show Xi T5 904 78 = Xi T4 904 78 from w93.x _ _ rfl).trans ( (show Xi T4 904 78 = Xi U3 904 78 from w68.x _ _ rfl).trans ((show Xi U3 904 78 = Xi S 904 78 from by rw [eU3]; exact Xi_ne (by omega))))
          refine y_callV rfl rfl rfl (t_mo_need__p hHT5 0 4 (Xi S 950 (((Xi S 904 78)).toNat)) ⟨by omega, by omega⟩ ⟨by omega, by omega⟩ ⟨by omega, by omega⟩ _) ?_
          rintro _ T6 ⟨hHT6, w105, rfl, nt91⟩
          have hFT6 : FR md_mo_askFifteen__1 S T6 := FR.tr hFT5 w105 rfl
          show Pl _ _ _ _ _ _ [] _ _
          have n91 := nt91
          rw [t73, (SMR_FR hFT5 rfl rfl).2.1 908 _ (by omega)] at n91
          have a91 : Xi T6 904 113 = acR S (fW S) (nW S) (kU5 S) 0 1 := ((by assumption : FR md_mo_need__p T5 T6).x 904 113 rfl).trans a73
          refine y_aload_n rfl rfl ?_
          refine y_iload rfl rfl ?_
          refine y_iconst rfl ?_
          refine y_icmp_ge rfl rfl (by unfold rg; omega) (by unfold rg; omega) (fun w106 => ?_) (fun w107 => ?_)
          · refine y_iconst rfl ?_
            refine y_bipush rfl rfl ?_
            refine y_iload_n rfl rfl ?_
            have w108 : Xi T6 904 142 = Xi U3 904 142 := (show Xi T6 904 142 = Xi T5 904 142 from w105.x _ _ rfl).trans ( (show Xi T5 904 142 = Xi T4 904 142 from w93.x _ _ rfl).trans ((show Xi T4 904 142 = Xi U3 904 142 from w68.x _ _ rfl)))
            have w109 : Xi T6 904 15 = Xi S 904 15 := (show Xi T6 904 15 = Xi T5 904 15 from w105.x _ _ rfl).trans ( (show Xi T5 904 15 = Xi T4 904 15 from w93.x _ _ rfl).trans ( (show Xi T4 904 15 = Xi U3 904 15 from w68.x _ _ rfl).trans ((show Xi U3 904 15 = Xi S 904 15 from by rw [eU3]; exact Xi_ne (by omega)))))
            have w110 : Xi T6 904 32 = Xi S 904 32 := (show Xi T6 904 32 = Xi T5 904 32 from w105.x _ _ rfl).trans ( (show Xi T5 904 32 = Xi T4 904 32 from w93.x _ _ rfl).trans ( (show Xi T4 904 32 = Xi U3 904 32 from w68.x _ _ rfl).trans ((show Xi U3 904 32 = Xi S 904 32 from by rw [eU3]; exact Xi_ne (by omega)))))
            have w111 : Xi T6 904 71 = Xi S 904 71 := (show Xi T6 904 71 = Xi T5 904 71 from w105.x _ _ rfl).trans ( (show Xi T5 904 71 = Xi T4 904 71 from w93.x _ _ rfl).trans ( (show Xi T4 904 71 = Xi U3 904 71 from w68.x _ _ rfl).trans ((show Xi U3 904 71 = Xi S 904 71 from by rw [eU3]; exact Xi_ne (by omega)))))
            have w112 : Xi T6 904 72 = Xi S 904 72 := (show Xi T6 904 72 = Xi T5 904 72 from w105.x _ _ rfl).trans ( (show Xi T5 904 72 = Xi T4 904 72 from w93.x _ _ rfl).trans ( (show Xi T4 904 72 = Xi U3 904 72 from w68.x _ _ rfl).trans ((show Xi U3 904 72 = Xi S 904 72 from by rw [eU3]; exact Xi_ne (by omega)))))
            have w113 : Xi T6 904 76 = Xi S 904 76 := (show Xi T6 904 76 = Xi T5 904 76 from w105.x _ _ rfl).trans ( (show Xi T5 904 76 = Xi T4 904 76 from w93.x _ _ rfl).trans ( (show Xi T4 904 76 = Xi U3 904 76 from w68.x _ _ rfl).trans ((show Xi U3 904 76 = Xi S 904 76 from by rw [eU3]; exact Xi_ne (by omega)))))
            have w114 : Xi T6 904 78 = Xi S 904 78 := (show Xi T6 904 78 = Xi T5 904 78 from w105.x _ _ rfl).trans ( (show Xi T5 904 78 = Xi T4 904 78 from w93.x _ _ rfl).trans ( (show Xi T4 904 78 = Xi U3 904 78 from w68.x _ _ rfl).trans ((show Xi U3 904 78 = Xi S 904 78 from by rw [eU3]; exact Xi_ne (by omega)))))
            refine y_callV rfl rfl rfl (t_mo_need__p hHT6 0 7 (Xi S 950 (((Xi S 904 78)).toNat)) ⟨by omega, by omega⟩ ⟨by omega, by omega⟩ ⟨by omega, by omega⟩ _) ?_
            rintro _ T7 ⟨hHT7, w116, rfl, nt109⟩
            have hFT7 : FR md_mo_askFifteen__1 S T7 := FR.tr hFT6 w116 rfl
            show Pl _ _ _ _ _ _ [] _ _
            have n109_ := nt109
            rw [(SMR_FR hFT6 rfl rfl).2.1 908 _ (by omega)] at n109_
            have a109 : Xi T7 904 113 = acR S (fW S) (nW S) (kU5 S) 0 1 := ((by assumption : FR md_mo_need__p T6 T7).x 904 113 rfl).trans a91
            refine y_aload_n rfl rfl ?_
            refine y_gfr rfl rfl rfl rfl rfl (hHT7.r 904 111 967 rfl) ?_
            refine y_iconst rfl ?_
            refine y_aload_n rfl rfl ?_
            refine y_gfi rfl rfl rfl rfl rfl ?_
            have w117 : -2147483648 ≤ (Xi T7 904 113) ∧ (Xi T7 904 113) ≤ 2147483647 := Xi_rgI
            refine y_iastoreP (n := 6) rfl rfl (by unfold rg; omega) (fun w118 w119 => ?_)
            obtain ⟨U8, eU8⟩ : ∃ T : sS, T = uI T7 967 ((0 : Int).toNat) (Int32.ofInt (Xi T7 904 113)) := ⟨_, rfl⟩
            rw [← eU8]
            have hHU8 : RI U8 := by rw [eU8]; exact RI_w hHT7
            have hFU8 : FR md_mo_askFifteen__1 S U8 := by rw [eU8]; exact FR.wI hFT7 (mdf_i (r := (967, 968, 0, 100000)) (List.mem_of_getElem? (i := 11) rfl) (inR_i (by omega) (by omega) (by omega) (by omega)))
            have w120 : Xi U8 967 ((0 : Int).toNat) = (Xi T7 904 113) := by rw [eU8]; exact Xi_same (by unfold rg; omega)
            have K121 : True := trivial
            have a121 : Xi U8 967 0 = acR S (fW S) (nW S) (kU5 S) 0 1 := by rw [← a109, eU8]; exact Xi_same (by unfold rg; omega)
            have n109 := (show NT3 U8 = NT3 T7 by unfold NT3; rw [eU8]; repeat rw [Xi_ne (by omega)]).trans n109_
            refine y_return rfl rfl ?_
            have w121 : Xi U8 904 106 = Xi T7 904 106 := (show Xi U8 904 106 = Xi T7 904 106 from by rw [eU8]; exact Xi_ne (by omega))
            have w122 : Xi U8 904 142 = Xi U3 904 142 := (show Xi U8 904 142 = Xi T7 904 142 from by rw [eU8]; exact Xi_ne (by omega)).trans ( (show Xi T7 904 142 = Xi T6 904 142 from w116.x _ _ rfl).trans ( (show Xi T6 904 142 = Xi T5 904 142 from w105.x _ _ rfl).trans ( (show Xi T5 904 142 = Xi T4 904 142 from w93.x _ _ rfl).trans ((show Xi T4 904 142 = Xi U3 904 142 from w68.x _ _ rfl)))))
            have w123 : Xi U8 904 15 = Xi S 904 15 := (show Xi U8 904 15 = Xi T7 904 15 from by rw [eU8]; exact Xi_ne (by omega)).trans ( (show Xi T7 904 15 = Xi T6 904 15 from w116.x _ _ rfl).trans ( (show Xi T6 904 15 = Xi T5 904 15 from w105.x _ _ rfl).trans ( (show Xi T5 904 15 = Xi T4 904 15 from w93.x _ _ rfl).trans ( (show Xi T4 904 15 = Xi U3 904 15 from w68.x _ _ rfl).trans ((show Xi U3 904 15 = Xi S 904 15 from by rw [eU3]; exact Xi_ne (by omega)))))))
            have w124 : Xi U8 904 32 = Xi S 904 32 := (show Xi U8 904 32 = Xi T7 904 32 from by rw [eU8]; exact Xi_ne (by omega)).trans ( (show Xi T7 904 32 = Xi T6 904 32 from w116.x _ _ rfl).trans ( (show Xi T6 904 32 = Xi T5 904 32 from w105.x _ _ rfl).trans ( (show Xi T5 904 32 = Xi T4 904 32 from w93.x _ _ rfl).trans ( (show Xi T4 904 32 = Xi U3 904 32 from w68.x _ _ rfl).trans ((show Xi U3 904 32 = Xi S 904 32 from by rw [eU3]; exact Xi_ne (by omega)))))))
            have w125 : Xi U8 904 71 = Xi S 904 71 := (show Xi U8 904 71 = Xi T7 904 71 from by rw [eU8]; exact Xi_ne (by omega)).trans ( (show Xi T7 904 71 = Xi T6 904 71 from w116.x _ _ rfl).trans ( (show Xi T6 904 71 = Xi T5 904 71 from w105.x _ _ rfl).trans ( (show Xi T5 904 71 = Xi T4 904 71 from w93.x _ _ rfl).trans ( (show Xi T4 904 71 = Xi U3 904 71 from w68.x _ _ rfl).trans ((show Xi U3 904 71 = Xi S 904 71 from by rw [eU3]; exact Xi_ne (by omega)))))))
            have w126 : Xi U8 904 72 = Xi S 904 72 := (show Xi U8 904 72 = Xi T7 904 72 from by rw [eU8]; exact Xi_ne (by omega)).trans ( (show Xi T7 904 72 = Xi T6 904 72 from w116.x _ _ rfl).trans ( (show Xi T6 904 72 = Xi T5 904 72 from w105.x _ _ rfl).trans ( (show Xi T5 904 72 = Xi T4 904 72 from w93.x _ _ rfl).trans ( (show Xi T4 904 72 = Xi U3 904 72 from w68.x _ _ rfl).trans ((show Xi U3 904 72 = Xi S 904 72 from by rw [eU3]; exact Xi_ne (by omega)))))))
            have w127 : Xi U8 904 76 = Xi S 904 76 := (show Xi U8 904 76 = Xi T7 904 76 from by rw [eU8]; exact Xi_ne (by omega)).trans ( (show Xi T7 904 76 = Xi T6 904 76 from w116.x _ _ rfl).trans ( (show Xi T6 904 76 = Xi T5 904 76 from w105.x _ _ rfl).trans ( (show Xi T5 904 76 = Xi T4 904 76 from w93.x _ _ rfl).trans ( (show Xi T4 904 76 = Xi U3 904 76 from w68.x _ _ rfl).trans ((show Xi U3 904 76 = Xi S 904 76 from by rw [eU3]; exact Xi_ne (by omega)))))))
            have w128 : Xi U8 904 78 = Xi S 904 78 := (show Xi U8 904 78 = Xi T7 904 78 from by rw [eU8]; exact Xi_ne (by omega)).trans ( (show Xi T7 904 78 = Xi T6 904 78 from w116.x _ _ rfl).trans ( (show Xi T6 904 78 = Xi T5 904 78 from w105.x _ _ rfl).trans ( (show Xi T5 904 78 = Xi T4 904 78 from w93.x _ _ rfl).trans ( (show Xi T4 904 78 = Xi U3 904 78 from w68.x _ _ rfl).trans ((show Xi U3 904 78 = Xi S 904 78 from by rw [eU3]; exact Xi_ne (by omega)))))))
            exact ⟨hHU8, hFU8, rfl, (by first | (have t := K121; exact rau_1 hz0 k59 n29.o n54.o n91 n109 (fun q => by omega) (fun q => by omega) (fun q => by omega) (fun q => by omega) hq2.o a121 (by omega)) | exact rau_0 hz0 (by omega) n29.o n54.o hq1.o (by omega))⟩
          · refine y_iconst rfl ?_
            refine y_goto rfl rfl ?_
            refine y_bipush rfl rfl ?_
            refine y_iload_n rfl rfl ?_
            have w129 : Xi T6 904 142 = Xi U3 904 142 := (show Xi T6 904 142 = Xi T5 904 142 from w105.x _ _ rfl).trans ( (show Xi T5 904 142 = Xi T4 904 142 from w93.x _ _ rfl).trans ((show Xi T4 904 142 = Xi U3 904 142 from w68.x _ _ rfl)))
            have w130 : Xi T6 904 15 = Xi S 904 15 := (show Xi T6 904 15 = Xi T5 904 15 from w105.x _ _ rfl).trans ( (show Xi T5 904 15 = Xi T4 904 15 from w93.x _ _ rfl).trans ( (show Xi T4 904 15 = Xi U3 904 15 from w68.x _ _ rfl).trans ((show Xi U3 904 15 = Xi S 904 15 from by rw [eU3]; exact Xi_ne (by omega)))))
            have w131 : Xi T6 904 32 = Xi S 904 32 := (show Xi T6 904 32 = Xi T5 904 32 from w105.x _ _ rfl).trans ( (show Xi T5 904 32 = Xi T4 904 32 from w93.x _ _ rfl).trans ( (show Xi T4 904 32 = Xi U3 904 32 from w68.x _ _ rfl).trans ((show Xi U3 904 32 = Xi S 904 32 from by rw [eU3]; exact Xi_ne (by omega)))))
            have w132 : Xi T6 904 71 = Xi S 904 71 := (show Xi T6 904 71 = Xi T5 904 71 from w105.x _ _ rfl).trans ( (show Xi T5 904 71 = Xi T4 904 71 from w93.x _ _ rfl).trans ( (show Xi T4 904 71 = Xi U3 904 71 from w68.x _ _ rfl).trans ((show Xi U3 904 71 = Xi S 904 71 from by rw [eU3]; exact Xi_ne (by omega)))))
            have w133 : Xi T6 904 72 = Xi S 904 72 := (show Xi T6 904 72 = Xi T5 904 72 from w105.x _ _ rfl).trans ( (show Xi T5 904 72 = Xi T4 904 72 from w93.x _ _ rfl).trans ( (show Xi T4 904 72 = Xi U3 904 72 from w68.x _ _ rfl).trans ((show Xi U3 904 72 = Xi S 904 72 from by rw [eU3]; exact Xi_ne (by omega)))))
            have w134 : Xi T6 904 76 = Xi S 904 76 := (show Xi T6 904 76 = Xi T5 904 76 from w105.x _ _ rfl).trans ( (show Xi T5 904 76 = Xi T4 904 76 from w93.x _ _ rfl).trans ( (show Xi T4 904 76 = Xi U3 904 76 from w68.x _ _ rfl).trans ((show Xi U3 904 76 = Xi S 904 76 from by rw [eU3]; exact Xi_ne (by omega)))))
            have w135 : Xi T6 904 78 = Xi S 904 78 := (show Xi T6 904 78 = Xi T5 904 78 from w105.x _ _ rfl).trans ( (show Xi T5 904 78 = Xi T4 904 78 from w93.x _ _ rfl).trans ( (show Xi T4 904 78 = Xi U3 904 78 from w68.x _ _ rfl).trans ((show Xi U3 904 78 = Xi S 904 78 from by rw [eU3]; exact Xi_ne (by omega)))))
            refine y_callV rfl rfl rfl (t_mo_need__p hHT6 1 7 (Xi S 950 (((Xi S 904 78)).toNat)) ⟨by omega, by omega⟩ ⟨by omega, by omega⟩ ⟨by omega, by omega⟩ _) ?_
            rintro _ T9 ⟨hHT9, w137, rfl, nt109⟩
            have hFT9 : FR md_mo_askFifteen__1 S T9 := FR.tr hFT6 w137 rfl
            show Pl _ _ _ _ _ _ [] _ _
            have n109_ := nt109
            rw [(SMR_FR hFT6 rfl rfl).2.1 908 _ (by omega)] at n109_
            have a109 : Xi T9 904 113 = acR S (fW S) (nW S) (kU5 S) 0 1 := ((by assumption : FR md_mo_need__p T6 T9).x 904 113 rfl).trans a91
            refine y_aload_n rfl rfl ?_
            refine y_gfr rfl rfl rfl rfl rfl (hHT9.r 904 111 967 rfl) ?_
            refine y_iconst rfl ?_
            refine y_aload_n rfl rfl ?_
            refine y_gfi rfl rfl rfl rfl rfl ?_
            have w138 : -2147483648 ≤ (Xi T9 904 113) ∧ (Xi T9 904 113) ≤ 2147483647 := Xi_rgI
            refine y_iastoreP (n := 6) rfl rfl (by unfold rg; omega) (fun w139 w140 => ?_)
            obtain ⟨U10, eU10⟩ : ∃ T : sS, T = uI T9 967 ((0 : Int).toNat) (Int32.ofInt (Xi T9 904 113)) := ⟨_, rfl⟩
            rw [← eU10]
            have hHU10 : RI U10 := by rw [eU10]; exact RI_w hHT9
            have hFU10 : FR md_mo_askFifteen__1 S U10 := by rw [eU10]; exact FR.wI hFT9 (mdf_i (r := (967, 968, 0, 100000)) (List.mem_of_getElem? (i := 11) rfl) (inR_i (by omega) (by omega) (by omega) (by omega)))
            have w141 : Xi U10 967 ((0 : Int).toNat) = (Xi T9 904 113) := by rw [eU10]; exact Xi_same (by unfold rg; omega)
            have K121 : True := trivial
            have a121 : Xi U10 967 0 = acR S (fW S) (nW S) (kU5 S) 0 1 := by rw [← a109, eU10]; exact Xi_same (by unfold rg; omega)
            have n109 := (show NT3 U10 = NT3 T9 by unfold NT3; rw [eU10]; repeat rw [Xi_ne (by omega)]).trans n109_
            refine y_return rfl rfl ?_
            have w142 : Xi U10 904 106 = Xi T9 904 106 := (show Xi U10 904 106 = Xi T9 904 106 from by rw [eU10]; exact Xi_ne (by omega))
            have w143 : Xi U10 904 142 = Xi U3 904 142 := (show Xi U10 904 142 = Xi T9 904 142 from by rw [eU10]; exact Xi_ne (by omega)).trans ( (show Xi T9 904 142 = Xi T6 904 142 from w137.x _ _ rfl).trans ( (show Xi T6 904 142 = Xi T5 904 142 from w105.x _ _ rfl).trans ( (show Xi T5 904 142 = Xi T4 904 142 from w93.x _ _ rfl).trans ((show Xi T4 904 142 = Xi U3 904 142 from w68.x _ _ rfl)))))
            have w144 : Xi U10 904 15 = Xi S 904 15 := (show Xi U10 904 15 = Xi T9 904 15 from by rw [eU10]; exact Xi_ne (by omega)).trans ( (show Xi T9 904 15 = Xi T6 904 15 from w137.x _ _ rfl).trans ( (show Xi T6 904 15 = Xi T5 904 15 from w105.x _ _ rfl).trans ( (show Xi T5 904 15 = Xi T4 904 15 from w93.x _ _ rfl).trans ( (show Xi T4 904 15 = Xi U3 904 15 from w68.x _ _ rfl).trans ((show Xi U3 904 15 = Xi S 904 15 from by rw [eU3]; exact Xi_ne (by omega)))))))
            have w145 : Xi U10 904 32 = Xi S 904 32 := (show Xi U10 904 32 = Xi T9 904 32 from by rw [eU10]; exact Xi_ne (by omega)).trans ( (show Xi T9 904 32 = Xi T6 904 32 from w137.x _ _ rfl).trans ( (show Xi T6 904 32 = Xi T5 904 32 from w105.x _ _ rfl).trans ( (show Xi T5 904 32 = Xi T4 904 32 from w93.x _ _ rfl).trans ( (show Xi T4 904 32 = Xi U3 904 32 from w68.x _ _ rfl).trans ((show Xi U3 904 32 = Xi S 904 32 from by rw [eU3]; exact Xi_ne (by omega)))))))
            have w146 : Xi U10 904 71 = Xi S 904 71 := (show Xi U10 904 71 = Xi T9 904 71 from by rw [eU10]; exact Xi_ne (by omega)).trans ( (show Xi T9 904 71 = Xi T6 904 71 from w137.x _ _ rfl).trans ( (show Xi T6 904 71 = Xi T5 904 71 from w105.x _ _ rfl).trans ( (show Xi T5 904 71 = Xi T4 904 71 from w93.x _ _ rfl).trans ( (show Xi T4 904 71 = Xi U3 904 71 from w68.x _ _ rfl).trans ((show Xi U3 904 71 = Xi S 904 71 from by rw [eU3]; exact Xi_ne (by omega)))))))
            have w147 : Xi U10 904 72 = Xi S 904 72 := (show Xi U10 904 72 = Xi T9 904 72 from by rw [eU10]; exact Xi_ne (by omega)).trans ( (show Xi T9 904 72 = Xi T6 904 72 from w137.x _ _ rfl).trans ( (show Xi T6 904 72 = Xi T5 904 72 from w105.x _ _ rfl).trans ( (show Xi T5 904 72 = Xi T4 904 72 from w93.x _ _ rfl).trans ( (show Xi T4 904 72 = Xi U3 904 72 from w68.x _ _ rfl).trans ((show Xi U3 904 72 = Xi S 904 72 from by rw [eU3]; exact Xi_ne (by omega)))))))
            have w148 : Xi U10 904 76 = Xi S 904 76 := (show Xi U10 904 76 = Xi T9 904 76 from by rw [eU10]; exact Xi_ne (by omega)).trans ( (show Xi T9 904 76 = Xi T6 904 76 from w137.x _ _ rfl).trans ( (show Xi T6 904 76 = Xi T5 904 76 from w105.x _ _ rfl).trans ( (show Xi T5 904 76 = Xi T4 904 76 from w93.x _ _ rfl).trans ( (show Xi T4 904 76 = Xi U3 904 76 from w68.x _ _ rfl).trans ((show Xi U3 904 76 = Xi S 904 76 from by rw [eU3]; exact Xi_ne (by omega)))))))
            have w149 : Xi U10 904 78 = Xi S 904 78 := (show Xi U10 904 78 = Xi T9 904 78 from by rw [eU10]; exact Xi_ne (by omega)).trans ( (show Xi T9 904 78 = Xi T6 904 78 from w137.x _ _ rfl).trans ( (show Xi T6 904 78 = Xi T5 904 78 from w105.x _ _ rfl).trans ( (show Xi T5 904 78 = Xi T4 904 78 from w93.x _ _ rfl).trans ( (show Xi T4 904 78 = Xi U3 904 78 from w68.x _ _ rfl).trans ((show Xi U3 904 78 = Xi S 904 78 from by rw [eU3]; exact Xi_ne (by omega)))))))
            exact ⟨hHU10, hFU10, rfl, (by first | (have t := K121; exact rau_1 hz0 k59 n29.o n54.o n91 n109 (fun q => by omega) (fun q => by omega) (fun q => by omega) (fun q => by omega) hq2.o a121 (by omega)) | exact rau_0 hz0 (by omega) n29.o n54.o hq1.o (by omega))⟩
        · refine y_iconst rfl ?_
          refine y_goto rfl rfl ?_
          refine y_iconst rfl ?_
          refine y_iload_n rfl rfl ?_
          have w150 : Xi T5 904 106 = Xi T4 904 106 := (show Xi T5 904 106 = Xi T4 904 106 from w93.x _ _ rfl)
          have w151 : Xi T5 904 142 = Xi U3 904 142 := (show Xi T5 904 142 = Xi T4 904 142 from w93.x _ _ rfl).trans ((show Xi T4 904 142 = Xi U3 904 142 from w68.x _ _ rfl))
          have w152 : Xi T5 904 15 = Xi S 904 15 := (show Xi T5 904 15 = Xi T4 904 15 from w93.x _ _ rfl).trans ( (show Xi T4 904 15 = Xi U3 904 15 from w68.x _ _ rfl).trans ((show Xi U3 904 15 = Xi S 904 15 from by rw [eU3]; exact Xi_ne (by omega))))
          have w153 : Xi T5 904 32 = Xi S 904 32 := (show Xi T5 904 32 = Xi T4 904 32 from w93.x _ _ rfl).trans ( (show Xi T4 904 32 = Xi U3 904 32 from w68.x _ _ rfl).trans ((show Xi U3 904 32 = Xi S 904 32 from by rw [eU3]; exact Xi_ne (by omega))))
          have w154 : Xi T5 904 71 = Xi S 904 71 := (show Xi T5 904 71 = Xi T4 904 71 from w93.x _ _ rfl).trans ( (show Xi T4 904 71 = Xi U3 904 71 from w68.x _ _ rfl).trans ((show Xi U3 904 71 = Xi S 904 71 from by rw [eU3]; exact Xi_ne (by omega))))
          have w155 : Xi T5 904 72 = Xi S 904 72 := (show Xi T5 904 72 = Xi T4 904 72 from w93.x _ _ rfl).trans ( (show Xi T4 904 72 = Xi U3 904 72 from w68.x _ _ rfl).trans ((show Xi U3 904 72 = Xi S 904 72 from by rw [eU3]; exact Xi_ne (by omega))))
          have w156 : Xi T5 904 76 = Xi S 904 76 := (show Xi T5 904 76 = Xi T4 904 76 from w93.x _ _ rfl).trans ( (show Xi T4 904 76 = Xi U3 904 76 from w68.x _ _ rfl).trans ((show Xi U3 904 76 = Xi S 904 76 from by rw [eU3]; exact Xi_ne (by omega))))
          have w157 : Xi T5 904 78 = Xi S 904 78 := (show Xi T5 904 78 = Xi T4 904 78 from w93.x _ _ rfl).trans ( (show Xi T4 904 78 = Xi U3 904 78 from w68.x _ _ rfl).trans ((show Xi U3 904 78 = Xi S 904 78 from by rw [eU3]; exact Xi_ne (by omega))))
          refine y_callV rfl rfl rfl (t_mo_need__p hHT5 1 4 (Xi S 950 (((Xi S 904 78)).toNat)) ⟨by omega, by omega⟩ ⟨by omega, by omega⟩ ⟨by omega, by omega⟩ _) ?_
          rintro _ T11 ⟨hHT11, w159, rfl, nt91⟩
          have hFT11 : FR md_mo_askFifteen__1 S T11 := FR.tr hFT5 w159 rfl
          show Pl _ _ _ _ _ _ [] _ _
          have n91 := nt91
          rw [t73, (SMR_FR hFT5 rfl rfl).2.1 908 _ (by omega)] at n91
          have a91 : Xi T11 904 113 = acR S (fW S) (nW S) (kU5 S) 0 1 := ((by assumption : FR md_mo_need__p T5 T11).x 904 113 rfl).trans a73
          refine y_aload_n rfl rfl ?_
          refine y_iload rfl rfl ?_
          refine y_iconst rfl ?_
          refine y_icmp_ge rfl rfl (by unfold rg; omega) (by unfold rg; omega) (fun w160 => ?_) (fun w161 => ?_)
          · refine y_iconst rfl ?_
            refine y_bipush rfl rfl ?_
            refine y_iload_n rfl rfl ?_
            have w162 : Xi T11 904 142 = Xi U3 904 142 := (show Xi T11 904 142 = Xi T5 904 142 from w159.x _ _ rfl).trans ( (show Xi T5 904 142 = Xi T4 904 142 from w93.x _ _ rfl).trans ((show Xi T4 904 142 = Xi U3 904 142 from w68.x _ _ rfl)))
            have w163 : Xi T11 904 15 = Xi S 904 15 := (show Xi T11 904 15 = Xi T5 904 15 from w159.x _ _ rfl).trans ( (show Xi T5 904 15 = Xi T4 904 15 from w93.x _ _ rfl).trans ( (show Xi T4 904 15 = Xi U3 904 15 from w68.x _ _ rfl).trans ((show Xi U3 904 15 = Xi S 904 15 from by rw [eU3]; exact Xi_ne (by omega)))))
            have w164 : Xi T11 904 32 = Xi S 904 32 := (show Xi T11 904 32 = Xi T5 904 32 from w159.x _ _ rfl).trans ( (show Xi T5 904 32 = Xi T4 904 32 from w93.x _ _ rfl).trans ( (show Xi T4 904 32 = Xi U3 904 32 from w68.x _ _ rfl).trans ((show Xi U3 904 32 = Xi S 904 32 from by rw [eU3]; exact Xi_ne (by omega)))))
            have w165 : Xi T11 904 71 = Xi S 904 71 := (show Xi T11 904 71 = Xi T5 904 71 from w159.x _ _ rfl).trans ( (show Xi T5 904 71 = Xi T4 904 71 from w93.x _ _ rfl).trans ( (show Xi T4 904 71 = Xi U3 904 71 from w68.x _ _ rfl).trans ((show Xi U3 904 71 = Xi S 904 71 from by rw [eU3]; exact Xi_ne (by omega)))))
            have w166 : Xi T11 904 72 = Xi S 904 72 := (show Xi T11 904 72 = Xi T5 904 72 from w159.x _ _ rfl).trans ( (show Xi T5 904 72 = Xi T4 904 72 from w93.x _ _ rfl).trans ( (show Xi T4 904 72 = Xi U3 904 72 from w68.x _ _ rfl).trans ((show Xi U3 904 72 = Xi S 904 72 from by rw [eU3]; exact Xi_ne (by omega)))))
            have w167 : Xi T11 904 76 = Xi S 904 76 := (show Xi T11 904 76 = Xi T5 904 76 from w159.x _ _ rfl).trans ( (show Xi T5 904 76 = Xi T4 904 76 from w93.x _ _ rfl).trans ( (show Xi T4 904 76 = Xi U3 904 76 from w68.x _ _ rfl).trans ((show Xi U3 904 76 = Xi S 904 76 from by rw [eU3]; exact Xi_ne (by omega)))))
            have w168 : Xi T11 904 78 = Xi S 904 78 := (show Xi T11 904 78 = Xi T5 904 78 from w159.x _ _ rfl).trans ( (show Xi T5 904 78 = Xi T4 904 78 from w93.x _ _ rfl).trans ( (show Xi T4 904 78 = Xi U3 904 78 from w68.x _ _ rfl).trans ((show Xi U3 904 78 = Xi S 904 78 from by rw [eU3]; exact Xi_ne (by omega)))))
            refine y_callV rfl rfl rfl (t_mo_need__p hHT11 0 7 (Xi S 950 (((Xi S 904 78)).toNat)) ⟨by omega, by omega⟩ ⟨by omega, by omega⟩ ⟨by omega, by omega⟩ _) ?_
            rintro _ T12 ⟨hHT12, w170, rfl, nt109⟩
            have hFT12 : FR md_mo_askFifteen__1 S T12 := FR.tr hFT11 w170 rfl
            show Pl _ _ _ _ _ _ [] _ _
            have n109_ := nt109
            rw [(SMR_FR hFT11 rfl rfl).2.1 908 _ (by omega)] at n109_
            have a109 : Xi T12 904 113 = acR S (fW S) (nW S) (kU5 S) 0 1 := ((by assumption : FR md_mo_need__p T11 T12).x 904 113 rfl).trans a91
            refine y_aload_n rfl rfl ?_
            refine y_gfr rfl rfl rfl rfl rfl (hHT12.r 904 111 967 rfl) ?_
            refine y_iconst rfl ?_
            refine y_aload_n rfl rfl ?_
            refine y_gfi rfl rfl rfl rfl rfl ?_
            have w171 : -2147483648 ≤ (Xi T12 904 113) ∧ (Xi T12 904 113) ≤ 2147483647 := Xi_rgI
            refine y_iastoreP (n := 6) rfl rfl (by unfold rg; omega) (fun w172 w173 => ?_)
            obtain ⟨U13, eU13⟩ : ∃ T : sS, T = uI T12 967 ((0 : Int).toNat) (Int32.ofInt (Xi T12 904 113)) := ⟨_, rfl⟩
            rw [← eU13]
            have hHU13 : RI U13 := by rw [eU13]; exact RI_w hHT12
            have hFU13 : FR md_mo_askFifteen__1 S U13 := by rw [eU13]; exact FR.wI hFT12 (mdf_i (r := (967, 968, 0, 100000)) (List.mem_of_getElem? (i := 11) rfl) (inR_i (by omega) (by omega) (by omega) (by omega)))
            have w174 : Xi U13 967 ((0 : Int).toNat) = (Xi T12 904 113) := by rw [eU13]; exact Xi_same (by unfold rg; omega)
            have K121 : True := trivial
            have a121 : Xi U13 967 0 = acR S (fW S) (nW S) (kU5 S) 0 1 := by rw [← a109, eU13]; exact Xi_same (by unfold rg; omega)
            have n109 := (show NT3 U13 = NT3 T12 by unfold NT3; rw [eU13]; repeat rw [Xi_ne (by omega)]).trans n109_
            refine y_return rfl rfl ?_
            have w175 : Xi U13 904 106 = Xi T12 904 106 := (show Xi U13 904 106 = Xi T12 904 106 from by rw [eU13]; exact Xi_ne (by omega))
            have w176 : Xi U13 904 142 = Xi U3 904 142 := (show Xi U13 904 142 = Xi T12 904 142 from by rw [eU13]; exact Xi_ne (by omega)).trans ( (show Xi T12 904 142 = Xi T11 904 142 from w170.x _ _ rfl).trans ( (show Xi T11 904 142 = Xi T5 904 142 from w159.x _ _ rfl).trans ( (show Xi T5 904 142 = Xi T4 904 142 from w93.x _ _ rfl).trans ((show Xi T4 904 142 = Xi U3 904 142 from w68.x _ _ rfl)))))
            have w177 : Xi U13 904 15 = Xi S 904 15 := (show Xi U13 904 15 = Xi T12 904 15 from by rw [eU13]; exact Xi_ne (by omega)).trans ( (show Xi T12 904 15 = Xi T11 904 15 from w170.x _ _ rfl).trans ( (show Xi T11 904 15 = Xi T5 904 15 from w159.x _ _ rfl).trans ( (show Xi T5 904 15 = Xi T4 904 15 from w93.x _ _ rfl).trans ( (show Xi T4 904 15 = Xi U3 904 15 from w68.x _ _ rfl).trans ((show Xi U3 904 15 = Xi S 904 15 from by rw [eU3]; exact Xi_ne (by omega)))))))
            have w178 : Xi U13 904 32 = Xi S 904 32 := (show Xi U13 904 32 = Xi T12 904 32 from by rw [eU13]; exact Xi_ne (by omega)).trans ( (show Xi T12 904 32 = Xi T11 904 32 from w170.x _ _ rfl).trans ( (show Xi T11 904 32 = Xi T5 904 32 from w159.x _ _ rfl).trans ( (show Xi T5 904 32 = Xi T4 904 32 from w93.x _ _ rfl).trans ( (show Xi T4 904 32 = Xi U3 904 32 from w68.x _ _ rfl).trans ((show Xi U3 904 32 = Xi S 904 32 from by rw [eU3]; exact Xi_ne (by omega)))))))
            have w179 : Xi U13 904 71 = Xi S 904 71 := (show Xi U13 904 71 = Xi T12 904 71 from by rw [eU13]; exact Xi_ne (by omega)).trans ( (show Xi T12 904 71 = Xi T11 904 71 from w170.x _ _ rfl).trans ( (show Xi T11 904 71 = Xi T5 904 71 from w159.x _ _ rfl).trans ( (show Xi T5 904 71 = Xi T4 904 71 from w93.x _ _ rfl).trans ( (show Xi T4 904 71 = Xi U3 904 71 from w68.x _ _ rfl).trans ((show Xi U3 904 71 = Xi S 904 71 from by rw [eU3]; exact Xi_ne (by omega)))))))
            have w180 : Xi U13 904 72 = Xi S 904 72 := (show Xi U13 904 72 = Xi T12 904 72 from by rw [eU13]; exact Xi_ne (by omega)).trans ( (show Xi T12 904 72 = Xi T11 904 72 from w170.x _ _ rfl).trans ( (show Xi T11 904 72 = Xi T5 904 72 from w159.x _ _ rfl).trans ( (show Xi T5 904 72 = Xi T4 904 72 from w93.x _ _ rfl).trans ( (show Xi T4 904 72 = Xi U3 904 72 from w68.x _ _ rfl).trans ((show Xi U3 904 72 = Xi S 904 72 from by rw [eU3]; exact Xi_ne (by omega)))))))
            have w181 : Xi U13 904 76 = Xi S 904 76 := (show Xi U13 904 76 = Xi T12 904 76 from by rw [eU13]; exact Xi_ne (by omega)).trans ( (show Xi T12 904 76 = Xi T11 904 76 from w170.x _ _ rfl).trans ( (show Xi T11 904 76 = Xi T5 904 76 from w159.x _ _ rfl).trans ( (show Xi T5 904 76 = Xi T4 904 76 from w93.x _ _ rfl).trans ( (show Xi T4 904 76 = Xi U3 904 76 from w68.x _ _ rfl).trans ((show Xi U3 904 76 = Xi S 904 76 from by rw [eU3]; exact Xi_ne (by omega)))))))
            have w182 : Xi U13 904 78 = Xi S 904 78 := (show Xi U13 904 78 = Xi T12 904 78 from by rw [eU13]; exact Xi_ne (by omega)).trans ( (show Xi T12 904 78 = Xi T11 904 78 from w170.x _ _ rfl).trans ( (show Xi T11 904 78 = Xi T5 904 78 from w159.x _ _ rfl).trans ( (show Xi T5 904 78 = Xi T4 904 78 from w93.x _ _ rfl).trans ( (show Xi T4 904 78 = Xi U3 904 78 from w68.x _ _ rfl).trans ((show Xi U3 904 78 = Xi S 904 78 from by rw [eU3]; exact Xi_ne (by omega)))))))
            exact ⟨hHU13, hFU13, rfl, (by first | (have t := K121; exact rau_1 hz0 k59 n29.o n54.o n91 n109 (fun q => by omega) (fun q => by omega) (fun q => by omega) (fun q => by omega) hq2.o a121 (by omega)) | exact rau_0 hz0 (by omega) n29.o n54.o hq1.o (by omega))⟩
          · refine y_iconst rfl ?_
            refine y_goto rfl rfl ?_
            refine y_bipush rfl rfl ?_
            refine y_iload_n rfl rfl ?_
            have w183 : Xi T11 904 142 = Xi U3 904 142 := (show Xi T11 904 142 = Xi T5 904 142 from w159.x _ _ rfl).trans ( (show Xi T5 904 142 = Xi T4 904 142 from w93.x _ _ rfl).trans ((show Xi T4 904 142 = Xi U3 904 142 from w68.x _ _ rfl)))
            have w184 : Xi T11 904 15 = Xi S 904 15 := (show Xi T11 904 15 = Xi T5 904 15 from w159.x _ _ rfl).trans ( (show Xi T5 904 15 = Xi T4 904 15 from w93.x _ _ rfl).trans ( (show Xi T4 904 15 = Xi U3 904 15 from w68.x _ _ rfl).trans ((show Xi U3 904 15 = Xi S 904 15 from by rw [eU3]; exact Xi_ne (by omega)))))
            have w185 : Xi T11 904 32 = Xi S 904 32 := (show Xi T11 904 32 = Xi T5 904 32 from w159.x _ _ rfl).trans ( (show Xi T5 904 32 = Xi T4 904 32 from w93.x _ _ rfl).trans ( (show Xi T4 904 32 = Xi U3 904 32 from w68.x _ _ rfl).trans ((show Xi U3 904 32 = Xi S 904 32 from by rw [eU3]; exact Xi_ne (by omega)))))
            have w186 : Xi T11 904 71 = Xi S 904 71 := (show Xi T11 904 71 = Xi T5 904 71 from w159.x _ _ rfl).trans ( (show Xi T5 904 71 = Xi T4 904 71 from w93.x _ _ rfl).trans ( (show Xi T4 904 71 = Xi U3 904 71 from w68.x _ _ rfl).trans ((show Xi U3 904 71 = Xi S 904 71 from by rw [eU3]; exact Xi_ne (by omega)))))
            have w187 : Xi T11 904 72 = Xi S 904 72 := (show Xi T11 904 72 = Xi T5 904 72 from w159.x _ _ rfl).trans ( (show Xi T5 904 72 = Xi T4 904 72 from w93.x _ _ rfl).trans ( (show Xi T4 904 72 = Xi U3 904 72 from w68.x _ _ rfl).trans ((show Xi U3 904 72 = Xi S 904 72 from by rw [eU3]; exact Xi_ne (by omega)))))
            have w188 : Xi T11 904 76 = Xi S 904 76 := (show Xi T11 904 76 = Xi T5 904 76 from w159.x _ _ rfl).trans ( (show Xi T5 904 76 = Xi T4 904 76 from w93.x _ _ rfl).trans ( (show Xi T4 904 76 = Xi U3 904 76 from w68.x _ _ rfl).trans ((show Xi U3 904 76 = Xi S 904 76 from by rw [eU3]; exact Xi_ne (by omega)))))
            have w189 : Xi T11 904 78 = Xi S 904 78 := (show Xi T11 904 78 = Xi T5 904 78 from w159.x _ _ rfl).trans ( (show Xi T5 904 78 = Xi T4 904 78 from w93.x _ _ rfl).trans ( (show Xi T4 904 78 = Xi U3 904 78 from w68.x _ _ rfl).trans ((show Xi U3 904 78 = Xi S 904 78 from by rw [eU3]; exact Xi_ne (by omega)))))
            refine y_callV rfl rfl rfl (t_mo_need__p hHT11 1 7 (Xi S 950 (((Xi S 904 78)).toNat)) ⟨by omega, by omega⟩ ⟨by omega, by omega⟩ ⟨by omega, by omega⟩ _) ?_
            rintro _ T14 ⟨hHT14, w191, rfl, nt109⟩
            have hFT14 : FR md_mo_askFifteen__1 S T14 := FR.tr hFT11 w191 rfl
            show Pl _ _ _ _ _ _ [] _ _
            have n109_ := nt109
            rw [(SMR_FR hFT11 rfl rfl).2.1 908 _ (by omega)] at n109_
            have a109 : Xi T14 904 113 = acR S (fW S) (nW S) (kU5 S) 0 1 := ((by assumption : FR md_mo_need__p T11 T14).x 904 113 rfl).trans a91
            refine y_aload_n rfl rfl ?_
            refine y_gfr rfl rfl rfl rfl rfl (hHT14.r 904 111 967 rfl) ?_
            refine y_iconst rfl ?_
            refine y_aload_n rfl rfl ?_
            refine y_gfi rfl rfl rfl rfl rfl ?_
            have w192 : -2147483648 ≤ (Xi T14 904 113) ∧ (Xi T14 904 113) ≤ 2147483647 := Xi_rgI
            refine y_iastoreP (n := 6) rfl rfl (by unfold rg; omega) (fun w193 w194 => ?_)
            obtain ⟨U15, eU15⟩ : ∃ T : sS, T = uI T14 967 ((0 : Int).toNat) (Int32.ofInt (Xi T14 904 113)) := ⟨_, rfl⟩
            rw [← eU15]
            have hHU15 : RI U15 := by rw [eU15]; exact RI_w hHT14
            have hFU15 : FR md_mo_askFifteen__1 S U15 := by rw [eU15]; exact FR.wI hFT14 (mdf_i (r := (967, 968, 0, 100000)) (List.mem_of_getElem? (i := 11) rfl) (inR_i (by omega) (by omega) (by omega) (by omega)))
            have w195 : Xi U15 967 ((0 : Int).toNat) = (Xi T14 904 113) := by rw [eU15]; exact Xi_same (by unfold rg; omega)
            have K121 : True := trivial
            have a121 : Xi U15 967 0 = acR S (fW S) (nW S) (kU5 S) 0 1 := by rw [← a109, eU15]; exact Xi_same (by unfold rg; omega)
            have n109 := (show NT3 U15 = NT3 T14 by unfold NT3; rw [eU15]; repeat rw [Xi_ne (by omega)]).trans n109_
            refine y_return rfl rfl ?_
            have w196 : Xi U15 904 106 = Xi T14 904 106 := (show Xi U15 904 106 = Xi T14 904 106 from by rw [eU15]; exact Xi_ne (by omega))
            have w197 : Xi U15 904 142 = Xi U3 904 142 := (show Xi U15 904 142 = Xi T14 904 142 from by rw [eU15]; exact Xi_ne (by omega)).trans ( (show Xi T14 904 142 = Xi T11 904 142 from w191.x _ _ rfl).trans ( (show Xi T11 904 142 = Xi T5 904 142 from w159.x _ _ rfl).trans ( (show Xi T5 904 142 = Xi T4 904 142 from w93.x _ _ rfl).trans ((show Xi T4 904 142 = Xi U3 904 142 from w68.x _ _ rfl)))))
            have w198 : Xi U15 904 15 = Xi S 904 15 := (show Xi U15 904 15 = Xi T14 904 15 from by rw [eU15]; exact Xi_ne (by omega)).trans ( (show Xi T14 904 15 = Xi T11 904 15 from w191.x _ _ rfl).trans ( (show Xi T11 904 15 = Xi T5 904 15 from w159.x _ _ rfl).trans ( (show Xi T5 904 15 = Xi T4 904 15 from w93.x _ _ rfl).trans ( (show Xi T4 904 15 = Xi U3 904 15 from w68.x _ _ rfl).trans ((show Xi U3 904 15 = Xi S 904 15 from by rw [eU3]; exact Xi_ne (by omega)))))))
            have w199 : Xi U15 904 32 = Xi S 904 32 := (show Xi U15 904 32 = Xi T14 904 32 from by rw [eU15]; exact Xi_ne (by omega)).trans ( (show Xi T14 904 32 = Xi T11 904 32 from w191.x _ _ rfl).trans ( (show Xi T11 904 32 = Xi T5 904 32 from w159.x _ _ rfl).trans ( (show Xi T5 904 32 = Xi T4 904 32 from w93.x _ _ rfl).trans ( (show Xi T4 904 32 = Xi U3 904 32 from w68.x _ _ rfl).trans ((show Xi U3 904 32 = Xi S 904 32 from by rw [eU3]; exact Xi_ne (by omega)))))))
            have w200 : Xi U15 904 71 = Xi S 904 71 := (show Xi U15 904 71 = Xi T14 904 71 from by rw [eU15]; exact Xi_ne (by omega)).trans ( (show Xi T14 904 71 = Xi T11 904 71 from w191.x _ _ rfl).trans ( (show Xi T11 904 71 = Xi T5 904 71 from w159.x _ _ rfl).trans ( (show Xi T5 904 71 = Xi T4 904 71 from w93.x _ _ rfl).trans ( (show Xi T4 904 71 = Xi U3 904 71 from w68.x _ _ rfl).trans ((show Xi U3 904 71 = Xi S 904 71 from by rw [eU3]; exact Xi_ne (by omega)))))))
            have w201 : Xi U15 904 72 = Xi S 904 72 := (show Xi U15 904 72 = Xi T14 904 72 from by rw [eU15]; exact Xi_ne (by omega)).trans ( (show Xi T14 904 72 = Xi T11 904 72 from w191.x _ _ rfl).trans ( (show Xi T11 904 72 = Xi T5 904 72 from w159.x _ _ rfl).trans ( (show Xi T5 904 72 = Xi T4 904 72 from w93.x _ _ rfl).trans ( (show Xi T4 904 72 = Xi U3 904 72 from w68.x _ _ rfl).trans ((show Xi U3 904 72 = Xi S 904 72 from by rw [eU3]; exact Xi_ne (by omega)))))))
            have w202 : Xi U15 904 76 = Xi S 904 76 := (show Xi U15 904 76 = Xi T14 904 76 from by rw [eU15]; exact Xi_ne (by omega)).trans ( (show Xi T14 904 76 = Xi T11 904 76 from w191.x _ _ rfl).trans ( (show Xi T11 904 76 = Xi T5 904 76 from w159.x _ _ rfl).trans ( (show Xi T5 904 76 = Xi T4 904 76 from w93.x _ _ rfl).trans ( (show Xi T4 904 76 = Xi U3 904 76 from w68.x _ _ rfl).trans ((show Xi U3 904 76 = Xi S 904 76 from by rw [eU3]; exact Xi_ne (by omega)))))))
            have w203 : Xi U15 904 78 = Xi S 904 78 := (show Xi U15 904 78 = Xi T14 904 78 from by rw [eU15]; exact Xi_ne (by omega)).trans ( (show Xi T14 904 78 = Xi T11 904 78 from w191.x _ _ rfl).trans ( (show Xi T11 904 78 = Xi T5 904 78 from w159.x _ _ rfl).trans ( (show Xi T5 904 78 = Xi T4 904 78 from w93.x _ _ rfl).trans ( (show Xi T4 904 78 = Xi U3 904 78 from w68.x _ _ rfl).trans ((show Xi U3 904 78 = Xi S 904 78 from by rw [eU3]; exact Xi_ne (by omega)))))))
            exact ⟨hHU15, hFU15, rfl, (by first | (have t := K121; exact rau_1 hz0 k59 n29.o n54.o n91 n109 (fun q => by omega) (fun q => by omega) (fun q => by omega) (fun q => by omega) hq2.o a121 (by omega)) | exact rau_0 hz0 (by omega) n29.o n54.o hq1.o (by omega))⟩
    · refine y_aload_n rfl rfl ?_
      refine y_iconst rfl ?_
      refine y_aload_n rfl rfl ?_
      refine y_gfr rfl rfl rfl rfl rfl (hHT4.r 904 67 950 rfl) ?_
      refine y_iload_n rfl rfl ?_
      refine y_iconst rfl ?_
      refine y_iadd rfl ?_
      refine y_ialoadP (n := 2600) rfl rfl (by unfold rg; omega) (fun w204 w205 => ?_)
      have w206 : -2147483648 ≤ (Xi T4 950 ((((Xi S 904 71) + 1)).toNat)) ∧ (Xi T4 950 ((((Xi S 904 71) + 1)).toNat)) ≤ 2147483647 := Xi_rgI
      have w207 : Xi T4 904 142 = Xi U3 904 142 := (show Xi T4 904 142 = Xi U3 904 142 from w68.x _ _ rfl)
      have w208 : Xi T4 904 15 = Xi S 904 15 := (show Xi T4 904 15 = Xi U3 904 15 from w68.x _ _ rfl).trans ((show Xi U3 904 15 = Xi S 904 15 from by rw [eU3]; exact Xi_ne (by omega)))
      have w209 : Xi T4 904 32 = Xi S 904 32 := (show Xi T4 904 32 = Xi U3 904 32 from w68.x _ _ rfl).trans ((show Xi U3 904 32 = Xi S 904 32 from by rw [eU3]; exact Xi_ne (by omega)))
      have w210 : Xi T4 904 71 = Xi S 904 71 := (show Xi T4 904 71 = Xi U3 904 71 from w68.x _ _ rfl).trans ((show Xi U3 904 71 = Xi S 904 71 from by rw [eU3]; exact Xi_ne (by omega)))
      have w211 : Xi T4 904 72 = Xi S 904 72 := (show Xi T4 904 72 = Xi U3 904 72 from w68.x _ _ rfl).trans ((show Xi U3 904 72 = Xi S 904 72 from by rw [eU3]; exact Xi_ne (by omega)))
      have w212 : Xi T4 904 76 = Xi S 904 76 := (show Xi T4 904 76 = Xi U3 904 76 from w68.x _ _ rfl).trans ((show Xi U3 904 76 = Xi S 904 76 from by rw [eU3]; exact Xi_ne (by omega)))
      have w213 : Xi T4 904 78 = Xi S 904 78 := (show Xi T4 904 78 = Xi U3 904 78 from w68.x _ _ rfl).trans ((show Xi U3 904 78 = Xi S 904 78 from by rw [eU3]; exact Xi_ne (by omega)))
      refine y_callV rfl rfl rfl (t_mo_note__p hHT4 4 (Xi T4 950 ((((Xi S 904 71) + 1)).toNat)) ⟨by omega, by omega⟩ ⟨by omega, by omega⟩ _) ?_
      rintro _ T16 ⟨hHT16, w215, rfl, nt51⟩
      have hFT16 : FR md_mo_askFifteen__1 S T16 := FR.tr hFT4 w215 rfl
      show Pl _ _ _ _ _ _ [] _ _
      have K51 : True := trivial
      refine y_iload_n rfl rfl ?_
      have n54 : Hid (NT3 T16 = if 1 < Xi S 904 72 then ntF (NT3 T4) 4 (pR S (Xi S 904 71 + 1)) else NT3 T4) := by first | (have t := K51; have t := nt51; rw [if_pos (by omega)]; rw [(SMR_FR hFT4 rfl rfl).2.1 908 _ (by omega), (SMR_FR hFT4 rfl rfl).2.1 950 _ (by omega)] at t; exact t) | (unfold Hid; rw [if_neg (by omega)])
      refine y_iconst rfl ?_
      refine y_icmp_eq rfl rfl (by unfold rg; omega) (by unfold rg; omega) (fun w216 => ?_) (fun w217 => ?_)
      · refine y_return rfl rfl ?_
        have w218 : Xi T16 904 142 = Xi U3 904 142 := (show Xi T16 904 142 = Xi T4 904 142 from w215.x _ _ rfl).trans ((show Xi T4 904 142 = Xi U3 904 142 from w68.x _ _ rfl))
        have w219 : Xi T16 904 15 = Xi S 904 15 := (show Xi T16 904 15 = Xi T4 904 15 from w215.x _ _ rfl).trans ( (show Xi T4 904 15 = Xi U3 904 15 from w68.x _ _ rfl).trans ((show Xi U3 904 15 = Xi S 904 15 from by rw [eU3]; exact Xi_ne (by omega))))
        have w220 : Xi T16 904 32 = Xi S 904 32 := (show Xi T16 904 32 = Xi T4 904 32 from w215.x _ _ rfl).trans ( (show Xi T4 904 32 = Xi U3 904 32 from w68.x _ _ rfl).trans ((show Xi U3 904 32 = Xi S 904 32 from by rw [eU3]; exact Xi_ne (by omega))))
        have w221 : Xi T16 904 71 = Xi S 904 71 := (show Xi T16 904 71 = Xi T4 904 71 from w215.x _ _ rfl).trans ( (show Xi T4 904 71 = Xi U3 904 71 from w68.x _ _ rfl).trans ((show Xi U3 904 71 = Xi S 904 71 from by rw [eU3]; exact Xi_ne (by omega))))
        have w222 : Xi T16 904 72 = Xi S 904 72 := (show Xi T16 904 72 = Xi T4 904 72 from w215.x _ _ rfl).trans ( (show Xi T4 904 72 = Xi U3 904 72 from w68.x _ _ rfl).trans ((show Xi U3 904 72 = Xi S 904 72 from by rw [eU3]; exact Xi_ne (by omega))))
        have w223 : Xi T16 904 76 = Xi S 904 76 := (show Xi T16 904 76 = Xi T4 904 76 from w215.x _ _ rfl).trans ( (show Xi T4 904 76 = Xi U3 904 76 from w68.x _ _ rfl).trans ((show Xi U3 904 76 = Xi S 904 76 from by rw [eU3]; exact Xi_ne (by omega))))
        have w224 : Xi T16 904 78 = Xi S 904 78 := (show Xi T16 904 78 = Xi T4 904 78 from w215.x _ _ rfl).trans ( (show Xi T4 904 78 = Xi U3 904 78 from w68.x _ _ rfl).trans ((show Xi U3 904 78 = Xi S 904 78 from by rw [eU3]; exact Xi_ne (by omega))))
        exact ⟨hHT16, hFT16, rfl, (by first | (have t := K121; exact rau_1 hz0 k59 n29.o n54.o n91 n109 (fun q => by omega) (fun q => by omega) (fun q => by omega) (fun q => by omega) hq2.o a121 (by omega)) | exact rau_0 hz0 (by omega) n29.o n54.o hq1.o (by omega))⟩
      · refine y_aload_n rfl rfl ?_
        have k59 : kU5 S ≠ -1 := by omega
        refine y_iload_n rfl rfl ?_
        refine y_aload_n rfl rfl ?_
        refine y_gfr rfl rfl rfl rfl rfl (hHT16.r 904 68 951 rfl) ?_
        refine y_aload_n rfl rfl ?_
        refine y_gfi rfl rfl rfl rfl rfl ?_
        have w225 : (Xi T16 904 78) = (Xi S 904 78) := (show Xi T16 904 78 = Xi T4 904 78 from w215.x _ _ rfl).trans ( (show Xi T4 904 78 = Xi U3 904 78 from w68.x _ _ rfl).trans ((show Xi U3 904 78 = Xi S 904 78 from by rw [eU3]; exact Xi_ne (by omega))))
        rw [w225]
        refine y_ialoadP (n := 2600) rfl rfl (by unfold rg; omega) (fun w226 w227 => ?_)
        have w228 : -2147483648 ≤ (Xi T16 951 (((Xi S 904 78)).toNat)) ∧ (Xi T16 951 (((Xi S 904 78)).toNat)) ≤ 2147483647 := Xi_rgI
        have e69 : (Xi T16 951 (((Xi S 904 78)).toNat)) = nW S := by unfold nW; rw [(SMR_FR hFT16 rfl rfl).2.1 951 _ (by omega)]
        refine y_iload_n rfl rfl ?_
        refine y_iconst rfl ?_
        refine y_iconst rfl ?_
        have w229 : Xi T16 904 142 = Xi U3 904 142 := (show Xi T16 904 142 = Xi T4 904 142 from w215.x _ _ rfl).trans ((show Xi T4 904 142 = Xi U3 904 142 from w68.x _ _ rfl))
        have w230 : Xi T16 904 15 = Xi S 904 15 := (show Xi T16 904 15 = Xi T4 904 15 from w215.x _ _ rfl).trans ( (show Xi T4 904 15 = Xi U3 904 15 from w68.x _ _ rfl).trans ((show Xi U3 904 15 = Xi S 904 15 from by rw [eU3]; exact Xi_ne (by omega))))
        have w231 : Xi T16 904 32 = Xi S 904 32 := (show Xi T16 904 32 = Xi T4 904 32 from w215.x _ _ rfl).trans ( (show Xi T4 904 32 = Xi U3 904 32 from w68.x _ _ rfl).trans ((show Xi U3 904 32 = Xi S 904 32 from by rw [eU3]; exact Xi_ne (by omega))))
        have w232 : Xi T16 904 71 = Xi S 904 71 := (show Xi T16 904 71 = Xi T4 904 71 from w215.x _ _ rfl).trans ( (show Xi T4 904 71 = Xi U3 904 71 from w68.x _ _ rfl).trans ((show Xi U3 904 71 = Xi S 904 71 from by rw [eU3]; exact Xi_ne (by omega))))
        have w233 : Xi T16 904 72 = Xi S 904 72 := (show Xi T16 904 72 = Xi T4 904 72 from w215.x _ _ rfl).trans ( (show Xi T4 904 72 = Xi U3 904 72 from w68.x _ _ rfl).trans ((show Xi U3 904 72 = Xi S 904 72 from by rw [eU3]; exact Xi_ne (by omega))))
        have w234 : Xi T16 904 76 = Xi S 904 76 := (show Xi T16 904 76 = Xi T4 904 76 from w215.x _ _ rfl).trans ( (show Xi T4 904 76 = Xi U3 904 76 from w68.x _ _ rfl).trans ((show Xi U3 904 76 = Xi S 904 76 from by rw [eU3]; exact Xi_ne (by omega))))
        have w235 : Xi T16 904 78 = Xi S 904 78 := (show Xi T16 904 78 = Xi T4 904 78 from w215.x _ _ rfl).trans ( (show Xi T4 904 78 = Xi U3 904 78 from w68.x _ _ rfl).trans ((show Xi U3 904 78 = Xi S 904 78 from by rw [eU3]; exact Xi_ne (by omega))))
        refine y_callV rfl rfl rfl (t_mo_adjective__p hHT16 (Xi S 950 (((Xi S 904 78)).toNat)) (Xi T16 951 (((Xi S 904 78)).toNat)) z67 0 1 ⟨by omega, by omega⟩ ⟨by omega, by omega⟩ ⟨by omega, by omega⟩ ⟨by omega, by omega⟩ ⟨by omega, by omega⟩ (by first | assumption | exact (LSP_FR hFT16 rfl rfl (by assumption : LSP S))) (by first | assumption | omega) (by first | assumption | exact (LXR_FR hFT16 rfl rfl (by assumption : LXR S))) (by first | assumption | exact (ABV_FR hFT16 rfl (by assumption : ABV S))) (by first | assumption | omega) _) ?_
        rintro _ T17 ⟨hHT17, w237, z236, rfl, w236, f73, g73⟩
        have hFT17 : FR md_mo_askFifteen__1 S T17 := FR.tr hFT16 w237 rfl
        show Pl _ _ _ _ _ _ [iv z236] _ _
        have c73 : z236 = cU5 S := by have t := f73; rw [adR_am (AMR_FR hFT16 rfl rfl), e69, k29] at t; exact t
        have a73 : Xi T17 904 113 = acR S (fW S) (nW S) (kU5 S) 0 1 := by have t := g73; rw [acR_am (AMR_FR hFT16 rfl rfl), e69, k29] at t; exact t
        clear f73 g73
        have F73 := (by assumption : FR md_mo_adjective__p T16 T17)
        have t73 : NT3 T17 = NT3 T16 := by unfold NT3; rw [F73.x 904 106 rfl, F73.x 904 105 rfl, F73.x 904 104 rfl]
        refine y_istore rfl rfl rfl ?_
        refine y_aload_n rfl rfl ?_
        refine y_iload rfl rfl ?_
        refine y_if_le rfl rfl (by unfold rg; omega) (fun w238 => ?_) (fun w239 => ?_)
        · refine y_iconst rfl ?_
          refine y_iconst rfl ?_
          refine y_iload_n rfl rfl ?_
          have w240 : Xi T17 904 106 = Xi T16 904 106 := (show Xi T17 904 106 = Xi T16 904 106 from w237.x _ _ rfl)
          have w241 : Xi T17 904 142 = Xi U3 904 142 := (show Xi T17 904 142 = Xi T16 904 142 from w237.x _ _ rfl).trans ( (show Xi T16 904 142 = Xi T4 904 142 from w215.x _ _ rfl).trans ((show Xi T4 904 142 = Xi U3 904 142 from w68.x _ _ rfl)))
          have w242 : Xi T17 904 15 = Xi S 904 15 := (show Xi T17 904 15 = Xi T16 904 15 from w237.x _ _ rfl).trans ( (show Xi T16 904 15 = Xi T4 904 15 from w215.x _ _ rfl).trans ( (show Xi T4 904 15 = Xi U3 904 15 from w68.x _ _ rfl).trans ((show Xi U3 904 15 = Xi S 904 15 from by rw [eU3]; exact Xi_ne (by omega)))))
          have w243 : Xi T17 904 32 = Xi S 904 32 := (show Xi T17 904 32 = Xi T16 904 32 from w237.x _ _ rfl).trans ( (show Xi T16 904 32 = Xi T4 904 32 from w215.x _ _ rfl).trans ( (show Xi T4 904 32 = Xi U3 904 32 from w68.x _ _ rfl).trans ((show Xi U3 904 32 = Xi S 904 32 from by rw [eU3]; exact Xi_ne (by omega)))))
          have w244 : Xi T17 904 71 = Xi S 904 71 := (show Xi T17 904 71 = Xi T16 904 71 from w237.x _ _ rfl).trans ( (show Xi T16 904 71 = Xi T4 904 71 from w215.x _ _ rfl).trans ( (show Xi T4 904 71 = Xi U3 904 71 from w68.x _ _ rfl).trans ((show Xi U3 904 71 = Xi S 904 71 from by rw [eU3]; exact Xi_ne (by omega)))))
          have w245 : Xi T17 904 72 = Xi S 904 72 := (show Xi T17 904 72 = Xi T16 904 72 from w237.x _ _ rfl).trans ( (show Xi T16 904 72 = Xi T4 904 72 from w215.x _ _ rfl).trans ( (show Xi T4 904 72 = Xi U3 904 72 from w68.x _ _ rfl).trans ((show Xi U3 904 72 = Xi S 904 72 from by rw [eU3]; exact Xi_ne (by omega)))))
          have w246 : Xi T17 904 76 = Xi S 904 76 := (show Xi T17 904 76 = Xi T16 904 76 from w237.x _ _ rfl).trans ( (show Xi T16 904 76 = Xi T4 904 76 from w215.x _ _ rfl).trans ( (show Xi T4 904 76 = Xi U3 904 76 from w68.x _ _ rfl).trans ((show Xi U3 904 76 = Xi S 904 76 from by rw [eU3]; exact Xi_ne (by omega)))))
          have w247 : Xi T17 904 78 = Xi S 904 78 := (show Xi T17 904 78 = Xi T16 904 78 from w237.x _ _ rfl).trans ( (show Xi T16 904 78 = Xi T4 904 78 from w215.x _ _ rfl).trans ( (show Xi T4 904 78 = Xi U3 904 78 from w68.x _ _ rfl).trans ((show Xi U3 904 78 = Xi S 904 78 from by rw [eU3]; exact Xi_ne (by omega)))))
          refine y_callV rfl rfl rfl (t_mo_need__p hHT17 0 4 (Xi S 950 (((Xi S 904 78)).toNat)) ⟨by omega, by omega⟩ ⟨by omega, by omega⟩ ⟨by omega, by omega⟩ _) ?_
          rintro _ T18 ⟨hHT18, w249, rfl, nt91⟩
          have hFT18 : FR md_mo_askFifteen__1 S T18 := FR.tr hFT17 w249 rfl
          show Pl _ _ _ _ _ _ [] _ _
          have n91 := nt91
          rw [t73, (SMR_FR hFT17 rfl rfl).2.1 908 _ (by omega)] at n91
          have a91 : Xi T18 904 113 = acR S (fW S) (nW S) (kU5 S) 0 1 := ((by assumption : FR md_mo_need__p T17 T18).x 904 113 rfl).trans a73
          refine y_aload_n rfl rfl ?_
          refine y_iload rfl rfl ?_
          refine y_iconst rfl ?_
          refine y_icmp_ge rfl rfl (by unfold rg; omega) (by unfold rg; omega) (fun w250 => ?_) (fun w251 => ?_)
          · refine y_iconst rfl ?_
            refine y_bipush rfl rfl ?_
            refine y_iload_n rfl rfl ?_
            have w252 : Xi T18 904 142 = Xi U3 904 142 := (show Xi T18 904 142 = Xi T17 904 142 from w249.x _ _ rfl).trans ( (show Xi T17 904 142 = Xi T16 904 142 from w237.x _ _ rfl).trans ( (show Xi T16 904 142 = Xi T4 904 142 from w215.x _ _ rfl).trans ((show Xi T4 904 142 = Xi U3 904 142 from w68.x _ _ rfl))))
            have w253 : Xi T18 904 15 = Xi S 904 15 := (show Xi T18 904 15 = Xi T17 904 15 from w249.x _ _ rfl).trans ( (show Xi T17 904 15 = Xi T16 904 15 from w237.x _ _ rfl).trans ( (show Xi T16 904 15 = Xi T4 904 15 from w215.x _ _ rfl).trans ( (show Xi T4 904 15 = Xi U3 904 15 from w68.x _ _ rfl).trans ((show Xi U3 904 15 = Xi S 904 15 from by rw [eU3]; exact Xi_ne (by omega))))))
            have w254 : Xi T18 904 32 = Xi S 904 32 := (show Xi T18 904 32 = Xi T17 904 32 from w249.x _ _ rfl).trans ( (show Xi T17 904 32 = Xi T16 904 32 from w237.x _ _ rfl).trans ( (show Xi T16 904 32 = Xi T4 904 32 from w215.x _ _ rfl).trans ( (show Xi T4 904 32 = Xi U3 904 32 from w68.x _ _ rfl).trans ((show Xi U3 904 32 = Xi S 904 32 from by rw [eU3]; exact Xi_ne (by omega))))))
            have w255 : Xi T18 904 71 = Xi S 904 71 := (show Xi T18 904 71 = Xi T17 904 71 from w249.x _ _ rfl).trans ( (show Xi T17 904 71 = Xi T16 904 71 from w237.x _ _ rfl).trans ( (show Xi T16 904 71 = Xi T4 904 71 from w215.x _ _ rfl).trans ( (show Xi T4 904 71 = Xi U3 904 71 from w68.x _ _ rfl).trans ((show Xi U3 904 71 = Xi S 904 71 from by rw [eU3]; exact Xi_ne (by omega))))))
            have w256 : Xi T18 904 72 = Xi S 904 72 := (show Xi T18 904 72 = Xi T17 904 72 from w249.x _ _ rfl).trans ( (show Xi T17 904 72 = Xi T16 904 72 from w237.x _ _ rfl).trans ( (show Xi T16 904 72 = Xi T4 904 72 from w215.x _ _ rfl).trans ( (show Xi T4 904 72 = Xi U3 904 72 from w68.x _ _ rfl).trans ((show Xi U3 904 72 = Xi S 904 72 from by rw [eU3]; exact Xi_ne (by omega))))))
            have w257 : Xi T18 904 76 = Xi S 904 76 := (show Xi T18 904 76 = Xi T17 904 76 from w249.x _ _ rfl).trans ( (show Xi T17 904 76 = Xi T16 904 76 from w237.x _ _ rfl).trans ( (show Xi T16 904 76 = Xi T4 904 76 from w215.x _ _ rfl).trans ( (show Xi T4 904 76 = Xi U3 904 76 from w68.x _ _ rfl).trans ((show Xi U3 904 76 = Xi S 904 76 from by rw [eU3]; exact Xi_ne (by omega))))))
            have w258 : Xi T18 904 78 = Xi S 904 78 := (show Xi T18 904 78 = Xi T17 904 78 from w249.x _ _ rfl).trans ( (show Xi T17 904 78 = Xi T16 904 78 from w237.x _ _ rfl).trans ( (show Xi T16 904 78 = Xi T4 904 78 from w215.x _ _ rfl).trans ( (show Xi T4 904 78 = Xi U3 904 78 from w68.x _ _ rfl).trans ((show Xi U3 904 78 = Xi S 904 78 from by rw [eU3]; exact Xi_ne (by omega))))))
            refine y_callV rfl rfl rfl (t_mo_need__p hHT18 0 7 (Xi S 950 (((Xi S 904 78)).toNat)) ⟨by omega, by omega⟩ ⟨by omega, by omega⟩ ⟨by omega, by omega⟩ _) ?_
            rintro _ T19 ⟨hHT19, w260, rfl, nt109⟩
            have hFT19 : FR md_mo_askFifteen__1 S T19 := FR.tr hFT18 w260 rfl
            show Pl _ _ _ _ _ _ [] _ _
            have n109_ := nt109
            rw [(SMR_FR hFT18 rfl rfl).2.1 908 _ (by omega)] at n109_
            have a109 : Xi T19 904 113 = acR S (fW S) (nW S) (kU5 S) 0 1 := ((by assumption : FR md_mo_need__p T18 T19).x 904 113 rfl).trans a91
            refine y_aload_n rfl rfl ?_
            refine y_gfr rfl rfl rfl rfl rfl (hHT19.r 904 111 967 rfl) ?_
            refine y_iconst rfl ?_
            refine y_aload_n rfl rfl ?_
            refine y_gfi rfl rfl rfl rfl rfl ?_
            have w261 : -2147483648 ≤ (Xi T19 904 113) ∧ (Xi T19 904 113) ≤ 2147483647 := Xi_rgI
            refine y_iastoreP (n := 6) rfl rfl (by unfold rg; omega) (fun w262 w263 => ?_)
            obtain ⟨U20, eU20⟩ : ∃ T : sS, T = uI T19 967 ((0 : Int).toNat) (Int32.ofInt (Xi T19 904 113)) := ⟨_, rfl⟩
            rw [← eU20]
            have hHU20 : RI U20 := by rw [eU20]; exact RI_w hHT19
            have hFU20 : FR md_mo_askFifteen__1 S U20 := by rw [eU20]; exact FR.wI hFT19 (mdf_i (r := (967, 968, 0, 100000)) (List.mem_of_getElem? (i := 11) rfl) (inR_i (by omega) (by omega) (by omega) (by omega)))
            have w264 : Xi U20 967 ((0 : Int).toNat) = (Xi T19 904 113) := by rw [eU20]; exact Xi_same (by unfold rg; omega)
            have K121 : True := trivial
            have a121 : Xi U20 967 0 = acR S (fW S) (nW S) (kU5 S) 0 1 := by rw [← a109, eU20]; exact Xi_same (by unfold rg; omega)
            have n109 := (show NT3 U20 = NT3 T19 by unfold NT3; rw [eU20]; repeat rw [Xi_ne (by omega)]).trans n109_
            refine y_return rfl rfl ?_
            have w265 : Xi U20 904 106 = Xi T19 904 106 := (show Xi U20 904 106 = Xi T19 904 106 from by rw [eU20]; exact Xi_ne (by omega))
            have w266 : Xi U20 904 142 = Xi U3 904 142 := (show Xi U20 904 142 = Xi T19 904 142 from by rw [eU20]; exact Xi_ne (by omega)).trans ( (show Xi T19 904 142 = Xi T18 904 142 from w260.x _ _ rfl).trans ( (show Xi T18 904 142 = Xi T17 904 142 from w249.x _ _ rfl).trans ( (show Xi T17 904 142 = Xi T16 904 142 from w237.x _ _ rfl).trans ( (show Xi T16 904 142 = Xi T4 904 142 from w215.x _ _ rfl).trans ((show Xi T4 904 142 = Xi U3 904 142 from w68.x _ _ rfl))))))
            have w267 : Xi U20 904 15 = Xi S 904 15 := (show Xi U20 904 15 = Xi T19 904 15 from by rw [eU20]; exact Xi_ne (by omega)).trans ( (show Xi T19 904 15 = Xi T18 904 15 from w260.x _ _ rfl).trans ( (show Xi T18 904 15 = Xi T17 904 15 from w249.x _ _ rfl).trans ( (show Xi T17 904 15 = Xi T16 904 15 from w237.x _ _ rfl).trans ( (show Xi T16 904 15 = Xi T4 904 15 from w215.x _ _ rfl).trans ( (show Xi T4 904 15 = Xi U3 904 15 from w68.x _ _ rfl).trans ((show Xi U3 904 15 = Xi S 904 15 from by rw [eU3]; exact Xi_ne (by omega))))))))
            have w268 : Xi U20 904 32 = Xi S 904 32 := (show Xi U20 904 32 = Xi T19 904 32 from by rw [eU20]; exact Xi_ne (by omega)).trans ( (show Xi T19 904 32 = Xi T18 904 32 from w260.x _ _ rfl).trans ( (show Xi T18 904 32 = Xi T17 904 32 from w249.x _ _ rfl).trans ( (show Xi T17 904 32 = Xi T16 904 32 from w237.x _ _ rfl).trans ( (show Xi T16 904 32 = Xi T4 904 32 from w215.x _ _ rfl).trans ( (show Xi T4 904 32 = Xi U3 904 32 from w68.x _ _ rfl).trans ((show Xi U3 904 32 = Xi S 904 32 from by rw [eU3]; exact Xi_ne (by omega))))))))
            have w269 : Xi U20 904 71 = Xi S 904 71 := (show Xi U20 904 71 = Xi T19 904 71 from by rw [eU20]; exact Xi_ne (by omega)).trans ( (show Xi T19 904 71 = Xi T18 904 71 from w260.x _ _ rfl).trans ( (show Xi T18 904 71 = Xi T17 904 71 from w249.x _ _ rfl).trans ( (show Xi T17 904 71 = Xi T16 904 71 from w237.x _ _ rfl).trans ( (show Xi T16 904 71 = Xi T4 904 71 from w215.x _ _ rfl).trans ( (show Xi T4 904 71 = Xi U3 904 71 from w68.x _ _ rfl).trans ((show Xi U3 904 71 = Xi S 904 71 from by rw [eU3]; exact Xi_ne (by omega))))))))
            have w270 : Xi U20 904 72 = Xi S 904 72 := (show Xi U20 904 72 = Xi T19 904 72 from by rw [eU20]; exact Xi_ne (by omega)).trans ( (show Xi T19 904 72 = Xi T18 904 72 from w260.x _ _ rfl).trans ( (show Xi T18 904 72 = Xi T17 904 72 from w249.x _ _ rfl).trans ( (show Xi T17 904 72 = Xi T16 904 72 from w237.x _ _ rfl).trans ( (show Xi T16 904 72 = Xi T4 904 72 from w215.x _ _ rfl).trans ( (show Xi T4 904 72 = Xi U3 904 72 from w68.x _ _ rfl).trans ((show Xi U3 904 72 = Xi S 904 72 from by rw [eU3]; exact Xi_ne (by omega))))))))
            have w271 : Xi U20 904 76 = Xi S 904 76 := (show Xi U20 904 76 = Xi T19 904 76 from by rw [eU20]; exact Xi_ne (by omega)).trans ( (show Xi T19 904 76 = Xi T18 904 76 from w260.x _ _ rfl).trans ( (show Xi T18 904 76 = Xi T17 904 76 from w249.x _ _ rfl).trans ( (show Xi T17 904 76 = Xi T16 904 76 from w237.x _ _ rfl).trans ( (show Xi T16 904 76 = Xi T4 904 76 from w215.x _ _ rfl).trans ( (show Xi T4 904 76 = Xi U3 904 76 from w68.x _ _ rfl).trans ((show Xi U3 904 76 = Xi S 904 76 from by rw [eU3]; exact Xi_ne (by omega))))))))
            have w272 : Xi U20 904 78 = Xi S 904 78 := (show Xi U20 904 78 = Xi T19 904 78 from by rw [eU20]; exact Xi_ne (by omega)).trans ( (show Xi T19 904 78 = Xi T18 904 78 from w260.x _ _ rfl).trans ( (show Xi T18 904 78 = Xi T17 904 78 from w249.x _ _ rfl).trans ( (show Xi T17 904 78 = Xi T16 904 78 from w237.x _ _ rfl).trans ( (show Xi T16 904 78 = Xi T4 904 78 from w215.x _ _ rfl).trans ( (show Xi T4 904 78 = Xi U3 904 78 from w68.x _ _ rfl).trans ((show Xi U3 904 78 = Xi S 904 78 from by rw [eU3]; exact Xi_ne (by omega))))))))
            exact ⟨hHU20, hFU20, rfl, (by first | (have t := K121; exact rau_1 hz0 k59 n29.o n54.o n91 n109 (fun q => by omega) (fun q => by omega) (fun q => by omega) (fun q => by omega) hq2.o a121 (by omega)) | exact rau_0 hz0 (by omega) n29.o n54.o hq1.o (by omega))⟩
          · refine y_iconst rfl ?_
            refine y_goto rfl rfl ?_
            refine y_bipush rfl rfl ?_
            refine y_iload_n rfl rfl ?_
            have w273 : Xi T18 904 142 = Xi U3 904 142 := (show Xi T18 904 142 = Xi T17 904 142 from w249.x _ _ rfl).trans ( (show Xi T17 904 142 = Xi T16 904 142 from w237.x _ _ rfl).trans ( (show Xi T16 904 142 = Xi T4 904 142 from w215.x _ _ rfl).trans ((show Xi T4 904 142 = Xi U3 904 142 from w68.x _ _ rfl))))
            have w274 : Xi T18 904 15 = Xi S 904 15 := (show Xi T18 904 15 = Xi T17 904 15 from w249.x _ _ rfl).trans ( (show Xi T17 904 15 = Xi T16 904 15 from w237.x _ _ rfl).trans ( (show Xi T16 904 15 = Xi T4 904 15 from w215.x _ _ rfl).trans ( (show Xi T4 904 15 = Xi U3 904 15 from w68.x _ _ rfl).trans ((show Xi U3 904 15 = Xi S 904 15 from by rw [eU3]; exact Xi_ne (by omega))))))
            have w275 : Xi T18 904 32 = Xi S 904 32 := (show Xi T18 904 32 = Xi T17 904 32 from w249.x _ _ rfl).trans ( (show Xi T17 904 32 = Xi T16 904 32 from w237.x _ _ rfl).trans ( (show Xi T16 904 32 = Xi T4 904 32 from w215.x _ _ rfl).trans ( (show Xi T4 904 32 = Xi U3 904 32 from w68.x _ _ rfl).trans ((show Xi U3 904 32 = Xi S 904 32 from by rw [eU3]; exact Xi_ne (by omega))))))
            have w276 : Xi T18 904 71 = Xi S 904 71 := (show Xi T18 904 71 = Xi T17 904 71 from w249.x _ _ rfl).trans ( (show Xi T17 904 71 = Xi T16 904 71 from w237.x _ _ rfl).trans ( (show Xi T16 904 71 = Xi T4 904 71 from w215.x _ _ rfl).trans ( (show Xi T4 904 71 = Xi U3 904 71 from w68.x _ _ rfl).trans ((show Xi U3 904 71 = Xi S 904 71 from by rw [eU3]; exact Xi_ne (by omega))))))
            have w277 : Xi T18 904 72 = Xi S 904 72 := (show Xi T18 904 72 = Xi T17 904 72 from w249.x _ _ rfl).trans ( (show Xi T17 904 72 = Xi T16 904 72 from w237.x _ _ rfl).trans ( (show Xi T16 904 72 = Xi T4 904 72 from w215.x _ _ rfl).trans ( (show Xi T4 904 72 = Xi U3 904 72 from w68.x _ _ rfl).trans ((show Xi U3 904 72 = Xi S 904 72 from by rw [eU3]; exact Xi_ne (by omega))))))
            have w278 : Xi T18 904 76 = Xi S 904 76 := (show Xi T18 904 76 = Xi T17 904 76 from w249.x _ _ rfl).trans ( (show Xi T17 904 76 = Xi T16 904 76 from w237.x _ _ rfl).trans ( (show Xi T16 904 76 = Xi T4 904 76 from w215.x _ _ rfl).trans ( (show Xi T4 904 76 = Xi U3 904 76 from w68.x _ _ rfl).trans ((show Xi U3 904 76 = Xi S 904 76 from by rw [eU3]; exact Xi_ne (by omega))))))
            have w279 : Xi T18 904 78 = Xi S 904 78 := (show Xi T18 904 78 = Xi T17 904 78 from w249.x _ _ rfl).trans ( (show Xi T17 904 78 = Xi T16 904 78 from w237.x _ _ rfl).trans ( (show Xi T16 904 78 = Xi T4 904 78 from w215.x _ _ rfl).trans ( (show Xi T4 904 78 = Xi U3 904 78 from w68.x _ _ rfl).trans ((show Xi U3 904 78 = Xi S 904 78 from by rw [eU3]; exact Xi_ne (by omega))))))
            refine y_callV rfl rfl rfl (t_mo_need__p hHT18 1 7 (Xi S 950 (((Xi S 904 78)).toNat)) ⟨by omega, by omega⟩ ⟨by omega, by omega⟩ ⟨by omega, by omega⟩ _) ?_
            rintro _ T21 ⟨hHT21, w281, rfl, nt109⟩
            have hFT21 : FR md_mo_askFifteen__1 S T21 := FR.tr hFT18 w281 rfl
            show Pl _ _ _ _ _ _ [] _ _
            have n109_ := nt109
            rw [(SMR_FR hFT18 rfl rfl).2.1 908 _ (by omega)] at n109_
            have a109 : Xi T21 904 113 = acR S (fW S) (nW S) (kU5 S) 0 1 := ((by assumption : FR md_mo_need__p T18 T21).x 904 113 rfl).trans a91
            refine y_aload_n rfl rfl ?_
            refine y_gfr rfl rfl rfl rfl rfl (hHT21.r 904 111 967 rfl) ?_
            refine y_iconst rfl ?_
            refine y_aload_n rfl rfl ?_
            refine y_gfi rfl rfl rfl rfl rfl ?_
            have w282 : -2147483648 ≤ (Xi T21 904 113) ∧ (Xi T21 904 113) ≤ 2147483647 := Xi_rgI
            refine y_iastoreP (n := 6) rfl rfl (by unfold rg; omega) (fun w283 w284 => ?_)
            obtain ⟨U22, eU22⟩ : ∃ T : sS, T = uI T21 967 ((0 : Int).toNat) (Int32.ofInt (Xi T21 904 113)) := ⟨_, rfl⟩
            rw [← eU22]
            have hHU22 : RI U22 := by rw [eU22]; exact RI_w hHT21
            have hFU22 : FR md_mo_askFifteen__1 S U22 := by rw [eU22]; exact FR.wI hFT21 (mdf_i (r := (967, 968, 0, 100000)) (List.mem_of_getElem? (i := 11) rfl) (inR_i (by omega) (by omega) (by omega) (by omega)))
            have w285 : Xi U22 967 ((0 : Int).toNat) = (Xi T21 904 113) := by rw [eU22]; exact Xi_same (by unfold rg; omega)
            have K121 : True := trivial
            have a121 : Xi U22 967 0 = acR S (fW S) (nW S) (kU5 S) 0 1 := by rw [← a109, eU22]; exact Xi_same (by unfold rg; omega)
            have n109 := (show NT3 U22 = NT3 T21 by unfold NT3; rw [eU22]; repeat rw [Xi_ne (by omega)]).trans n109_
            refine y_return rfl rfl ?_
            have w286 : Xi U22 904 106 = Xi T21 904 106 := (show Xi U22 904 106 = Xi T21 904 106 from by rw [eU22]; exact Xi_ne (by omega))
            have w287 : Xi U22 904 142 = Xi U3 904 142 := (show Xi U22 904 142 = Xi T21 904 142 from by rw [eU22]; exact Xi_ne (by omega)).trans ( (show Xi T21 904 142 = Xi T18 904 142 from w281.x _ _ rfl).trans ( (show Xi T18 904 142 = Xi T17 904 142 from w249.x _ _ rfl).trans ( (show Xi T17 904 142 = Xi T16 904 142 from w237.x _ _ rfl).trans ( (show Xi T16 904 142 = Xi T4 904 142 from w215.x _ _ rfl).trans ((show Xi T4 904 142 = Xi U3 904 142 from w68.x _ _ rfl))))))
            have w288 : Xi U22 904 15 = Xi S 904 15 := (show Xi U22 904 15 = Xi T21 904 15 from by rw [eU22]; exact Xi_ne (by omega)).trans ( (show Xi T21 904 15 = Xi T18 904 15 from w281.x _ _ rfl).trans ( (show Xi T18 904 15 = Xi T17 904 15 from w249.x _ _ rfl).trans ( (show Xi T17 904 15 = Xi T16 904 15 from w237.x _ _ rfl).trans ( (show Xi T16 904 15 = Xi T4 904 15 from w215.x _ _ rfl).trans ( (show Xi T4 904 15 = Xi U3 904 15 from w68.x _ _ rfl).trans ((show Xi U3 904 15 = Xi S 904 15 from by rw [eU3]; exact Xi_ne (by omega))))))))
            have w289 : Xi U22 904 32 = Xi S 904 32 := (show Xi U22 904 32 = Xi T21 904 32 from by rw [eU22]; exact Xi_ne (by omega)).trans ( (show Xi T21 904 32 = Xi T18 904 32 from w281.x _ _ rfl).trans ( (show Xi T18 904 32 = Xi T17 904 32 from w249.x _ _ rfl).trans ( (show Xi T17 904 32 = Xi T16 904 32 from w237.x _ _ rfl).trans ( (show Xi T16 904 32 = Xi T4 904 32 from w215.x _ _ rfl).trans ( (show Xi T4 904 32 = Xi U3 904 32 from w68.x _ _ rfl).trans ((show Xi U3 904 32 = Xi S 904 32 from by rw [eU3]; exact Xi_ne (by omega))))))))
            have w290 : Xi U22 904 71 = Xi S 904 71 := (show Xi U22 904 71 = Xi T21 904 71 from by rw [eU22]; exact Xi_ne (by omega)).trans ( (show Xi T21 904 71 = Xi T18 904 71 from w281.x _ _ rfl).trans ( (show Xi T18 904 71 = Xi T17 904 71 from w249.x _ _ rfl).trans ( (show Xi T17 904 71 = Xi T16 904 71 from w237.x _ _ rfl).trans ( (show Xi T16 904 71 = Xi T4 904 71 from w215.x _ _ rfl).trans ( (show Xi T4 904 71 = Xi U3 904 71 from w68.x _ _ rfl).trans ((show Xi U3 904 71 = Xi S 904 71 from by rw [eU3]; exact Xi_ne (by omega))))))))
            have w291 : Xi U22 904 72 = Xi S 904 72 := (show Xi U22 904 72 = Xi T21 904 72 from by rw [eU22]; exact Xi_ne (by omega)).trans ( (show Xi T21 904 72 = Xi T18 904 72 from w281.x _ _ rfl).trans ( (show Xi T18 904 72 = Xi T17 904 72 from w249.x _ _ rfl).trans ( (show Xi T17 904 72 = Xi T16 904 72 from w237.x _ _ rfl).trans ( (show Xi T16 904 72 = Xi T4 904 72 from w215.x _ _ rfl).trans ( (show Xi T4 904 72 = Xi U3 904 72 from w68.x _ _ rfl).trans ((show Xi U3 904 72 = Xi S 904 72 from by rw [eU3]; exact Xi_ne (by omega))))))))
            have w292 : Xi U22 904 76 = Xi S 904 76 := (show Xi U22 904 76 = Xi T21 904 76 from by rw [eU22]; exact Xi_ne (by omega)).trans ( (show Xi T21 904 76 = Xi T18 904 76 from w281.x _ _ rfl).trans ( (show Xi T18 904 76 = Xi T17 904 76 from w249.x _ _ rfl).trans ( (show Xi T17 904 76 = Xi T16 904 76 from w237.x _ _ rfl).trans ( (show Xi T16 904 76 = Xi T4 904 76 from w215.x _ _ rfl).trans ( (show Xi T4 904 76 = Xi U3 904 76 from w68.x _ _ rfl).trans ((show Xi U3 904 76 = Xi S 904 76 from by rw [eU3]; exact Xi_ne (by omega))))))))
            have w293 : Xi U22 904 78 = Xi S 904 78 := (show Xi U22 904 78 = Xi T21 904 78 from by rw [eU22]; exact Xi_ne (by omega)).trans ( (show Xi T21 904 78 = Xi T18 904 78 from w281.x _ _ rfl).trans ( (show Xi T18 904 78 = Xi T17 904 78 from w249.x _ _ rfl).trans ( (show Xi T17 904 78 = Xi T16 904 78 from w237.x _ _ rfl).trans ( (show Xi T16 904 78 = Xi T4 904 78 from w215.x _ _ rfl).trans ( (show Xi T4 904 78 = Xi U3 904 78 from w68.x _ _ rfl).trans ((show Xi U3 904 78 = Xi S 904 78 from by rw [eU3]; exact Xi_ne (by omega))))))))
            exact ⟨hHU22, hFU22, rfl, (by first | (have t := K121; exact rau_1 hz0 k59 n29.o n54.o n91 n109 (fun q => by omega) (fun q => by omega) (fun q => by omega) (fun q => by omega) hq2.o a121 (by omega)) | exact rau_0 hz0 (by omega) n29.o n54.o hq1.o (by omega))⟩
        · refine y_iconst rfl ?_
          refine y_goto rfl rfl ?_
          refine y_iconst rfl ?_
          refine y_iload_n rfl rfl ?_
          have w294 : Xi T17 904 106 = Xi T16 904 106 := (show Xi T17 904 106 = Xi T16 904 106 from w237.x _ _ rfl)
          have w295 : Xi T17 904 142 = Xi U3 904 142 := (show Xi T17 904 142 = Xi T16 904 142 from w237.x _ _ rfl).trans ( (show Xi T16 904 142 = Xi T4 904 142 from w215.x _ _ rfl).trans ((show Xi T4 904 142 = Xi U3 904 142 from w68.x _ _ rfl)))
          have w296 : Xi T17 904 15 = Xi S 904 15 := (show Xi T17 904 15 = Xi T16 904 15 from w237.x _ _ rfl).trans ( (show Xi T16 904 15 = Xi T4 904 15 from w215.x _ _ rfl).trans ( (show Xi T4 904 15 = Xi U3 904 15 from w68.x _ _ rfl).trans ((show Xi U3 904 15 = Xi S 904 15 from by rw [eU3]; exact Xi_ne (by omega)))))
          have w297 : Xi T17 904 32 = Xi S 904 32 := (show Xi T17 904 32 = Xi T16 904 32 from w237.x _ _ rfl).trans ( (show Xi T16 904 32 = Xi T4 904 32 from w215.x _ _ rfl).trans ( (show Xi T4 904 32 = Xi U3 904 32 from w68.x _ _ rfl).trans ((show Xi U3 904 32 = Xi S 904 32 from by rw [eU3]; exact Xi_ne (by omega)))))
          have w298 : Xi T17 904 71 = Xi S 904 71 := (show Xi T17 904 71 = Xi T16 904 71 from w237.x _ _ rfl).trans ( (show Xi T16 904 71 = Xi T4 904 71 from w215.x _ _ rfl).trans ( (show Xi T4 904 71 = Xi U3 904 71 from w68.x _ _ rfl).trans ((show Xi U3 904 71 = Xi S 904 71 from by rw [eU3]; exact Xi_ne (by omega)))))
          have w299 : Xi T17 904 72 = Xi S 904 72 := (show Xi T17 904 72 = Xi T16 904 72 from w237.x _ _ rfl).trans ( (show Xi T16 904 72 = Xi T4 904 72 from w215.x _ _ rfl).trans ( (show Xi T4 904 72 = Xi U3 904 72 from w68.x _ _ rfl).trans ((show Xi U3 904 72 = Xi S 904 72 from by rw [eU3]; exact Xi_ne (by omega)))))
          have w300 : Xi T17 904 76 = Xi S 904 76 := (show Xi T17 904 76 = Xi T16 904 76 from w237.x _ _ rfl).trans ( (show Xi T16 904 76 = Xi T4 904 76 from w215.x _ _ rfl).trans ( (show Xi T4 904 76 = Xi U3 904 76 from w68.x _ _ rfl).trans ((show Xi U3 904 76 = Xi S 904 76 from by rw [eU3]; exact Xi_ne (by omega)))))
          have w301 : Xi T17 904 78 = Xi S 904 78 := (show Xi T17 904 78 = Xi T16 904 78 from w237.x _ _ rfl).trans ( (show Xi T16 904 78 = Xi T4 904 78 from w215.x _ _ rfl).trans ( (show Xi T4 904 78 = Xi U3 904 78 from w68.x _ _ rfl).trans ((show Xi U3 904 78 = Xi S 904 78 from by rw [eU3]; exact Xi_ne (by omega)))))
          refine y_callV rfl rfl rfl (t_mo_need__p hHT17 1 4 (Xi S 950 (((Xi S 904 78)).toNat)) ⟨by omega, by omega⟩ ⟨by omega, by omega⟩ ⟨by omega, by omega⟩ _) ?_
          rintro _ T23 ⟨hHT23, w303, rfl, nt91⟩
          have hFT23 : FR md_mo_askFifteen__1 S T23 := FR.tr hFT17 w303 rfl
          show Pl _ _ _ _ _ _ [] _ _
          have n91 := nt91
          rw [t73, (SMR_FR hFT17 rfl rfl).2.1 908 _ (by omega)] at n91
          have a91 : Xi T23 904 113 = acR S (fW S) (nW S) (kU5 S) 0 1 := ((by assumption : FR md_mo_need__p T17 T23).x 904 113 rfl).trans a73
          refine y_aload_n rfl rfl ?_
          refine y_iload rfl rfl ?_
          refine y_iconst rfl ?_
          refine y_icmp_ge rfl rfl (by unfold rg; omega) (by unfold rg; omega) (fun w304 => ?_) (fun w305 => ?_)
          · refine y_iconst rfl ?_
            refine y_bipush rfl rfl ?_
            refine y_iload_n rfl rfl ?_
            have w306 : Xi T23 904 142 = Xi U3 904 142 := (show Xi T23 904 142 = Xi T17 904 142 from w303.x _ _ rfl).trans ( (show Xi T17 904 142 = Xi T16 904 142 from w237.x _ _ rfl).trans ( (show Xi T16 904 142 = Xi T4 904 142 from w215.x _ _ rfl).trans ((show Xi T4 904 142 = Xi U3 904 142 from w68.x _ _ rfl))))
            have w307 : Xi T23 904 15 = Xi S 904 15 := (show Xi T23 904 15 = Xi T17 904 15 from w303.x _ _ rfl).trans ( (show Xi T17 904 15 = Xi T16 904 15 from w237.x _ _ rfl).trans ( (show Xi T16 904 15 = Xi T4 904 15 from w215.x _ _ rfl).trans ( (show Xi T4 904 15 = Xi U3 904 15 from w68.x _ _ rfl).trans ((show Xi U3 904 15 = Xi S 904 15 from by rw [eU3]; exact Xi_ne (by omega))))))
            have w308 : Xi T23 904 32 = Xi S 904 32 := (show Xi T23 904 32 = Xi T17 904 32 from w303.x _ _ rfl).trans ( (show Xi T17 904 32 = Xi T16 904 32 from w237.x _ _ rfl).trans ( (show Xi T16 904 32 = Xi T4 904 32 from w215.x _ _ rfl).trans ( (show Xi T4 904 32 = Xi U3 904 32 from w68.x _ _ rfl).trans ((show Xi U3 904 32 = Xi S 904 32 from by rw [eU3]; exact Xi_ne (by omega))))))
            have w309 : Xi T23 904 71 = Xi S 904 71 := (show Xi T23 904 71 = Xi T17 904 71 from w303.x _ _ rfl).trans ( (show Xi T17 904 71 = Xi T16 904 71 from w237.x _ _ rfl).trans ( (show Xi T16 904 71 = Xi T4 904 71 from w215.x _ _ rfl).trans ( (show Xi T4 904 71 = Xi U3 904 71 from w68.x _ _ rfl).trans ((show Xi U3 904 71 = Xi S 904 71 from by rw [eU3]; exact Xi_ne (by omega))))))
            have w310 : Xi T23 904 72 = Xi S 904 72 := (show Xi T23 904 72 = Xi T17 904 72 from w303.x _ _ rfl).trans ( (show Xi T17 904 72 = Xi T16 904 72 from w237.x _ _ rfl).trans ( (show Xi T16 904 72 = Xi T4 904 72 from w215.x _ _ rfl).trans ( (show Xi T4 904 72 = Xi U3 904 72 from w68.x _ _ rfl).trans ((show Xi U3 904 72 = Xi S 904 72 from by rw [eU3]; exact Xi_ne (by omega))))))
            have w311 : Xi T23 904 76 = Xi S 904 76 := (show Xi T23 904 76 = Xi T17 904 76 from w303.x _ _ rfl).trans ( (show Xi T17 904 76 = Xi T16 904 76 from w237.x _ _ rfl).trans ( (show Xi T16 904 76 = Xi T4 904 76 from w215.x _ _ rfl).trans ( (show Xi T4 904 76 = Xi U3 904 76 from w68.x _ _ rfl).trans ((show Xi U3 904 76 = Xi S 904 76 from by rw [eU3]; exact Xi_ne (by omega))))))
            have w312 : Xi T23 904 78 = Xi S 904 78 := (show Xi T23 904 78 = Xi T17 904 78 from w303.x _ _ rfl).trans ( (show Xi T17 904 78 = Xi T16 904 78 from w237.x _ _ rfl).trans ( (show Xi T16 904 78 = Xi T4 904 78 from w215.x _ _ rfl).trans ( (show Xi T4 904 78 = Xi U3 904 78 from w68.x _ _ rfl).trans ((show Xi U3 904 78 = Xi S 904 78 from by rw [eU3]; exact Xi_ne (by omega))))))
            refine y_callV rfl rfl rfl (t_mo_need__p hHT23 0 7 (Xi S 950 (((Xi S 904 78)).toNat)) ⟨by omega, by omega⟩ ⟨by omega, by omega⟩ ⟨by omega, by omega⟩ _) ?_
            rintro _ T24 ⟨hHT24, w314, rfl, nt109⟩
            have hFT24 : FR md_mo_askFifteen__1 S T24 := FR.tr hFT23 w314 rfl
            show Pl _ _ _ _ _ _ [] _ _
            have n109_ := nt109
            rw [(SMR_FR hFT23 rfl rfl).2.1 908 _ (by omega)] at n109_
            have a109 : Xi T24 904 113 = acR S (fW S) (nW S) (kU5 S) 0 1 := ((by assumption : FR md_mo_need__p T23 T24).x 904 113 rfl).trans a91
            refine y_aload_n rfl rfl ?_
            refine y_gfr rfl rfl rfl rfl rfl (hHT24.r 904 111 967 rfl) ?_
            refine y_iconst rfl ?_
            refine y_aload_n rfl rfl ?_
            refine y_gfi rfl rfl rfl rfl rfl ?_
            have w315 : -2147483648 ≤ (Xi T24 904 113) ∧ (Xi T24 904 113) ≤ 2147483647 := Xi_rgI
            refine y_iastoreP (n := 6) rfl rfl (by unfold rg; omega) (fun w316 w317 => ?_)
            obtain ⟨U25, eU25⟩ : ∃ T : sS, T = uI T24 967 ((0 : Int).toNat) (Int32.ofInt (Xi T24 904 113)) := ⟨_, rfl⟩
            rw [← eU25]
            have hHU25 : RI U25 := by rw [eU25]; exact RI_w hHT24
            have hFU25 : FR md_mo_askFifteen__1 S U25 := by rw [eU25]; exact FR.wI hFT24 (mdf_i (r := (967, 968, 0, 100000)) (List.mem_of_getElem? (i := 11) rfl) (inR_i (by omega) (by omega) (by omega) (by omega)))
            have w318 : Xi U25 967 ((0 : Int).toNat) = (Xi T24 904 113) := by rw [eU25]; exact Xi_same (by unfold rg; omega)
            have K121 : True := trivial
            have a121 : Xi U25 967 0 = acR S (fW S) (nW S) (kU5 S) 0 1 := by rw [← a109, eU25]; exact Xi_same (by unfold rg; omega)
            have n109 := (show NT3 U25 = NT3 T24 by unfold NT3; rw [eU25]; repeat rw [Xi_ne (by omega)]).trans n109_
            refine y_return rfl rfl ?_
            have w319 : Xi U25 904 106 = Xi T24 904 106 := (show Xi U25 904 106 = Xi T24 904 106 from by rw [eU25]; exact Xi_ne (by omega))
            have w320 : Xi U25 904 142 = Xi U3 904 142 := (show Xi U25 904 142 = Xi T24 904 142 from by rw [eU25]; exact Xi_ne (by omega)).trans ( (show Xi T24 904 142 = Xi T23 904 142 from w314.x _ _ rfl).trans ( (show Xi T23 904 142 = Xi T17 904 142 from w303.x _ _ rfl).trans ( (show Xi T17 904 142 = Xi T16 904 142 from w237.x _ _ rfl).trans ( (show Xi T16 904 142 = Xi T4 904 142 from w215.x _ _ rfl).trans ((show Xi T4 904 142 = Xi U3 904 142 from w68.x _ _ rfl))))))
            have w321 : Xi U25 904 15 = Xi S 904 15 := (show Xi U25 904 15 = Xi T24 904 15 from by rw [eU25]; exact Xi_ne (by omega)).trans ( (show Xi T24 904 15 = Xi T23 904 15 from w314.x _ _ rfl).trans ( (show Xi T23 904 15 = Xi T17 904 15 from w303.x _ _ rfl).trans ( (show Xi T17 904 15 = Xi T16 904 15 from w237.x _ _ rfl).trans ( (show Xi T16 904 15 = Xi T4 904 15 from w215.x _ _ rfl).trans ( (show Xi T4 904 15 = Xi U3 904 15 from w68.x _ _ rfl).trans ((show Xi U3 904 15 = Xi S 904 15 from by rw [eU3]; exact Xi_ne (by omega))))))))
            have w322 : Xi U25 904 32 = Xi S 904 32 := (show Xi U25 904 32 = Xi T24 904 32 from by rw [eU25]; exact Xi_ne (by omega)).trans ( (show Xi T24 904 32 = Xi T23 904 32 from w314.x _ _ rfl).trans ( (show Xi T23 904 32 = Xi T17 904 32 from w303.x _ _ rfl).trans ( (show Xi T17 904 32 = Xi T16 904 32 from w237.x _ _ rfl).trans ( (show Xi T16 904 32 = Xi T4 904 32 from w215.x _ _ rfl).trans ( (show Xi T4 904 32 = Xi U3 904 32 from w68.x _ _ rfl).trans ((show Xi U3 904 32 = Xi S 904 32 from by rw [eU3]; exact Xi_ne (by omega))))))))
            have w323 : Xi U25 904 71 = Xi S 904 71 := (show Xi U25 904 71 = Xi T24 904 71 from by rw [eU25]; exact Xi_ne (by omega)).trans ( (show Xi T24 904 71 = Xi T23 904 71 from w314.x _ _ rfl).trans ( (show Xi T23 904 71 = Xi T17 904 71 from w303.x _ _ rfl).trans ( (show Xi T17 904 71 = Xi T16 904 71 from w237.x _ _ rfl).trans ( (show Xi T16 904 71 = Xi T4 904 71 from w215.x _ _ rfl).trans ( (show Xi T4 904 71 = Xi U3 904 71 from w68.x _ _ rfl).trans ((show Xi U3 904 71 = Xi S 904 71 from by rw [eU3]; exact Xi_ne (by omega))))))))
            have w324 : Xi U25 904 72 = Xi S 904 72 := (show Xi U25 904 72 = Xi T24 904 72 from by rw [eU25]; exact Xi_ne (by omega)).trans ( (show Xi T24 904 72 = Xi T23 904 72 from w314.x _ _ rfl).trans ( (show Xi T23 904 72 = Xi T17 904 72 from w303.x _ _ rfl).trans ( (show Xi T17 904 72 = Xi T16 904 72 from w237.x _ _ rfl).trans ( (show Xi T16 904 72 = Xi T4 904 72 from w215.x _ _ rfl).trans ( (show Xi T4 904 72 = Xi U3 904 72 from w68.x _ _ rfl).trans ((show Xi U3 904 72 = Xi S 904 72 from by rw [eU3]; exact Xi_ne (by omega))))))))
            have w325 : Xi U25 904 76 = Xi S 904 76 := (show Xi U25 904 76 = Xi T24 904 76 from by rw [eU25]; exact Xi_ne (by omega)).trans ( (show Xi T24 904 76 = Xi T23 904 76 from w314.x _ _ rfl).trans ( (show Xi T23 904 76 = Xi T17 904 76 from w303.x _ _ rfl).trans ( (show Xi T17 904 76 = Xi T16 904 76 from w237.x _ _ rfl).trans ( (show Xi T16 904 76 = Xi T4 904 76 from w215.x _ _ rfl).trans ( (show Xi T4 904 76 = Xi U3 904 76 from w68.x _ _ rfl).trans ((show Xi U3 904 76 = Xi S 904 76 from by rw [eU3]; exact Xi_ne (by omega))))))))
            have w326 : Xi U25 904 78 = Xi S 904 78 := (show Xi U25 904 78 = Xi T24 904 78 from by rw [eU25]; exact Xi_ne (by omega)).trans ( (show Xi T24 904 78 = Xi T23 904 78 from w314.x _ _ rfl).trans ( (show Xi T23 904 78 = Xi T17 904 78 from w303.x _ _ rfl).trans ( (show Xi T17 904 78 = Xi T16 904 78 from w237.x _ _ rfl).trans ( (show Xi T16 904 78 = Xi T4 904 78 from w215.x _ _ rfl).trans ( (show Xi T4 904 78 = Xi U3 904 78 from w68.x _ _ rfl).trans ((show Xi U3 904 78 = Xi S 904 78 from by rw [eU3]; exact Xi_ne (by omega))))))))
            exact ⟨hHU25, hFU25, rfl, (by first | (have t := K121; exact rau_1 hz0 k59 n29.o n54.o n91 n109 (fun q => by omega) (fun q => by omega) (fun q => by omega) (fun q => by omega) hq2.o a121 (by omega)) | exact rau_0 hz0 (by omega) n29.o n54.o hq1.o (by omega))⟩
          · refine y_iconst rfl ?_
            refine y_goto rfl rfl ?_
            refine y_bipush rfl rfl ?_
            refine y_iload_n rfl rfl ?_
            have w327 : Xi T23 904 142 = Xi U3 904 142 := (show Xi T23 904 142 = Xi T17 904 142 from w303.x _ _ rfl).trans ( (show Xi T17 904 142 = Xi T16 904 142 from w237.x _ _ rfl).trans ( (show Xi T16 904 142 = Xi T4 904 142 from w215.x _ _ rfl).trans ((show Xi T4 904 142 = Xi U3 904 142 from w68.x _ _ rfl))))
            have w328 : Xi T23 904 15 = Xi S 904 15 := (show Xi T23 904 15 = Xi T17 904 15 from w303.x _ _ rfl).trans ( (show Xi T17 904 15 = Xi T16 904 15 from w237.x _ _ rfl).trans ( (show Xi T16 904 15 = Xi T4 904 15 from w215.x _ _ rfl).trans ( (show Xi T4 904 15 = Xi U3 904 15 from w68.x _ _ rfl).trans ((show Xi U3 904 15 = Xi S 904 15 from by rw [eU3]; exact Xi_ne (by omega))))))
            have w329 : Xi T23 904 32 = Xi S 904 32 := (show Xi T23 904 32 = Xi T17 904 32 from w303.x _ _ rfl).trans ( (show Xi T17 904 32 = Xi T16 904 32 from w237.x _ _ rfl).trans ( (show Xi T16 904 32 = Xi T4 904 32 from w215.x _ _ rfl).trans ( (show Xi T4 904 32 = Xi U3 904 32 from w68.x _ _ rfl).trans ((show Xi U3 904 32 = Xi S 904 32 from by rw [eU3]; exact Xi_ne (by omega))))))
            have w330 : Xi T23 904 71 = Xi S 904 71 := (show Xi T23 904 71 = Xi T17 904 71 from w303.x _ _ rfl).trans ( (show Xi T17 904 71 = Xi T16 904 71 from w237.x _ _ rfl).trans ( (show Xi T16 904 71 = Xi T4 904 71 from w215.x _ _ rfl).trans ( (show Xi T4 904 71 = Xi U3 904 71 from w68.x _ _ rfl).trans ((show Xi U3 904 71 = Xi S 904 71 from by rw [eU3]; exact Xi_ne (by omega))))))
            have w331 : Xi T23 904 72 = Xi S 904 72 := (show Xi T23 904 72 = Xi T17 904 72 from w303.x _ _ rfl).trans ( (show Xi T17 904 72 = Xi T16 904 72 from w237.x _ _ rfl).trans ( (show Xi T16 904 72 = Xi T4 904 72 from w215.x _ _ rfl).trans ( (show Xi T4 904 72 = Xi U3 904 72 from w68.x _ _ rfl).trans ((show Xi U3 904 72 = Xi S 904 72 from by rw [eU3]; exact Xi_ne (by omega))))))
            have w332 : Xi T23 904 76 = Xi S 904 76 := (show Xi T23 904 76 = Xi T17 904 76 from w303.x _ _ rfl).trans ( (show Xi T17 904 76 = Xi T16 904 76 from w237.x _ _ rfl).trans ( (show Xi T16 904 76 = Xi T4 904 76 from w215.x _ _ rfl).trans ( (show Xi T4 904 76 = Xi U3 904 76 from w68.x _ _ rfl).trans ((show Xi U3 904 76 = Xi S 904 76 from by rw [eU3]; exact Xi_ne (by omega))))))
            have w333 : Xi T23 904 78 = Xi S 904 78 := (show Xi T23 904 78 = Xi T17 904 78 from w303.x _ _ rfl).trans ( (show Xi T17 904 78 = Xi T16 904 78 from w237.x _ _ rfl).trans ( (show Xi T16 904 78 = Xi T4 904 78 from w215.x _ _ rfl).trans ( (show Xi T4 904 78 = Xi U3 904 78 from w68.x _ _ rfl).trans ((show Xi U3 904 78 = Xi S 904 78 from by rw [eU3]; exact Xi_ne (by omega))))))
            refine y_callV rfl rfl rfl (t_mo_need__p hHT23 1 7 (Xi S 950 (((Xi S 904 78)).toNat)) ⟨by omega, by omega⟩ ⟨by omega, by omega⟩ ⟨by omega, by omega⟩ _) ?_
            rintro _ T26 ⟨hHT26, w335, rfl, nt109⟩
            have hFT26 : FR md_mo_askFifteen__1 S T26 := FR.tr hFT23 w335 rfl
            show Pl _ _ _ _ _ _ [] _ _
            have n109_ := nt109
            rw [(SMR_FR hFT23 rfl rfl).2.1 908 _ (by omega)] at n109_
            have a109 : Xi T26 904 113 = acR S (fW S) (nW S) (kU5 S) 0 1 := ((by assumption : FR md_mo_need__p T23 T26).x 904 113 rfl).trans a91
            refine y_aload_n rfl rfl ?_
            refine y_gfr rfl rfl rfl rfl rfl (hHT26.r 904 111 967 rfl) ?_
            refine y_iconst rfl ?_
            refine y_aload_n rfl rfl ?_
            refine y_gfi rfl rfl rfl rfl rfl ?_
            have w336 : -2147483648 ≤ (Xi T26 904 113) ∧ (Xi T26 904 113) ≤ 2147483647 := Xi_rgI
            refine y_iastoreP (n := 6) rfl rfl (by unfold rg; omega) (fun w337 w338 => ?_)
            obtain ⟨U27, eU27⟩ : ∃ T : sS, T = uI T26 967 ((0 : Int).toNat) (Int32.ofInt (Xi T26 904 113)) := ⟨_, rfl⟩
            rw [← eU27]
            have hHU27 : RI U27 := by rw [eU27]; exact RI_w hHT26
            have hFU27 : FR md_mo_askFifteen__1 S U27 := by rw [eU27]; exact FR.wI hFT26 (mdf_i (r := (967, 968, 0, 100000)) (List.mem_of_getElem? (i := 11) rfl) (inR_i (by omega) (by omega) (by omega) (by omega)))
            have w339 : Xi U27 967 ((0 : Int).toNat) = (Xi T26 904 113) := by rw [eU27]; exact Xi_same (by unfold rg; omega)
            have K121 : True := trivial
            have a121 : Xi U27 967 0 = acR S (fW S) (nW S) (kU5 S) 0 1 := by rw [← a109, eU27]; exact Xi_same (by unfold rg; omega)
            have n109 := (show NT3 U27 = NT3 T26 by unfold NT3; rw [eU27]; repeat rw [Xi_ne (by omega)]).trans n109_
            refine y_return rfl rfl ?_
            have w340 : Xi U27 904 106 = Xi T26 904 106 := (show Xi U27 904 106 = Xi T26 904 106 from by rw [eU27]; exact Xi_ne (by omega))
            have w341 : Xi U27 904 142 = Xi U3 904 142 := (show Xi U27 904 142 = Xi T26 904 142 from by rw [eU27]; exact Xi_ne (by omega)).trans ( (show Xi T26 904 142 = Xi T23 904 142 from w335.x _ _ rfl).trans ( (show Xi T23 904 142 = Xi T17 904 142 from w303.x _ _ rfl).trans ( (show Xi T17 904 142 = Xi T16 904 142 from w237.x _ _ rfl).trans ( (show Xi T16 904 142 = Xi T4 904 142 from w215.x _ _ rfl).trans ((show Xi T4 904 142 = Xi U3 904 142 from w68.x _ _ rfl))))))
            have w342 : Xi U27 904 15 = Xi S 904 15 := (show Xi U27 904 15 = Xi T26 904 15 from by rw [eU27]; exact Xi_ne (by omega)).trans ( (show Xi T26 904 15 = Xi T23 904 15 from w335.x _ _ rfl).trans ( (show Xi T23 904 15 = Xi T17 904 15 from w303.x _ _ rfl).trans ( (show Xi T17 904 15 = Xi T16 904 15 from w237.x _ _ rfl).trans ( (show Xi T16 904 15 = Xi T4 904 15 from w215.x _ _ rfl).trans ( (show Xi T4 904 15 = Xi U3 904 15 from w68.x _ _ rfl).trans ((show Xi U3 904 15 = Xi S 904 15 from by rw [eU3]; exact Xi_ne (by omega))))))))
            have w343 : Xi U27 904 32 = Xi S 904 32 := (show Xi U27 904 32 = Xi T26 904 32 from by rw [eU27]; exact Xi_ne (by omega)).trans ( (show Xi T26 904 32 = Xi T23 904 32 from w335.x _ _ rfl).trans ( (show Xi T23 904 32 = Xi T17 904 32 from w303.x _ _ rfl).trans ( (show Xi T17 904 32 = Xi T16 904 32 from w237.x _ _ rfl).trans ( (show Xi T16 904 32 = Xi T4 904 32 from w215.x _ _ rfl).trans ( (show Xi T4 904 32 = Xi U3 904 32 from w68.x _ _ rfl).trans ((show Xi U3 904 32 = Xi S 904 32 from by rw [eU3]; exact Xi_ne (by omega))))))))
            have w344 : Xi U27 904 71 = Xi S 904 71 := (show Xi U27 904 71 = Xi T26 904 71 from by rw [eU27]; exact Xi_ne (by omega)).trans ( (show Xi T26 904 71 = Xi T23 904 71 from w335.x _ _ rfl).trans ( (show Xi T23 904 71 = Xi T17 904 71 from w303.x _ _ rfl).trans ( (show Xi T17 904 71 = Xi T16 904 71 from w237.x _ _ rfl).trans ( (show Xi T16 904 71 = Xi T4 904 71 from w215.x _ _ rfl).trans ( (show Xi T4 904 71 = Xi U3 904 71 from w68.x _ _ rfl).trans ((show Xi U3 904 71 = Xi S 904 71 from by rw [eU3]; exact Xi_ne (by omega))))))))
            have w345 : Xi U27 904 72 = Xi S 904 72 := (show Xi U27 904 72 = Xi T26 904 72 from by rw [eU27]; exact Xi_ne (by omega)).trans ( (show Xi T26 904 72 = Xi T23 904 72 from w335.x _ _ rfl).trans ( (show Xi T23 904 72 = Xi T17 904 72 from w303.x _ _ rfl).trans ( (show Xi T17 904 72 = Xi T16 904 72 from w237.x _ _ rfl).trans ( (show Xi T16 904 72 = Xi T4 904 72 from w215.x _ _ rfl).trans ( (show Xi T4 904 72 = Xi U3 904 72 from w68.x _ _ rfl).trans ((show Xi U3 904 72 = Xi S 904 72 from by rw [eU3]; exact Xi_ne (by omega))))))))
            have w346 : Xi U27 904 76 = Xi S 904 76 := (show Xi U27 904 76 = Xi T26 904 76 from by rw [eU27]; exact Xi_ne (by omega)).trans ( (show Xi T26 904 76 = Xi T23 904 76 from w335.x _ _ rfl).trans ( (show Xi T23 904 76 = Xi T17 904 76 from w303.x _ _ rfl).trans ( (show Xi T17 904 76 = Xi T16 904 76 from w237.x _ _ rfl).trans ( (show Xi T16 904 76 = Xi T4 904 76 from w215.x _ _ rfl).trans ( (show Xi T4 904 76 = Xi U3 904 76 from w68.x _ _ rfl).trans ((show Xi U3 904 76 = Xi S 904 76 from by rw [eU3]; exact Xi_ne (by omega))))))))
            have w347 : Xi U27 904 78 = Xi S 904 78 := (show Xi U27 904 78 = Xi T26 904 78 from by rw [eU27]; exact Xi_ne (by omega)).trans ( (show Xi T26 904 78 = Xi T23 904 78 from w335.x _ _ rfl).trans ( (show Xi T23 904 78 = Xi T17 904 78 from w303.x _ _ rfl).trans ( (show Xi T17 904 78 = Xi T16 904 78 from w237.x _ _ rfl).trans ( (show Xi T16 904 78 = Xi T4 904 78 from w215.x _ _ rfl).trans ( (show Xi T4 904 78 = Xi U3 904 78 from w68.x _ _ rfl).trans ((show Xi U3 904 78 = Xi S 904 78 from by rw [eU3]; exact Xi_ne (by omega))))))))
            exact ⟨hHU27, hFU27, rfl, (by first | (have t := K121; exact rau_1 hz0 k59 n29.o n54.o n91 n109 (fun q => by omega) (fun q => by omega) (fun q => by omega) (fun q => by omega) hq2.o a121 (by omega)) | exact rau_0 hz0 (by omega) n29.o n54.o hq1.o (by omega))⟩
end
