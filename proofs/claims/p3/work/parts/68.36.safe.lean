/-! SAFETY of methods: printed by wip/safe (vc.py, decl.py) -/
def md_re_understand : List rec := [(876, 877, 8, 9), (876, 877, 9, 10), (882, 883, 3, 4), (882, 883, 10, 11), (883, 884, 0, 100000), (884, 885, 0, 100000), (885, 886, 0, 100000), (886, 887, 0, 100000), (887, 888, 0, 100000), (888, 889, 0, 100000)]
abbrev Q_re_understand (S : sS) : pst := fun r S1 => HI S1 ∧ FR md_re_understand S S1 ∧ (∃ z : Int, r = some (iv z) ∧ (0 ≤ z ∧ z ≤ 1) ∧ (z = 1 → WI S1) ∧ (z = 0 → Xi S1 876 8 ≠ 0))
set_option maxRecDepth 100000 in
theorem t_re_understand {S : sS} (hH : HI S) (hW : WI S) (hT : TOK S) (hsr : SRC S) (h1 : Xi S 877 (1 : Int).toNat = 102 ∧ 1 < Xi S 876 7) (d : Nat) : Mt lay0 (d + 6) m_re_understand [.ref 891] S (Q_re_understand S) := by
  refine Mt_R rfl rfl ?_
  have hF : FR md_re_understand S S := FR.rf
  have w1 : 0 ≤ Xi S 876 7 ∧ Xi S 876 7 ≤ 5125 := hH.c _ _
  have hL := hW.1
  have hX := hW.2.1
  have htk := hT 1 (by omega) h1.1
  have e78 : Xi S 878 (1 : Int).toNat = Xi S 878 1 := rfl
  have e79 : Xj S 879 (1 : Int).toNat = Xj S 879 1 := rfl
  have he5 : 0 ≤ Xi S 876 5 ∧ Xi S 876 5 ≤ 5000 := hH.c _ _
  have h78r : 0 ≤ Xi S 878 1 ∧ Xi S 878 1 ≤ 5000 := hH.c _ _
  have h20 : 0 ≤ Xi S 882 3 ∧ Xi S 882 3 ≤ 20 := hH.c _ _
  refine l_aload_n rfl rfl ?_
  refine l_gfr rfl rfl rfl rfl rfl (hH.r 891 4 895 rfl) ?_
  refine l_bipush rfl rfl ?_
  refine l_iconst rfl ?_
  refine l_aload_n rfl rfl ?_
  refine l_gfr rfl rfl rfl rfl rfl (hH.r 891 0 876 rfl) ?_
  refine l_iconst rfl ?_
  have w2 : 0 ≤ Xi S 876 7 ∧ Xi S 876 7 ≤ 5125 := hH.c _ _
  have w3 : 0 ≤ Xi S 882 3 ∧ Xi S 882 3 ≤ 20 := hH.c _ _
  refine l_callV rfl rfl rfl (t_to_runEnd hH 3 ⟨by omega, by omega⟩ _) ?_
  rintro _ _ ⟨rfl, z11, rfl, w11, w4, w5, w6, w7, w8, w9, w10⟩
  clear w6 w7 w8 w9
  show Rl _ _ _ _ _ [iv z11, iv 3, iv 8, .ref 895] _ _
  have w12 : 0 ≤ Xi S 882 3 ∧ Xi S 882 3 ≤ 20 := hH.c _ _
  refine l_callV rfl rfl rfl (t_me_find hH 8 3 z11 ⟨by omega, by omega⟩ ⟨by omega, by omega⟩ ⟨by omega, by omega⟩ (by first | assumption | exact (LEX_FR hF rfl rfl (by assumption : LEX S))) _) ?_
  rintro _ _ ⟨rfl, z16, rfl, w16, w13, w14, w15⟩
  have w17 : z16 ≠ -1 → _ := fun h => fb8 hH (w13 h)
  clear w14
  show Rl _ _ _ _ _ [iv z16] _ _
  refine l_istore_n rfl rfl rfl ?_
  refine l_aload_n rfl rfl ?_
  refine l_gfr rfl rfl rfl rfl rfl (hH.r 891 0 876 rfl) ?_
  refine l_iconst rfl ?_
  have w18 : 0 ≤ Xi S 876 7 ∧ Xi S 876 7 ≤ 5125 := hH.c _ _
  have w19 : 0 ≤ Xi S 882 3 ∧ Xi S 882 3 ≤ 20 := hH.c _ _
  refine l_callV rfl rfl rfl (t_to_placeAt hH 1 ⟨by omega, by omega⟩ _) ?_
  rintro _ _ ⟨rfl, z21, rfl, w21, w20⟩
  show Rl _ _ _ _ _ [iv z21] _ _
  refine l_iconst rfl ?_
  refine l_iadd rfl ?_
  refine l_istore_n rfl rfl rfl ?_
  refine l_aload_n rfl rfl ?_
  refine l_gfr rfl rfl rfl rfl rfl (hH.r 891 6 882 rfl) ?_
  refine l_gfi rfl rfl rfl rfl rfl ?_
  have w22 : 0 ≤ (Xi S 882 3) ∧ (Xi S 882 3) ≤ 20 := hH.c _ _
  refine l_bipush rfl rfl ?_
  refine l_icmp_lt rfl rfl (by unfold rg; omega) (by unfold rg; omega) (fun w23 => ?_) (fun w24 => ?_)
  · refine l_aload_n rfl rfl ?_
    refine l_gfr rfl rfl rfl rfl rfl (hH.r 891 6 882 rfl) ?_
    refine l_aload_n rfl rfl ?_
    refine l_gfr rfl rfl rfl rfl rfl (hH.r 891 0 876 rfl) ?_
    obtain ⟨tw25, w25, w25b⟩ := SRC_fr hF rfl hsr
    refine l_gfr rfl rfl rfl rfl rfl w25 ?_
    refine l_iload_n rfl rfl ?_
    refine l_iload_n rfl rfl ?_
    refine l_aload_n rfl rfl ?_
    refine l_gfr rfl rfl rfl rfl rfl (hH.r 891 0 876 rfl) ?_
    refine l_iconst rfl ?_
    have w26 : 0 ≤ Xi S 876 7 ∧ Xi S 876 7 ≤ 5125 := hH.c _ _
    have w27 : 0 ≤ Xi S 882 3 ∧ Xi S 882 3 ≤ 20 := hH.c _ _
    refine l_callV rfl rfl rfl (t_to_valueAt hH 1 ⟨by omega, by omega⟩ _) ?_
    rintro _ _ ⟨rfl, z29, rfl, w29, w28⟩
    show Rl _ _ _ _ _ [iv z29, iv (z21 + 1), iv (z21 + 1), .ref tw25, .ref 882] _ _
    refine l_iadd rfl ?_
    have w30 : 0 ≤ Xi S 882 3 ∧ Xi S 882 3 ≤ 20 := hH.c _ _
    refine l_callV rfl rfl rfl (t_co_takeText__2 hH tw25 (z21 + 1) ((z21 + 1) + z29) w25b ⟨by omega, by omega⟩ ⟨by omega, by omega⟩ (by first | assumption | omega) _) ?_
    rintro _ T1 ⟨hHT1, w33, z32, rfl, w32, w31⟩
    have hFT1 : FR md_re_understand S T1 := FR.tr hF w33 rfl
    show Rl _ _ _ _ _ [iv z32] _ _
    have hk75 : KCM S T1 := by assumption
    have h883a : ∀ i, Xi T1 883 i = Xi S 883 i := fun i => ((by assumption : FR md_co_takeText__2 S T1).cx 883 rfl i).1
    have h19a : ∀ i, Xi T1 19 i = Xi S 19 i := fun i => ((by assumption : FR md_co_takeText__2 S T1).cx 19 rfl i).1
    have h3a : Xi T1 882 3 = Xi S 882 3 := (by assumption : FR md_co_takeText__2 S T1).x 882 3 rfl
    refine l_if_eq rfl rfl (by unfold rg; omega) (fun w34 => ?_) (fun w35 => ?_)
    · refine l_aload_n rfl rfl ?_
      refine l_gfr rfl rfl rfl rfl rfl (hHT1.r 891 0 876 rfl) ?_
      refine l_bipush rfl rfl ?_
      refine l_iconst rfl ?_
      have w36 : Xi T1 882 3 = Xi S 882 3 := (show Xi T1 882 3 = Xi S 882 3 from w33.x _ _ rfl)
      have w37 : 0 ≤ Xi S 882 3 ∧ Xi S 882 3 ≤ 20 := hH.c _ _
      refine l_callV rfl rfl rfl (t_to_wrong hHT1 8 1 ⟨by omega, by omega⟩ ⟨by omega, by omega⟩ _) ?_
      rintro _ T2 ⟨hHT2, w41, z40, rfl, w40, w38, w39⟩
      have hFT2 : FR md_re_understand S T2 := FR.tr hFT1 w41 rfl
      show Rl _ _ _ _ _ [iv z40] _ _
      refine l_ireturn rfl (retI_z (by omega)) ?_
      have w42 : 0 ≤ Xi T2 876 8 ∧ Xi T2 876 8 ≤ 9 := hHT2.c _ _
      have w43 : Xi T2 882 3 = Xi S 882 3 := (show Xi T2 882 3 = Xi T1 882 3 from w41.x _ _ rfl).trans ((show Xi T1 882 3 = Xi S 882 3 from w33.x _ _ rfl))
      have w44 : 0 ≤ Xi S 882 3 ∧ Xi S 882 3 ≤ 20 := hH.c _ _
      exact ⟨hHT2, hFT2, _, rfl, ⟨by omega, by omega⟩, (by first | (intro hz; omega) | (intro _; assumption) | (intro hz; apply_assumption; omega) | (intro _; exact (WI_FR hHT1 w41 rfl rfl rfl rfl rfl rfl rfl rfl rfl (by assumption : WI T1)))), (by omega)⟩
    · refine l_iload_n rfl rfl ?_
      refine l_iconst rfl ?_
      refine l_icmp_eq rfl rfl (by unfold rg; omega) (by unfold rg; omega) (fun w45 => ?_) (fun w46 => ?_)
      · refine l_iload_n rfl rfl ?_
        refine l_iconst rfl ?_
        refine l_icmp_ne rfl rfl (by unfold rg; omega) (by unfold rg; omega) (fun w47 => ?_) (fun w48 => ?_)
        · refine l_aload_n rfl rfl ?_
          refine l_gfr rfl rfl rfl rfl rfl (hHT1.r 891 6 882 rfl) ?_
          refine l_iload_n rfl rfl ?_
          have w49 : Xi T1 882 3 = Xi S 882 3 := (show Xi T1 882 3 = Xi S 882 3 from w33.x _ _ rfl)
          have w50 : 0 ≤ Xi S 882 3 ∧ Xi S 882 3 ≤ 20 := hH.c _ _
          refine l_callV rfl rfl rfl (t_co_addAs__2 hHT1 z16 ⟨by omega, by omega⟩ (by first | assumption | omega) _) ?_
          rintro _ T3 ⟨hHT3, w55, rfl, w51, w52, w53⟩
          have hFT3 : FR md_re_understand S T3 := FR.tr hFT1 w55 rfl
          show Rl _ _ _ _ _ [] _ _
          have hCu : CMD T3 := by first | exact CMD_add hH hW.2.2.2.2.1 hk91 (by omega) h883b (fun j => (hFT3.cx 5 rfl j).1) (fun j => (hFT3.cx 19 rfl j).1) (fun j => ((by assumption : FR md_co_addAs__2 T1 T3).cx 885 rfl j).1) (fun j => ((by assumption : FR md_co_addAs__2 T1 T3).cx 886 rfl j).1) (by omega) (by assumption) (by assumption) (by omega) (hp91 (by omega)).1 (hp91 (by omega)).2 | (exfalso; omega)
          have hWe : WI T3 := WI_c hH hFT3 rfl rfl rfl rfl rfl rfl rfl rfl hCu hW
          refine l_iconst rfl ?_
          refine l_ireturn rfl rfl ?_
          have w56 : Xi T3 876 8 = Xi S 876 8 := (show Xi T3 876 8 = Xi T1 876 8 from w55.x _ _ rfl).trans ((show Xi T1 876 8 = Xi S 876 8 from w33.x _ _ rfl))
          have w57 : 0 ≤ Xi S 876 8 ∧ Xi S 876 8 ≤ 9 := hH.c _ _
          have w58 : 0 ≤ Xi T3 882 3 ∧ Xi T3 882 3 ≤ 20 := hHT3.c _ _
          exact ⟨hHT3, hFT3, _, rfl, ⟨by omega, by omega⟩, (by first | (intro hz; omega) | (intro _; assumption) | (intro hz; apply_assumption; omega) | (intro _; exact (by assumption : WI T3))), (by omega)⟩
        · refine l_aload_n rfl rfl ?_
          refine l_gfr rfl rfl rfl rfl rfl (hHT1.r 891 0 876 rfl) ?_
          refine l_iconst rfl ?_
          refine l_iconst rfl ?_
          have w59 : Xi T1 882 3 = Xi S 882 3 := (show Xi T1 882 3 = Xi S 882 3 from w33.x _ _ rfl)
          have w60 : 0 ≤ Xi S 882 3 ∧ Xi S 882 3 ≤ 20 := hH.c _ _
          refine l_callV rfl rfl rfl (t_to_wrong hHT1 4 3 ⟨by omega, by omega⟩ ⟨by omega, by omega⟩ _) ?_
          rintro _ T4 ⟨hHT4, w64, z63, rfl, w63, w61, w62⟩
          have hFT4 : FR md_re_understand S T4 := FR.tr hFT1 w64 rfl
          show Rl _ _ _ _ _ [iv z63] _ _
          refine l_ireturn rfl (retI_z (by omega)) ?_
          have w65 : 0 ≤ Xi T4 876 8 ∧ Xi T4 876 8 ≤ 9 := hHT4.c _ _
          have w66 : Xi T4 882 3 = Xi S 882 3 := (show Xi T4 882 3 = Xi T1 882 3 from w64.x _ _ rfl).trans ((show Xi T1 882 3 = Xi S 882 3 from w33.x _ _ rfl))
          have w67 : 0 ≤ Xi S 882 3 ∧ Xi S 882 3 ≤ 20 := hH.c _ _
          exact ⟨hHT4, hFT4, _, rfl, ⟨by omega, by omega⟩, (by first | (intro hz; omega) | (intro _; assumption) | (intro hz; apply_assumption; omega) | (intro _; exact (WI_FR hHT1 w64 rfl rfl rfl rfl rfl rfl rfl rfl rfl (by assumption : WI T1)))), (by omega)⟩
      · refine l_aload_n rfl rfl ?_
        refine l_gfr rfl rfl rfl rfl rfl (hHT1.r 891 6 882 rfl) ?_
        refine l_iload_n rfl rfl ?_
        have w68 : Xi T1 882 3 = Xi S 882 3 := (show Xi T1 882 3 = Xi S 882 3 from w33.x _ _ rfl)
        have w69 : 0 ≤ Xi S 882 3 ∧ Xi S 882 3 ≤ 20 := hH.c _ _
        refine l_callV rfl rfl rfl (t_co_suits hHT1 z16 ⟨by omega, by omega⟩ (by first | assumption | exact (LEX_FR hFT1 rfl rfl (by assumption : LEX S))) (by first | assumption | omega) _) ?_
        rintro _ T5 ⟨hHT5, w73, z72, rfl, w72, w70, w71⟩
        have hFT5 : FR md_re_understand S T5 := FR.tr hFT1 w73 rfl
        show Rl _ _ _ _ _ [iv z72] _ _
        have h3b : Xi T5 882 3 = Xi T1 882 3 := (by assumption : FR md_co_suits T1 T5).x 882 3 rfl
        have hk91 : KCM S T5 := kcm_tr hk75 (by assumption) h3a
        have h883b : ∀ i, Xi T5 883 i = Xi S 883 i := fun i => (((by assumption : FR md_co_suits T1 T5).cx 883 rfl i).1).trans (h883a i)
        have hp91 : z72 = 1 → (Xi T5 885 (Xi T5 882 3).toNat = -1 → Xi S 19 (z16).toNat = -1) ∧ (Xi S 19 (z16).toNat = -2 → Xi T5 886 (Xi T5 882 3).toNat = -2) := fun q => by have t := (by assumption : z72 = 1 → (Xi T5 885 (Xi T1 882 3).toNat = -1 → Xi T1 19 (z16).toNat = -1) ∧ (Xi T1 19 (z16).toNat = -2 → Xi T5 886 (Xi T1 882 3).toNat = -2)) q; rw [← h3b, h19a] at t; exact t
        refine l_if_ne rfl rfl (by unfold rg; omega) (fun w74 => ?_) (fun w75 => ?_)
        · refine l_iload_n rfl rfl ?_
          refine l_iconst rfl ?_
          refine l_icmp_ne rfl rfl (by unfold rg; omega) (by unfold rg; omega) (fun w76 => ?_) (fun w77 => ?_)
          · refine l_aload_n rfl rfl ?_
            refine l_gfr rfl rfl rfl rfl rfl (hHT5.r 891 6 882 rfl) ?_
            refine l_iload_n rfl rfl ?_
            have w78 : Xi T5 882 3 = Xi S 882 3 := (show Xi T5 882 3 = Xi T1 882 3 from w73.x _ _ rfl).trans ((show Xi T1 882 3 = Xi S 882 3 from w33.x _ _ rfl))
            have w79 : 0 ≤ Xi S 882 3 ∧ Xi S 882 3 ≤ 20 := hH.c _ _
            refine l_callV rfl rfl rfl (t_co_addAs__2 hHT5 z16 ⟨by omega, by omega⟩ (by first | assumption | omega) _) ?_
            rintro _ T6 ⟨hHT6, w84, rfl, w80, w81, w82⟩
            have hFT6 : FR md_re_understand S T6 := FR.tr hFT5 w84 rfl
            show Rl _ _ _ _ _ [] _ _
            have hCu : CMD T6 := by first | exact CMD_add hH hW.2.2.2.2.1 hk91 (by omega) h883b (fun j => (hFT6.cx 5 rfl j).1) (fun j => (hFT6.cx 19 rfl j).1) (fun j => ((by assumption : FR md_co_addAs__2 T5 T6).cx 885 rfl j).1) (fun j => ((by assumption : FR md_co_addAs__2 T5 T6).cx 886 rfl j).1) (by omega) (by assumption) (by assumption) (by omega) (hp91 (by omega)).1 (hp91 (by omega)).2 | (exfalso; omega)
            have hWe : WI T6 := WI_c hH hFT6 rfl rfl rfl rfl rfl rfl rfl rfl hCu hW
            refine l_iconst rfl ?_
            refine l_ireturn rfl rfl ?_
            have w85 : Xi T6 876 8 = Xi S 876 8 := (show Xi T6 876 8 = Xi T5 876 8 from w84.x _ _ rfl).trans ( (show Xi T5 876 8 = Xi T1 876 8 from w73.x _ _ rfl).trans ((show Xi T1 876 8 = Xi S 876 8 from w33.x _ _ rfl)))
            have w86 : 0 ≤ Xi S 876 8 ∧ Xi S 876 8 ≤ 9 := hH.c _ _
            have w87 : 0 ≤ Xi T6 882 3 ∧ Xi T6 882 3 ≤ 20 := hHT6.c _ _
            exact ⟨hHT6, hFT6, _, rfl, ⟨by omega, by omega⟩, (by first | (intro hz; omega) | (intro _; assumption) | (intro hz; apply_assumption; omega) | (intro _; exact (by assumption : WI T6))), (by omega)⟩
          · refine l_aload_n rfl rfl ?_
            refine l_gfr rfl rfl rfl rfl rfl (hHT5.r 891 0 876 rfl) ?_
            refine l_iconst rfl ?_
            refine l_iconst rfl ?_
            have w88 : Xi T5 882 3 = Xi S 882 3 := (show Xi T5 882 3 = Xi T1 882 3 from w73.x _ _ rfl).trans ((show Xi T1 882 3 = Xi S 882 3 from w33.x _ _ rfl))
            have w89 : 0 ≤ Xi S 882 3 ∧ Xi S 882 3 ≤ 20 := hH.c _ _
            refine l_callV rfl rfl rfl (t_to_wrong hHT5 4 3 ⟨by omega, by omega⟩ ⟨by omega, by omega⟩ _) ?_
            rintro _ T7 ⟨hHT7, w93, z92, rfl, w92, w90, w91⟩
            have hFT7 : FR md_re_understand S T7 := FR.tr hFT5 w93 rfl
            show Rl _ _ _ _ _ [iv z92] _ _
            refine l_ireturn rfl (retI_z (by omega)) ?_
            have w94 : 0 ≤ Xi T7 876 8 ∧ Xi T7 876 8 ≤ 9 := hHT7.c _ _
            have w95 : Xi T7 882 3 = Xi S 882 3 := (show Xi T7 882 3 = Xi T5 882 3 from w93.x _ _ rfl).trans ( (show Xi T5 882 3 = Xi T1 882 3 from w73.x _ _ rfl).trans ((show Xi T1 882 3 = Xi S 882 3 from w33.x _ _ rfl)))
            have w96 : 0 ≤ Xi S 882 3 ∧ Xi S 882 3 ≤ 20 := hH.c _ _
            exact ⟨hHT7, hFT7, _, rfl, ⟨by omega, by omega⟩, (by first | (intro hz; omega) | (intro _; assumption) | (intro hz; apply_assumption; omega) | (intro _; exact (WI_FR hHT5 w93 rfl rfl rfl rfl rfl rfl rfl rfl rfl (by assumption : WI T5)))), (by omega)⟩
        · refine l_aload_n rfl rfl ?_
          refine l_gfr rfl rfl rfl rfl rfl (hHT5.r 891 0 876 rfl) ?_
          refine l_bipush rfl rfl ?_
          refine l_iconst rfl ?_
          have w97 : Xi T5 882 3 = Xi S 882 3 := (show Xi T5 882 3 = Xi T1 882 3 from w73.x _ _ rfl).trans ((show Xi T1 882 3 = Xi S 882 3 from w33.x _ _ rfl))
          have w98 : 0 ≤ Xi S 882 3 ∧ Xi S 882 3 ≤ 20 := hH.c _ _
          refine l_callV rfl rfl rfl (t_to_wrong hHT5 8 1 ⟨by omega, by omega⟩ ⟨by omega, by omega⟩ _) ?_
          rintro _ T8 ⟨hHT8, w102, z101, rfl, w101, w99, w100⟩
          have hFT8 : FR md_re_understand S T8 := FR.tr hFT5 w102 rfl
          show Rl _ _ _ _ _ [iv z101] _ _
          refine l_ireturn rfl (retI_z (by omega)) ?_
          have w103 : 0 ≤ Xi T8 876 8 ∧ Xi T8 876 8 ≤ 9 := hHT8.c _ _
          have w104 : Xi T8 882 3 = Xi S 882 3 := (show Xi T8 882 3 = Xi T5 882 3 from w102.x _ _ rfl).trans ( (show Xi T5 882 3 = Xi T1 882 3 from w73.x _ _ rfl).trans ((show Xi T1 882 3 = Xi S 882 3 from w33.x _ _ rfl)))
          have w105 : 0 ≤ Xi S 882 3 ∧ Xi S 882 3 ≤ 20 := hH.c _ _
          exact ⟨hHT8, hFT8, _, rfl, ⟨by omega, by omega⟩, (by first | (intro hz; omega) | (intro _; assumption) | (intro hz; apply_assumption; omega) | (intro _; exact (WI_FR hHT5 w102 rfl rfl rfl rfl rfl rfl rfl rfl rfl (by assumption : WI T5)))), (by omega)⟩
  · refine l_aload_n rfl rfl ?_
    refine l_gfr rfl rfl rfl rfl rfl (hH.r 891 0 876 rfl) ?_
    refine l_bipush rfl rfl ?_
    refine l_iconst rfl ?_
    have w106 : 0 ≤ Xi S 882 3 ∧ Xi S 882 3 ≤ 20 := hH.c _ _
    refine l_callV rfl rfl rfl (t_to_wrong hH 9 1 ⟨by omega, by omega⟩ ⟨by omega, by omega⟩ _) ?_
    rintro _ T9 ⟨hHT9, w110, z109, rfl, w109, w107, w108⟩
    have hFT9 : FR md_re_understand S T9 := FR.tr hF w110 rfl
    show Rl _ _ _ _ _ [iv z109] _ _
    refine l_ireturn rfl (retI_z (by omega)) ?_
    have w111 : 0 ≤ Xi T9 876 8 ∧ Xi T9 876 8 ≤ 9 := hHT9.c _ _
    have w112 : Xi T9 882 3 = Xi S 882 3 := (show Xi T9 882 3 = Xi S 882 3 from w110.x _ _ rfl)
    have w113 : 0 ≤ Xi S 882 3 ∧ Xi S 882 3 ≤ 20 := hH.c _ _
    exact ⟨hHT9, hFT9, _, rfl, ⟨by omega, by omega⟩, (by first | (intro hz; omega) | (intro _; assumption) | (intro hz; apply_assumption; omega) | (intro _; exact (WI_FR hH w110 rfl rfl rfl rfl rfl rfl rfl rfl rfl (by assumption : WI S)))), (by omega)⟩

