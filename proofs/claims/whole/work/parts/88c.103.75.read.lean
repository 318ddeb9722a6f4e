theorem cu_cge {S : sS} {f : Nat} {x c : Int × Int} {g h : Int → Int × Int} (hx : x = cu S f) (e : gSq x g = c) (k : Xi S 904 65 = 0 → h (Xi S 904 8 - f) = g (Xi S 904 8 - f)) : gSq (cu S f) h = c := by
  subst hx; exact cu_cg e k
theorem en_1 {S B U : sS} {f : Nat} {F E : Int → Int × Int} (G : gSq (cu S f) F = cu B f) (h : cu U f = cu B f) (he : Xi B 904 65 = 0 → E (Xi B 904 8 - f) = (1, Xi B 904 8 - f)) : gSq (cu S f) (fun a => gSq (F a) E) = cu U f := by
  refine cu_ch G ?_
  rw [h]
  by_cases b : Xi B 904 65 = 0
  · rw [cu_ok b, gS_1, he b]
  · rw [cu_bad b, gS_0]
theorem en_0 {S B U V W : sS} {f : Nat} {F E : Int → Int × Int} (G : gSq (cu S f) F = cu B f) (b : Xi B 904 65 = 0) (hn : E (Xi B 904 8 - f) = (0, Xi B 904 8 - f)) (g : cu V f = (0, (cu W f).2)) (e1 : cu U f = cu V f) (e2 : cu W f = cu B f) : gSq (cu S f) (fun a => gSq (F a) E) = cu U f := by
  refine cu_ch G ?_
  rw [e1, g, e2, cu_ok b, gS_1, hn]

def md_mo_thing__p : List rec := [(904, 905, 8, 9), (904, 905, 65, 66), (904, 905, 66, 67), (904, 905, 69, 70), (904, 905, 99, 100), (904, 905, 100, 101), (904, 905, 101, 102), (950, 951, 0, 100000), (951, 952, 0, 100000)]
abbrev Q_mo_thing__p (S : sS) (fs : Nat) (ns : Nat) : pst := fun r S1 => RI S1 ∧ FR md_mo_thing__p S S1 ∧ (r = none ∧ (gSq (cu S fs) (gTh (tR S fs ns)) = cu S1 fs) ∧ (Xi S 904 69 ≤ Xi S1 904 69) ∧ (∀ r : Nat, (r : Int) < Xi S 904 69 → Xi S1 950 r = Xi S 950 r ∧ Xi S1 951 r = Xi S 951 r) ∧ (Xi S1 904 65 = 0 → Xi S 904 65 = 0 ∧ Xi S 904 8 ≤ Xi S1 904 8) ∧ (JR S1 fs ns))
set_option maxRecDepth 100000 in
theorem t_mo_thing__p {S : sS} (hH : RI S) (fs : Nat) (ns : Nat) (hvl : VLR S fs ns) (hJR : JR S fs ns) (d : Nat) : Mp lay0 (d + 4) m_mo_thing [.ref 904] S (Q_mo_thing__p S fs ns) := by
  refine Mp_R rfl rfl (fun fu => ?_)
  have hF : FR md_mo_thing__p S S := FR.rf
  have w1 : -2147483648 ≤ Xi S 904 65 ∧ Xi S 904 65 ≤ 2147483647 := Xi_rgI
  have w2 : -2147483648 ≤ Xi S 904 66 ∧ Xi S 904 66 ≤ 2147483647 := Xi_rgI
  have w3 : -2147483648 ≤ Xi S 904 69 ∧ Xi S 904 69 ≤ 2147483647 := Xi_rgI
  have w4 : -2147483648 ≤ Xi S 904 8 ∧ Xi S 904 8 ≤ 2147483647 := Xi_rgI
  have : Xi S 904 65 = 0 → (fs : Int) ≤ Xi S 904 8 ∧ Xi S 904 8 ≤ fs + ns := JR.i (by assumption)
  have hbd := hvl.2.2.2
  have C72 : ∀  (T1 : sS) (_ : RI T1) (_ : FR md_mo_thing__p S T1), (Xi T1 904 8 = Xi S 904 8) → (Xi T1 904 65 = Xi S 904 65) → (Xi T1 904 66 = Xi S 904 66) → (Xi T1 904 69 = Xi S 904 69) → (JR T1 fs ns) → (Xi S 904 65 = 0) → (tR S fs ns (Xi S 904 8 - fs) = 53 ∨ (tR S fs ns (Xi S 904 8 - fs) = 2 ∧ tR S fs ns (Xi S 904 8 - fs + 1) = 53)) → (∀ r : Nat, (r : Int) < Xi S 904 69 → Xi T1 950 r = Xi S 950 r ∧ Xi T1 951 r = Xi S 951 r) → Pl fu lay0 (d + 3) m_mo_thing 72 [(0, .ref 904)] [] T1 (Q_mo_thing__p S fs ns) := by
    intro T1 hHT1 hFT1 w5 w6 w7 w8 J72 w9 c72 K72
    have w10 : -2147483648 ≤ Xi T1 904 65 ∧ Xi T1 904 65 ≤ 2147483647 := Xi_rgI
    have w11 : -2147483648 ≤ Xi T1 904 66 ∧ Xi T1 904 66 ≤ 2147483647 := Xi_rgI
    have w12 : -2147483648 ≤ Xi T1 904 69 ∧ Xi T1 904 69 ≤ 2147483647 := Xi_rgI
    have w13 : -2147483648 ≤ Xi T1 904 8 ∧ Xi T1 904 8 ≤ 2147483647 := Xi_rgI
    refine y_aload_n rfl rfl ?_
    refine y_iconst rfl ?_
    refine y_pfi rfl rfl rfl rfl ?_
    obtain ⟨U2, eU2⟩ : ∃ T : sS, T = uI T1 904 100 (Int32.ofInt 1) := ⟨_, rfl⟩
    rw [← eU2]
    have hHU2 : RI U2 := by rw [eU2]; exact RI_w hHT1
    have hFU2 : FR md_mo_thing__p S U2 := by rw [eU2]; exact FR.wI hFT1 (mdf_i (r := (904, 905, 100, 101)) (List.mem_of_getElem? (i := 5) rfl) (inR_i (by omega) (by omega) (by omega) (by omega)))
    have w14 : Xi U2 904 100 = 1 := by rw [eU2]; exact Xi_same (by unfold rg; omega)
    refine y_aload_n rfl rfl ?_
    refine y_dup rfl rfl ?_
    refine y_gfi rfl rfl rfl rfl rfl ?_
    have w15 : (Xi U2 904 8) = (Xi T1 904 8) := (show Xi U2 904 8 = Xi T1 904 8 from by rw [eU2]; exact Xi_ne (by omega))
    rw [w15]
    refine y_aload_n rfl rfl ?_
    refine y_gfr rfl rfl rfl rfl rfl (hHU2.r 904 4 907 rfl) ?_
    refine y_aload_n rfl rfl ?_
    refine y_gfi rfl rfl rfl rfl rfl ?_
    have w16 : (Xi U2 904 8) = (Xi T1 904 8) := (show Xi U2 904 8 = Xi T1 904 8 from by rw [eU2]; exact Xi_ne (by omega))
    rw [w16]
    refine y_ialoadP (n := 5002) rfl rfl (by unfold rg; omega) (fun w17 w18 => ?_)
    have w19 : -2147483648 ≤ (Xi U2 907 (((Xi T1 904 8)).toNat)) ∧ (Xi U2 907 (((Xi T1 904 8)).toNat)) ≤ 2147483647 := Xi_rgI
    have T90 := tR_k (k := 102) (z := (Xi U2 907 (((Xi T1 904 8)).toNat))) (a := Xi T1 904 8) hvl (by omega) (by omega) rfl (by first | exact ((hFU2.cx 907 rfl _).1).symm | rfl)
    rw [show un7 102 = 2 from rfl] at T90
    try rw [show Xi T1 904 8 - (fs : Int) = Xi S 904 8 - fs by omega] at T90
    refine y_bipush rfl rfl ?_
    refine y_icmp_ne rfl rfl (by unfold rg; omega) (by unfold rg; omega) (fun w20 => ?_) (fun w21 => ?_)
    · refine y_iconst rfl ?_
      refine y_iadd rfl ?_
      refine y_pfi rfl rfl rfl rfl ?_
      obtain ⟨U3, eU3⟩ : ∃ T : sS, T = uI U2 904 8 (Int32.ofInt ((Xi T1 904 8) + 1)) := ⟨_, rfl⟩
      rw [← eU3]
      have hHU3 : RI U3 := by rw [eU3]; exact RI_w hHU2
      have hFU3 : FR md_mo_thing__p S U3 := by rw [eU3]; exact FR.wI hFU2 (mdf_i (r := (904, 905, 8, 9)) (List.mem_of_getElem? (i := 0) rfl) (inR_i (by omega) (by omega) (by omega) (by omega)))
      have w22 : Xi U3 904 8 = ((Xi T1 904 8) + 1) := by rw [eU3]; exact Xi_same (by unfold rg; omega)
      have b102_ : Xi U3 904 65 = Xi U2 904 65 := (by rw [eU3, Xi_ne (by omega)]); have G102 : gSq (cu S fs) (gTh (tR S fs ns)) = cu U3 fs := cu_st (by omega) (by rw [eU3, Xi_ne (by omega), eU2, Xi_ne (by omega)]; omega) rfl (by first | (rw [gTh_1 (by omega)]; exact pe rfl (by omega)) | (rw [gTh_2 (by omega) (by omega)]; exact pe rfl (by omega)))
      have J102 : JR U3 fs ns := by first | exact jr_up (JR_FR (FR_e eU2) rfl rfl rfl (by assumption : JR T1 _ _)) (VLR_FR hFU2 rfl (by assumption : VLR S _ _)) eU3 (by omega) (fun b => by rw [FRR hFU2 rfl, show Xi U2 904 8 = Xi S 904 8 by omega]; omega) | exact jr_up2 (JR_FR (FR_e eU2) rfl rfl rfl (by assumption : JR T1 _ _)) (VLR_FR hFU2 rfl (by assumption : VLR S _ _)) eU3 (by omega) (fun b => by rw [FRR hFU2 rfl, show Xi U2 904 8 = Xi S 904 8 by omega]; omega) (fun b => by rw [FRR hFU2 rfl, show Xi U2 904 8 = Xi S 904 8 by omega]; omega)
      have : Xi U3 904 65 = 0 → (fs : Int) ≤ Xi U3 904 8 ∧ Xi U3 904 8 ≤ fs + ns := JR.i (by assumption)
      have K102 : ∀ r : Nat, (r : Int) < Xi S 904 69 → Xi U3 950 r = Xi S 950 r ∧ Xi U3 951 r = Xi S 951 r := fun r hr => ⟨((fun j => ((FR_e eU3).cx 950 rfl j).1.trans (((FR_e eU2).cx 950 rfl j).1)) r).trans (K72 r hr).1, ((fun j => ((FR_e eU3).cx 951 rfl j).1.trans (((FR_e eU2).cx 951 rfl j).1)) r).trans (K72 r hr).2⟩
      refine y_goto rfl rfl ?_
      refine y_return rfl rfl ?_
      have w23 : Xi U3 904 65 = Xi T1 904 65 := (show Xi U3 904 65 = Xi U2 904 65 from by rw [eU3]; exact Xi_ne (by omega)).trans ((show Xi U2 904 65 = Xi T1 904 65 from by rw [eU2]; exact Xi_ne (by omega)))
      have w24 : Xi U3 904 66 = Xi T1 904 66 := (show Xi U3 904 66 = Xi U2 904 66 from by rw [eU3]; exact Xi_ne (by omega)).trans ((show Xi U2 904 66 = Xi T1 904 66 from by rw [eU2]; exact Xi_ne (by omega)))
      have w25 : Xi U3 904 69 = Xi T1 904 69 := (show Xi U3 904 69 = Xi U2 904 69 from by rw [eU3]; exact Xi_ne (by omega)).trans ((show Xi U2 904 69 = Xi T1 904 69 from by rw [eU2]; exact Xi_ne (by omega)))
      exact ⟨hHU3, hFU3, rfl, (by first | exact G30 | exact G102 | exact (cu_cge (S := S) (cu_eq (by omega) (by omega) (by omega)) gp115 (fun b => gTh_n (c108 b).1 (c108 b).2.1 (c108 b).2.2)).trans (cu_eq (by omega) (by omega) (by omega)).symm), (by omega), (by first | exact K30 | exact K102 | exact K145), (by omega), (by first | assumption | exact (by assumption : JR U3 _ _))⟩
    · refine y_iconst rfl ?_
      refine y_goto rfl rfl ?_
      refine y_iadd rfl ?_
      refine y_pfi rfl rfl rfl rfl ?_
      obtain ⟨U4, eU4⟩ : ∃ T : sS, T = uI U2 904 8 (Int32.ofInt ((Xi T1 904 8) + 2)) := ⟨_, rfl⟩
      rw [← eU4]
      have hHU4 : RI U4 := by rw [eU4]; exact RI_w hHU2
      have hFU4 : FR md_mo_thing__p S U4 := by rw [eU4]; exact FR.wI hFU2 (mdf_i (r := (904, 905, 8, 9)) (List.mem_of_getElem? (i := 0) rfl) (inR_i (by omega) (by omega) (by omega) (by omega)))
      have w26 : Xi U4 904 8 = ((Xi T1 904 8) + 2) := by rw [eU4]; exact Xi_same (by unfold rg; omega)
      have b102_ : Xi U4 904 65 = Xi U2 904 65 := (by rw [eU4, Xi_ne (by omega)]); have G102 : gSq (cu S fs) (gTh (tR S fs ns)) = cu U4 fs := cu_st (by omega) (by rw [eU4, Xi_ne (by omega), eU2, Xi_ne (by omega)]; omega) rfl (by first | (rw [gTh_1 (by omega)]; exact pe rfl (by omega)) | (rw [gTh_2 (by omega) (by omega)]; exact pe rfl (by omega)))
      have J102 : JR U4 fs ns := by first | exact jr_up (JR_FR (FR_e eU2) rfl rfl rfl (by assumption : JR T1 _ _)) (VLR_FR hFU2 rfl (by assumption : VLR S _ _)) eU4 (by omega) (fun b => by rw [FRR hFU2 rfl, show Xi U2 904 8 = Xi S 904 8 by omega]; omega) | exact jr_up2 (JR_FR (FR_e eU2) rfl rfl rfl (by assumption : JR T1 _ _)) (VLR_FR hFU2 rfl (by assumption : VLR S _ _)) eU4 (by omega) (fun b => by rw [FRR hFU2 rfl, show Xi U2 904 8 = Xi S 904 8 by omega]; omega) (fun b => by rw [FRR hFU2 rfl, show Xi U2 904 8 = Xi S 904 8 by omega]; omega)
      have : Xi U4 904 65 = 0 → (fs : Int) ≤ Xi U4 904 8 ∧ Xi U4 904 8 ≤ fs + ns := JR.i (by assumption)
      have K102 : ∀ r : Nat, (r : Int) < Xi S 904 69 → Xi U4 950 r = Xi S 950 r ∧ Xi U4 951 r = Xi S 951 r := fun r hr => ⟨((fun j => ((FR_e eU4).cx 950 rfl j).1.trans (((FR_e eU2).cx 950 rfl j).1)) r).trans (K72 r hr).1, ((fun j => ((FR_e eU4).cx 951 rfl j).1.trans (((FR_e eU2).cx 951 rfl j).1)) r).trans (K72 r hr).2⟩
      refine y_goto rfl rfl ?_
      refine y_return rfl rfl ?_
      have w27 : Xi U4 904 65 = Xi T1 904 65 := (show Xi U4 904 65 = Xi U2 904 65 from by rw [eU4]; exact Xi_ne (by omega)).trans ((show Xi U2 904 65 = Xi T1 904 65 from by rw [eU2]; exact Xi_ne (by omega)))
      have w28 : Xi U4 904 66 = Xi T1 904 66 := (show Xi U4 904 66 = Xi U2 904 66 from by rw [eU4]; exact Xi_ne (by omega)).trans ((show Xi U2 904 66 = Xi T1 904 66 from by rw [eU2]; exact Xi_ne (by omega)))
      have w29 : Xi U4 904 69 = Xi T1 904 69 := (show Xi U4 904 69 = Xi U2 904 69 from by rw [eU4]; exact Xi_ne (by omega)).trans ((show Xi U2 904 69 = Xi T1 904 69 from by rw [eU2]; exact Xi_ne (by omega)))
      exact ⟨hHU4, hFU4, rfl, (by first | exact G30 | exact G102 | exact (cu_cge (S := S) (cu_eq (by omega) (by omega) (by omega)) gp115 (fun b => gTh_n (c108 b).1 (c108 b).2.1 (c108 b).2.2)).trans (cu_eq (by omega) (by omega) (by omega)).symm), (by omega), (by first | exact K30 | exact K102 | exact K145), (by omega), (by first | assumption | exact (by assumption : JR U4 _ _))⟩
  have C108 : ∀  (T5 : sS) (_ : RI T5) (_ : FR md_mo_thing__p S T5), (Xi T5 904 8 = Xi S 904 8) → (Xi T5 904 65 = Xi S 904 65) → (Xi T5 904 66 = Xi S 904 66) → (Xi T5 904 69 = Xi S 904 69) → (JR T5 fs ns) → (Xi S 904 65 = 0 → tR S fs ns (Xi S 904 8 - fs) ≠ 54 ∧ tR S fs ns (Xi S 904 8 - fs) ≠ 53 ∧ (tR S fs ns (Xi S 904 8 - fs) = 2 → tR S fs ns (Xi S 904 8 - fs + 1) ≠ 53)) → (∀ r : Nat, (r : Int) < Xi S 904 69 → Xi T5 950 r = Xi S 950 r ∧ Xi T5 951 r = Xi S 951 r) → Pl fu lay0 (d + 3) m_mo_thing 108 [(0, .ref 904)] [] T5 (Q_mo_thing__p S fs ns) := by
    intro T5 hHT5 hFT5 w30 w31 w32 w33 J108 c108 K108
    have w34 : -2147483648 ≤ Xi T5 904 65 ∧ Xi T5 904 65 ≤ 2147483647 := Xi_rgI
    have w35 : -2147483648 ≤ Xi T5 904 66 ∧ Xi T5 904 66 ≤ 2147483647 := Xi_rgI
    have w36 : -2147483648 ≤ Xi T5 904 69 ∧ Xi T5 904 69 ≤ 2147483647 := Xi_rgI
    have w37 : -2147483648 ≤ Xi T5 904 8 ∧ Xi T5 904 8 ≤ 2147483647 := Xi_rgI
    refine y_aload_n rfl rfl ?_
    refine y_iconst rfl ?_
    refine y_pfi rfl rfl rfl rfl ?_
    obtain ⟨U6, eU6⟩ : ∃ T : sS, T = uI T5 904 100 (Int32.ofInt 2) := ⟨_, rfl⟩
    rw [← eU6]
    have hHU6 : RI U6 := by rw [eU6]; exact RI_w hHT5
    have hFU6 : FR md_mo_thing__p S U6 := by rw [eU6]; exact FR.wI hFT5 (mdf_i (r := (904, 905, 100, 101)) (List.mem_of_getElem? (i := 5) rfl) (inR_i (by omega) (by omega) (by omega) (by omega)))
    have w38 : Xi U6 904 100 = 2 := by rw [eU6]; exact Xi_same (by unfold rg; omega)
    refine y_aload_n rfl rfl ?_
    refine y_aload_n rfl rfl ?_
    have w39 : Xi U6 904 65 = Xi T5 904 65 := (show Xi U6 904 65 = Xi T5 904 65 from by rw [eU6]; exact Xi_ne (by omega))
    have w40 : Xi U6 904 66 = Xi T5 904 66 := (show Xi U6 904 66 = Xi T5 904 66 from by rw [eU6]; exact Xi_ne (by omega))
    have w41 : Xi U6 904 69 = Xi T5 904 69 := (show Xi U6 904 69 = Xi T5 904 69 from by rw [eU6]; exact Xi_ne (by omega))
    have w42 : Xi U6 904 8 = Xi T5 904 8 := (show Xi U6 904 8 = Xi T5 904 8 from by rw [eU6]; exact Xi_ne (by omega))
    refine y_callV rfl rfl rfl (t_mo_name__p hHU6 fs ns (by first | assumption | exact (VLR_FR hFU6 rfl (by assumption : VLR S _ _))) (by first | assumption | exact (JR_FR (FR_e eU6) rfl rfl rfl (by assumption : JR T5 _ _))) _) ?_
    rintro _ T7 ⟨hHT7, w49, z48, rfl, w48, w43, w44, w45, k115, w46, w47⟩
    have hFT7 : FR md_mo_thing__p S T7 := FR.tr hFU6 w49 rfl
    show Pl _ _ _ _ _ _ [iv z48, .ref 904] _ _
    have : Xi T7 904 65 = 0 → (fs : Int) ≤ Xi T7 904 8 ∧ Xi T7 904 8 ≤ fs + ns := JR.i (by assumption)
    have gp115 := w43
    try rw [FRR hFU6 rfl] at gp115
    try rw [show cu U6 fs = cu T5 fs from cu_eq (by omega) (by omega) (by omega)] at gp115
    have K115 : ∀ r : Nat, (r : Int) < Xi S 904 69 → Xi T7 950 r = Xi S 950 r ∧ Xi T7 951 r = Xi S 951 r := fun r hr => by have t := k115 r (by omega); exact ⟨t.1.trans (((fun j => ((FR_e eU6).cx 950 rfl j).1) r).trans (K108 r hr).1), t.2.trans (((fun j => ((FR_e eU6).cx 951 rfl j).1) r).trans (K108 r hr).2)⟩
    refine y_pfi rfl rfl rfl rfl ?_
    obtain ⟨U8, eU8⟩ : ∃ T : sS, T = uI T7 904 99 (Int32.ofInt z48) := ⟨_, rfl⟩
    rw [← eU8]
    have hHU8 : RI U8 := by rw [eU8]; exact RI_w hHT7
    have hFU8 : FR md_mo_thing__p S U8 := by rw [eU8]; exact FR.wI hFT7 (mdf_i (r := (904, 905, 99, 100)) (List.mem_of_getElem? (i := 4) rfl) (inR_i (by omega) (by omega) (by omega) (by omega)))
    have w50 : Xi U8 904 99 = z48 := by rw [eU8]; exact Xi_same (by unfold rg; omega)
    refine y_aload_n rfl rfl ?_
    refine y_aload_n rfl rfl ?_
    refine y_gfi rfl rfl rfl rfl rfl ?_
    have w51 : -2147483648 ≤ (Xi U8 904 65) ∧ (Xi U8 904 65) ≤ 2147483647 := Xi_rgI
    refine y_if_eq rfl rfl (by unfold rg; omega) (fun w52 => ?_) (fun w53 => ?_)
    · refine y_aload_n rfl rfl ?_
      refine y_gfr rfl rfl rfl rfl rfl (hHU8.r 904 67 950 rfl) ?_
      refine y_aload_n rfl rfl ?_
      refine y_gfi rfl rfl rfl rfl rfl ?_
      refine y_ialoadP (n := 2600) rfl rfl (by unfold rg; omega) (fun w54 w55 => ?_)
      have w56 : -2147483648 ≤ (Xi U8 950 (((Xi U8 904 99)).toNat)) ∧ (Xi U8 950 (((Xi U8 904 99)).toNat)) ≤ 2147483647 := Xi_rgI
      refine y_pfi rfl rfl rfl rfl ?_
      obtain ⟨U9, eU9⟩ : ∃ T : sS, T = uI U8 904 101 (Int32.ofInt (Xi U8 950 (((Xi U8 904 99)).toNat))) := ⟨_, rfl⟩
      rw [← eU9]
      have hHU9 : RI U9 := by rw [eU9]; exact RI_w hHU8
      have hFU9 : FR md_mo_thing__p S U9 := by rw [eU9]; exact FR.wI hFU8 (mdf_i (r := (904, 905, 101, 102)) (List.mem_of_getElem? (i := 6) rfl) (inR_i (by omega) (by omega) (by omega) (by omega)))
      have w57 : Xi U9 904 101 = (Xi U8 950 (((Xi U8 904 99)).toNat)) := by rw [eU9]; exact Xi_same (by unfold rg; omega)
      have K145 : ∀ r : Nat, (r : Int) < Xi S 904 69 → Xi U9 950 r = Xi S 950 r ∧ Xi U9 951 r = Xi S 951 r := fun r hr => ⟨((fun j => ((FR_e eU9).cx 950 rfl j).1.trans (((FR_e eU8).cx 950 rfl j).1)) r).trans (K115 r hr).1, ((fun j => ((FR_e eU9).cx 951 rfl j).1.trans (((FR_e eU8).cx 951 rfl j).1)) r).trans (K115 r hr).2⟩
      refine y_return rfl rfl ?_
      have w58 : Xi U9 904 65 = Xi T7 904 65 := (show Xi U9 904 65 = Xi U8 904 65 from by rw [eU9]; exact Xi_ne (by omega)).trans ((show Xi U8 904 65 = Xi T7 904 65 from by rw [eU8]; exact Xi_ne (by omega)))
      have w59 : Xi U9 904 66 = Xi T7 904 66 := (show Xi U9 904 66 = Xi U8 904 66 from by rw [eU9]; exact Xi_ne (by omega)).trans ((show Xi U8 904 66 = Xi T7 904 66 from by rw [eU8]; exact Xi_ne (by omega)))
      have w60 : Xi U9 904 69 = Xi T7 904 69 := (show Xi U9 904 69 = Xi U8 904 69 from by rw [eU9]; exact Xi_ne (by omega)).trans ((show Xi U8 904 69 = Xi T7 904 69 from by rw [eU8]; exact Xi_ne (by omega)))
      have w61 : Xi U9 904 8 = Xi T7 904 8 := (show Xi U9 904 8 = Xi U8 904 8 from by rw [eU9]; exact Xi_ne (by omega)).trans ((show Xi U8 904 8 = Xi T7 904 8 from by rw [eU8]; exact Xi_ne (by omega)))
      exact ⟨hHU9, hFU9, rfl, (by first | exact G30 | exact G102 | exact (cu_cge (S := S) (cu_eq (by omega) (by omega) (by omega)) gp115 (fun b => gTh_n (c108 b).1 (c108 b).2.1 (c108 b).2.2)).trans (cu_eq (by omega) (by omega) (by omega)).symm), (by omega), (by first | exact K30 | exact K102 | exact K145), (by omega), (by first | assumption | exact (JR_FR (FR_e eU9) rfl rfl rfl (JR_FR (FR_e eU8) rfl rfl rfl (by assumption : JR T7 _ _))))⟩
    · refine y_aload_n rfl rfl ?_
      refine y_gfi rfl rfl rfl rfl rfl ?_
      have w62 : -2147483648 ≤ (Xi U8 904 8) ∧ (Xi U8 904 8) ≤ 2147483647 := Xi_rgI
      refine y_goto rfl rfl ?_
      refine y_pfi rfl rfl rfl rfl ?_
      obtain ⟨U10, eU10⟩ : ∃ T : sS, T = uI U8 904 101 (Int32.ofInt (Xi U8 904 8)) := ⟨_, rfl⟩
      rw [← eU10]
      have hHU10 : RI U10 := by rw [eU10]; exact RI_w hHU8
      have hFU10 : FR md_mo_thing__p S U10 := by rw [eU10]; exact FR.wI hFU8 (mdf_i (r := (904, 905, 101, 102)) (List.mem_of_getElem? (i := 6) rfl) (inR_i (by omega) (by omega) (by omega) (by omega)))
      have w63 : Xi U10 904 101 = (Xi U8 904 8) := by rw [eU10]; exact Xi_same (by unfold rg; omega)
      have K145 : ∀ r : Nat, (r : Int) < Xi S 904 69 → Xi U10 950 r = Xi S 950 r ∧ Xi U10 951 r = Xi S 951 r := fun r hr => ⟨((fun j => ((FR_e eU10).cx 950 rfl j).1.trans (((FR_e eU8).cx 950 rfl j).1)) r).trans (K115 r hr).1, ((fun j => ((FR_e eU10).cx 951 rfl j).1.trans (((FR_e eU8).cx 951 rfl j).1)) r).trans (K115 r hr).2⟩
      refine y_return rfl rfl ?_
      have w64 : Xi U10 904 65 = Xi T7 904 65 := (show Xi U10 904 65 = Xi U8 904 65 from by rw [eU10]; exact Xi_ne (by omega)).trans ((show Xi U8 904 65 = Xi T7 904 65 from by rw [eU8]; exact Xi_ne (by omega)))
      have w65 : Xi U10 904 66 = Xi T7 904 66 := (show Xi U10 904 66 = Xi U8 904 66 from by rw [eU10]; exact Xi_ne (by omega)).trans ((show Xi U8 904 66 = Xi T7 904 66 from by rw [eU8]; exact Xi_ne (by omega)))
      have w66 : Xi U10 904 69 = Xi T7 904 69 := (show Xi U10 904 69 = Xi U8 904 69 from by rw [eU10]; exact Xi_ne (by omega)).trans ((show Xi U8 904 69 = Xi T7 904 69 from by rw [eU8]; exact Xi_ne (by omega)))
      have w67 : Xi U10 904 8 = Xi T7 904 8 := (show Xi U10 904 8 = Xi U8 904 8 from by rw [eU10]; exact Xi_ne (by omega)).trans ((show Xi U8 904 8 = Xi T7 904 8 from by rw [eU8]; exact Xi_ne (by omega)))
      exact ⟨hHU10, hFU10, rfl, (by first | exact G30 | exact G102 | exact (cu_cge (S := S) (cu_eq (by omega) (by omega) (by omega)) gp115 (fun b => gTh_n (c108 b).1 (c108 b).2.1 (c108 b).2.2)).trans (cu_eq (by omega) (by omega) (by omega)).symm), (by omega), (by first | exact K30 | exact K102 | exact K145), (by omega), (by first | assumption | exact (JR_FR (FR_e eU10) rfl rfl rfl (JR_FR (FR_e eU8) rfl rfl rfl (by assumption : JR T7 _ _))))⟩
  refine y_aload_n rfl rfl ?_
  refine y_aload_n rfl rfl ?_
  refine y_gfi rfl rfl rfl rfl rfl ?_
  refine y_pfi rfl rfl rfl rfl ?_
  obtain ⟨U11, eU11⟩ : ∃ T : sS, T = uI S 904 101 (Int32.ofInt (Xi S 904 8)) := ⟨_, rfl⟩
  rw [← eU11]
  have hHU11 : RI U11 := by rw [eU11]; exact RI_w hH
  have hFU11 : FR md_mo_thing__p S U11 := by rw [eU11]; exact FR.wI hF (mdf_i (r := (904, 905, 101, 102)) (List.mem_of_getElem? (i := 6) rfl) (inR_i (by omega) (by omega) (by omega) (by omega)))
  have w68 : Xi U11 904 101 = (Xi S 904 8) := by rw [eU11]; exact Xi_same (by unfold rg; omega)
  refine y_aload_n rfl rfl ?_
  refine y_sipush rfl rfl ?_
  have w69 : Xi U11 904 65 = Xi S 904 65 := (show Xi U11 904 65 = Xi S 904 65 from by rw [eU11]; exact Xi_ne (by omega))
  have w70 : Xi U11 904 66 = Xi S 904 66 := (show Xi U11 904 66 = Xi S 904 66 from by rw [eU11]; exact Xi_ne (by omega))
  have w71 : Xi U11 904 69 = Xi S 904 69 := (show Xi U11 904 69 = Xi S 904 69 from by rw [eU11]; exact Xi_ne (by omega))
  have w72 : Xi U11 904 8 = Xi S 904 8 := (show Xi U11 904 8 = Xi S 904 8 from by rw [eU11]; exact Xi_ne (by omega))
  refine y_callV rfl rfl rfl (t_mo_isNext__p hHU11 fs ns 154 ⟨by omega, by omega⟩ (by first | assumption | exact (VLR_FR hFU11 rfl (by assumption : VLR S _ _))) (by first | assumption | exact JR.i (by first | assumption | exact (JR_FR (FR_e eU11) rfl rfl rfl (by assumption : JR S _ _)))) (rfl) _) ?_
  rintro _ _ ⟨rfl, z74, rfl, w74, w73⟩
  show Pl _ _ _ _ _ _ [iv z74] _ _
  have gb12 := w73
  try rw [FRR hFU11 rfl] at gb12
  try rw [show Xi U11 904 8 = Xi S 904 8 by omega] at gb12
  try rw [show un7 154 = 54 from rfl] at gb12
  refine y_if_eq rfl rfl (by unfold rg; omega) (fun w75 => ?_) (fun w76 => ?_)
  · refine y_aload_n rfl rfl ?_
    refine y_sipush rfl rfl ?_
    refine y_callV rfl rfl rfl (t_mo_isNext__p hHU11 fs ns 153 ⟨by omega, by omega⟩ (by first | assumption | exact (VLR_FR hFU11 rfl (by assumption : VLR S _ _))) (by first | assumption | exact JR.i (by first | assumption | exact (JR_FR (FR_e eU11) rfl rfl rfl (by assumption : JR S _ _)))) (rfl) _) ?_
    rintro _ _ ⟨rfl, z82, rfl, w82, w81⟩
    show Pl _ _ _ _ _ _ [iv z82] _ _
    have gb40 := w81
    try rw [FRR hFU11 rfl] at gb40
    try rw [show Xi U11 904 8 = Xi S 904 8 by omega] at gb40
    try rw [show un7 153 = 53 from rfl] at gb40
    refine y_if_ne rfl rfl (by unfold rg; omega) (fun w83 => ?_) (fun w84 => ?_)
    · have w85 : Xi U11 904 65 = Xi S 904 65 := (show Xi U11 904 65 = Xi S 904 65 from by rw [eU11]; exact Xi_ne (by omega))
      exact Pl_weak (C72 U11 hHU11 hFU11  (by omega) (by omega) (by omega) (by omega) (by first | assumption | exact (JR_FR (FR_e eU11) rfl rfl rfl (by assumption : JR S _ _))) (by omega) (by omega) (fun r _ => ⟨(fun j => ((FR_e eU11).cx 950 rfl j).1) r, (fun j => ((FR_e eU11).cx 951 rfl j).1) r⟩)) (by omega) (And.intro rfl (True.intro))
    · refine y_aload_n rfl rfl ?_
      refine y_bipush rfl rfl ?_
      refine y_callV rfl rfl rfl (t_mo_isNext__p hHU11 fs ns 102 ⟨by omega, by omega⟩ (by first | assumption | exact (VLR_FR hFU11 rfl (by assumption : VLR S _ _))) (by first | assumption | exact JR.i (by first | assumption | exact (JR_FR (FR_e eU11) rfl rfl rfl (by assumption : JR S _ _)))) (rfl) _) ?_
      rintro _ _ ⟨rfl, z94, rfl, w94, w93⟩
      show Pl _ _ _ _ _ _ [iv z94] _ _
      have gb49 := w93
      try rw [FRR hFU11 rfl] at gb49
      try rw [show Xi U11 904 8 = Xi S 904 8 by omega] at gb49
      try rw [show un7 102 = 2 from rfl] at gb49
      refine y_if_eq rfl rfl (by unfold rg; omega) (fun w95 => ?_) (fun w96 => ?_)
      · have w97 : Xi U11 904 65 = Xi S 904 65 := (show Xi U11 904 65 = Xi S 904 65 from by rw [eU11]; exact Xi_ne (by omega))
        exact Pl_weak (C108 U11 hHU11 hFU11  (by omega) (by omega) (by omega) (by omega) (by first | assumption | exact (JR_FR (FR_e eU11) rfl rfl rfl (by assumption : JR S _ _))) (by omega) (fun r _ => ⟨(fun j => ((FR_e eU11).cx 950 rfl j).1) r, (fun j => ((FR_e eU11).cx 951 rfl j).1) r⟩)) (by omega) (And.intro rfl (True.intro))
      · refine y_aload_n rfl rfl ?_
        refine y_gfr rfl rfl rfl rfl rfl (hHU11.r 904 4 907 rfl) ?_
        refine y_aload_n rfl rfl ?_
        refine y_gfi rfl rfl rfl rfl rfl ?_
        have w101 : (Xi U11 904 8) = (Xi S 904 8) := (show Xi U11 904 8 = Xi S 904 8 from by rw [eU11]; exact Xi_ne (by omega))
        rw [w101]
        refine y_iconst rfl ?_
        refine y_iadd rfl ?_
        refine y_ialoadP (n := 5002) rfl rfl (by unfold rg; omega) (fun w102 w103 => ?_)
        have w104 : -2147483648 ≤ (Xi U11 907 ((((Xi S 904 8) + 1)).toNat)) ∧ (Xi U11 907 ((((Xi S 904 8) + 1)).toNat)) ≤ 2147483647 := Xi_rgI
        have u65 : Xi S 904 8 + 1 ≤ fs + ns := in_u2 hvl (by omega) (by omega) (by omega) (by omega)
        have T65 := tR_k (k := 153) (z := (Xi U11 907 ((((Xi S 904 8) + 1)).toNat))) (a := Xi S 904 8 + 1) hvl (by omega) (by omega) rfl (by first | exact ((hFU11.cx 907 rfl _).1).symm | rfl)
        rw [show un7 153 = 53 from rfl] at T65
        try rw [show Xi S 904 8 + 1 - (fs : Int) = Xi S 904 8 - fs + 1 by omega] at T65
        refine y_sipush rfl rfl ?_
        refine y_icmp_ne rfl rfl (by unfold rg; omega) (by unfold rg; omega) (fun w105 => ?_) (fun w106 => ?_)
        · have w107 : Xi U11 904 65 = Xi S 904 65 := (show Xi U11 904 65 = Xi S 904 65 from by rw [eU11]; exact Xi_ne (by omega))
          exact Pl_weak (C108 U11 hHU11 hFU11  (by omega) (by omega) (by omega) (by omega) (by first | assumption | exact (JR_FR (FR_e eU11) rfl rfl rfl (by assumption : JR S _ _))) (by omega) (fun r _ => ⟨(fun j => ((FR_e eU11).cx 950 rfl j).1) r, (fun j => ((FR_e eU11).cx 951 rfl j).1) r⟩)) (by omega) (And.intro rfl (True.intro))
        · have w111 : Xi U11 904 65 = Xi S 904 65 := (show Xi U11 904 65 = Xi S 904 65 from by rw [eU11]; exact Xi_ne (by omega))
          exact Pl_weak (C72 U11 hHU11 hFU11  (by omega) (by omega) (by omega) (by omega) (by first | assumption | exact (JR_FR (FR_e eU11) rfl rfl rfl (by assumption : JR S _ _))) (by omega) (by omega) (fun r _ => ⟨(fun j => ((FR_e eU11).cx 950 rfl j).1) r, (fun j => ((FR_e eU11).cx 951 rfl j).1) r⟩)) (by omega) (And.intro rfl (True.intro))
  · refine y_aload_n rfl rfl ?_
    refine y_iconst rfl ?_
    refine y_pfi rfl rfl rfl rfl ?_
    obtain ⟨U12, eU12⟩ : ∃ T : sS, T = uI U11 904 100 (Int32.ofInt 0) := ⟨_, rfl⟩
    rw [← eU12]
    have hHU12 : RI U12 := by rw [eU12]; exact RI_w hHU11
    have hFU12 : FR md_mo_thing__p S U12 := by rw [eU12]; exact FR.wI hFU11 (mdf_i (r := (904, 905, 100, 101)) (List.mem_of_getElem? (i := 5) rfl) (inR_i (by omega) (by omega) (by omega) (by omega)))
    have w115 : Xi U12 904 100 = 0 := by rw [eU12]; exact Xi_same (by unfold rg; omega)
    refine y_aload_n rfl rfl ?_
    refine y_dup rfl rfl ?_
    refine y_gfi rfl rfl rfl rfl rfl ?_
    have w116 : (Xi U12 904 8) = (Xi S 904 8) := (show Xi U12 904 8 = Xi U11 904 8 from by rw [eU12]; exact Xi_ne (by omega)).trans ((show Xi U11 904 8 = Xi S 904 8 from by rw [eU11]; exact Xi_ne (by omega)))
    rw [w116]
    refine y_iconst rfl ?_
    refine y_iadd rfl ?_
    refine y_pfi rfl rfl rfl rfl ?_
    obtain ⟨U13, eU13⟩ : ∃ T : sS, T = uI U12 904 8 (Int32.ofInt ((Xi S 904 8) + 1)) := ⟨_, rfl⟩
    rw [← eU13]
    have hHU13 : RI U13 := by rw [eU13]; exact RI_w hHU12
    have hFU13 : FR md_mo_thing__p S U13 := by rw [eU13]; exact FR.wI hFU12 (mdf_i (r := (904, 905, 8, 9)) (List.mem_of_getElem? (i := 0) rfl) (inR_i (by omega) (by omega) (by omega) (by omega)))
    have w117 : Xi U13 904 8 = ((Xi S 904 8) + 1) := by rw [eU13]; exact Xi_same (by unfold rg; omega)
    have b30_ : Xi U13 904 65 = Xi U12 904 65 := (by rw [eU13, Xi_ne (by omega)]); have G30 : gSq (cu S fs) (gTh (tR S fs ns)) = cu U13 fs := cu_st (by omega) (by rw [eU13, Xi_ne (by omega), eU12, Xi_ne (by omega)]; omega) rfl (by rw [gTh_1 (by omega)]; exact pe rfl (by omega))
    have b30_ : Xi U13 904 65 = Xi U12 904 65 := (by rw [eU13, Xi_ne (by omega)]); have J30 : JR U13 fs ns := jr_up (JR_FR (FR_e eU12) rfl rfl rfl (JR_FR (FR_e eU11) rfl rfl rfl (by assumption : JR S _ _))) ((VLR_FR hFU12 rfl (by assumption : VLR S _ _))) eU13 (by omega) (fun b => by first | omega | (rw [FRR hFU12 rfl]; omega) | (rw [FRR hFU12 rfl, show Xi U12 904 8 = Xi S 904 8 by omega]; omega))
    have : Xi U13 904 65 = 0 → (fs : Int) ≤ Xi U13 904 8 ∧ Xi U13 904 8 ≤ fs + ns := JR.i (by assumption)
    have K30 : ∀ r : Nat, (r : Int) < Xi S 904 69 → Xi U13 950 r = Xi S 950 r ∧ Xi U13 951 r = Xi S 951 r := fun r _ => ⟨(fun j => ((FR_e eU13).cx 950 rfl j).1.trans (((FR_e eU12).cx 950 rfl j).1.trans (((FR_e eU11).cx 950 rfl j).1))) r, (fun j => ((FR_e eU13).cx 951 rfl j).1.trans (((FR_e eU12).cx 951 rfl j).1.trans (((FR_e eU11).cx 951 rfl j).1))) r⟩
    refine y_goto rfl rfl ?_
    refine y_return rfl rfl ?_
    have w118 : Xi U13 904 65 = Xi S 904 65 := (show Xi U13 904 65 = Xi U12 904 65 from by rw [eU13]; exact Xi_ne (by omega)).trans ( (show Xi U12 904 65 = Xi U11 904 65 from by rw [eU12]; exact Xi_ne (by omega)).trans ((show Xi U11 904 65 = Xi S 904 65 from by rw [eU11]; exact Xi_ne (by omega))))
    have w119 : Xi U13 904 66 = Xi S 904 66 := (show Xi U13 904 66 = Xi U12 904 66 from by rw [eU13]; exact Xi_ne (by omega)).trans ( (show Xi U12 904 66 = Xi U11 904 66 from by rw [eU12]; exact Xi_ne (by omega)).trans ((show Xi U11 904 66 = Xi S 904 66 from by rw [eU11]; exact Xi_ne (by omega))))
    have w120 : Xi U13 904 69 = Xi S 904 69 := (show Xi U13 904 69 = Xi U12 904 69 from by rw [eU13]; exact Xi_ne (by omega)).trans ( (show Xi U12 904 69 = Xi U11 904 69 from by rw [eU12]; exact Xi_ne (by omega)).trans ((show Xi U11 904 69 = Xi S 904 69 from by rw [eU11]; exact Xi_ne (by omega))))
    exact ⟨hHU13, hFU13, rfl, (by first | exact G30 | exact G102 | exact (cu_cge (S := S) (cu_eq (by omega) (by omega) (by omega)) gp115 (fun b => gTh_n (c108 b).1 (c108 b).2.1 (c108 b).2.2)).trans (cu_eq (by omega) (by omega) (by omega)).symm), (by omega), (by first | exact K30 | exact K102 | exact K145), (by omega), (by first | assumption | exact (by assumption : JR U13 _ _))⟩
def md_mo_thingOfTest__p : List rec := [(904, 905, 8, 9), (904, 905, 65, 66), (904, 905, 66, 67), (904, 905, 69, 70), (904, 905, 99, 100), (904, 905, 100, 101), (904, 905, 101, 102), (950, 951, 0, 100000), (951, 952, 0, 100000), (954, 955, 0, 100000), (955, 956, 0, 100000)]
abbrev Q_mo_thingOfTest__p (S : sS) (fs : Nat) (ns : Nat) : pst := fun r S1 => RI S1 ∧ FR md_mo_thingOfTest__p S S1 ∧ (r = none ∧ (gSq (cu S fs) (gTh (tR S fs ns)) = cu S1 fs) ∧ (Xi S 904 69 ≤ Xi S1 904 69) ∧ (Xi S1 904 65 = 0 → Xi S 904 65 = 0 ∧ Xi S 904 8 ≤ Xi S1 904 8) ∧ (JR S1 fs ns))
set_option maxRecDepth 100000 in
theorem t_mo_thingOfTest__p {S : sS} (hH : RI S) (fs : Nat) (ns : Nat) (hvl : VLR S fs ns) (hJR : JR S fs ns) (d : Nat) : Mp lay0 (d + 5) m_mo_thingOfTest [.ref 904] S (Q_mo_thingOfTest__p S fs ns) := by
  refine Mp_R rfl rfl (fun fu => ?_)
  have hF : FR md_mo_thingOfTest__p S S := FR.rf
  have w1 : -2147483648 ≤ Xi S 904 100 ∧ Xi S 904 100 ≤ 2147483647 := Xi_rgI
  have w2 : -2147483648 ≤ Xi S 904 101 ∧ Xi S 904 101 ≤ 2147483647 := Xi_rgI
  have w3 : -2147483648 ≤ Xi S 904 65 ∧ Xi S 904 65 ≤ 2147483647 := Xi_rgI
  have w4 : -2147483648 ≤ Xi S 904 66 ∧ Xi S 904 66 ≤ 2147483647 := Xi_rgI
  have w5 : -2147483648 ≤ Xi S 904 69 ∧ Xi S 904 69 ≤ 2147483647 := Xi_rgI
  have w6 : -2147483648 ≤ Xi S 904 8 ∧ Xi S 904 8 ≤ 2147483647 := Xi_rgI
  have : Xi S 904 65 = 0 → (fs : Int) ≤ Xi S 904 8 ∧ Xi S 904 8 ≤ fs + ns := JR.i (by assumption)
  have hbd := hvl.2.2.2
  refine y_aload_n rfl rfl ?_
  refine y_callV rfl rfl rfl (t_mo_thing__p hH fs ns (by first | assumption | exact (VLR_FR hF rfl (by assumption : VLR S _ _))) (by first | assumption | exact (by assumption : JR S _ _)) _) ?_
  rintro _ T1 ⟨hHT1, w13, rfl, w7, w8, w9, w10, w11⟩
  have hFT1 : FR md_mo_thingOfTest__p S T1 := FR.tr hF w13 rfl
  show Pl _ _ _ _ _ _ [] _ _
  have : Xi T1 904 65 = 0 → (fs : Int) ≤ Xi T1 904 8 ∧ Xi T1 904 8 ≤ fs + ns := JR.i (by assumption)
  have gp1 := w7
  refine y_aload_n rfl rfl ?_
  refine y_gfr rfl rfl rfl rfl rfl (hHT1.r 904 84 954 rfl) ?_
  refine y_aload_n rfl rfl ?_
  refine y_gfi rfl rfl rfl rfl rfl ?_
  have w14 : -2147483648 ≤ (Xi T1 904 93) ∧ (Xi T1 904 93) ≤ 2147483647 := Xi_rgI
  refine y_aload_n rfl rfl ?_
  refine y_gfi rfl rfl rfl rfl rfl ?_
  have w15 : -2147483648 ≤ (Xi T1 904 100) ∧ (Xi T1 904 100) ≤ 2147483647 := Xi_rgI
  refine y_sipush rfl rfl ?_
  refine y_imul rfl ?_
  refine y_aload_n rfl rfl ?_
  refine y_gfi rfl rfl rfl rfl rfl ?_
  have w16 : -2147483648 ≤ (Xi T1 904 101) ∧ (Xi T1 904 101) ≤ 2147483647 := Xi_rgI
  refine y_iadd rfl ?_
  refine y_iastoreP (n := 1700) rfl rfl (by unfold rg; omega) (fun w17 w18 => ?_)
  obtain ⟨U2, eU2⟩ : ∃ T : sS, T = uI T1 954 (((Xi T1 904 93)).toNat) (Int32.ofInt (((Xi T1 904 100) * 10000) + (Xi T1 904 101))) := ⟨_, rfl⟩
  rw [← eU2]
  have hHU2 : RI U2 := by rw [eU2]; exact RI_w hHT1
  have hFU2 : FR md_mo_thingOfTest__p S U2 := by rw [eU2]; exact FR.wI hFT1 (mdf_i (r := (954, 955, 0, 100000)) (List.mem_of_getElem? (i := 9) rfl) (inR_i (by omega) (by omega) (by omega) (by omega)))
  refine y_aload_n rfl rfl ?_
  refine y_gfr rfl rfl rfl rfl rfl (hHU2.r 904 85 955 rfl) ?_
  refine y_aload_n rfl rfl ?_
  refine y_gfi rfl rfl rfl rfl rfl ?_
  have w19 : (Xi U2 904 93) = (Xi T1 904 93) := (show Xi U2 904 93 = Xi T1 904 93 from by rw [eU2]; exact Xi_ne (by omega))
  rw [w19]
  refine y_aload_n rfl rfl ?_
  refine y_gfi rfl rfl rfl rfl rfl ?_
  have w20 : -2147483648 ≤ (Xi U2 904 99) ∧ (Xi U2 904 99) ≤ 2147483647 := Xi_rgI
  refine y_iastoreP (n := 1700) rfl rfl (by unfold rg; omega) (fun w21 w22 => ?_)
  obtain ⟨U3, eU3⟩ : ∃ T : sS, T = uI U2 955 (((Xi T1 904 93)).toNat) (Int32.ofInt (Xi U2 904 99)) := ⟨_, rfl⟩
  rw [← eU3]
  have hHU3 : RI U3 := by rw [eU3]; exact RI_w hHU2
  have hFU3 : FR md_mo_thingOfTest__p S U3 := by rw [eU3]; exact FR.wI hFU2 (mdf_i (r := (955, 956, 0, 100000)) (List.mem_of_getElem? (i := 10) rfl) (inR_i (by omega) (by omega) (by omega) (by omega)))
  have w23 : Xi U3 955 (((Xi T1 904 93)).toNat) = (Xi U2 904 99) := by rw [eU3]; exact Xi_same (by unfold rg; omega)
  refine y_return rfl rfl ?_
  have w24 : Xi U3 904 100 = Xi T1 904 100 := (show Xi U3 904 100 = Xi U2 904 100 from by rw [eU3]; exact Xi_ne (by omega)).trans ((show Xi U2 904 100 = Xi T1 904 100 from by rw [eU2]; exact Xi_ne (by omega)))
  have w25 : Xi U3 904 101 = Xi T1 904 101 := (show Xi U3 904 101 = Xi U2 904 101 from by rw [eU3]; exact Xi_ne (by omega)).trans ((show Xi U2 904 101 = Xi T1 904 101 from by rw [eU2]; exact Xi_ne (by omega)))
  have w26 : Xi U3 904 65 = Xi T1 904 65 := (show Xi U3 904 65 = Xi U2 904 65 from by rw [eU3]; exact Xi_ne (by omega)).trans ((show Xi U2 904 65 = Xi T1 904 65 from by rw [eU2]; exact Xi_ne (by omega)))
  have w27 : Xi U3 904 66 = Xi T1 904 66 := (show Xi U3 904 66 = Xi U2 904 66 from by rw [eU3]; exact Xi_ne (by omega)).trans ((show Xi U2 904 66 = Xi T1 904 66 from by rw [eU2]; exact Xi_ne (by omega)))
  have w28 : Xi U3 904 69 = Xi T1 904 69 := (show Xi U3 904 69 = Xi U2 904 69 from by rw [eU3]; exact Xi_ne (by omega)).trans ((show Xi U2 904 69 = Xi T1 904 69 from by rw [eU2]; exact Xi_ne (by omega)))
  have w29 : Xi U3 904 8 = Xi T1 904 8 := (show Xi U3 904 8 = Xi U2 904 8 from by rw [eU3]; exact Xi_ne (by omega)).trans ((show Xi U2 904 8 = Xi T1 904 8 from by rw [eU2]; exact Xi_ne (by omega)))
  exact ⟨hHU3, hFU3, rfl, (gp1.trans (cu_eq (by omega) (by omega) (by omega)).symm), (by omega), (by omega), (by first | assumption | exact (JR_FR (FR_e eU3) rfl rfl rfl (JR_FR (FR_e eU2) rfl rfl rfl (by assumption : JR T1 _ _))))⟩
def md_mo_testedWhat__p : List rec := [(904, 905, 8, 9), (904, 905, 65, 66), (904, 905, 66, 67), (904, 905, 69, 70), (904, 905, 78, 79), (950, 951, 0, 100000), (951, 952, 0, 100000), (952, 953, 0, 100000), (953, 954, 0, 100000), (957, 958, 0, 100000), (960, 961, 0, 100000)]
abbrev Q_mo_testedWhat__p (S : sS) (fs : Nat) (ns : Nat) (isNow : Int) : pst := fun r S1 => RI S1 ∧ FR md_mo_testedWhat__p S S1 ∧ (r = none ∧ (gSq (cu S fs) (gTw (tR S fs ns) isNow) = cu S1 fs) ∧ (Xi S 904 69 ≤ Xi S1 904 69) ∧ (Xi S1 904 65 = 0 → Xi S 904 65 = 0 ∧ Xi S 904 8 ≤ Xi S1 904 8) ∧ (JR S1 fs ns))
set_option maxRecDepth 100000 in
theorem t_mo_testedWhat__p {S : sS} (hH : RI S) (fs : Nat) (ns : Nat) (isNow : Int) (hisNow : 0 ≤ isNow ∧ isNow ≤ 1) (hvl : VLR S fs ns) (hJR : JR S fs ns) (d : Nat) : Mp lay0 (d + 4) m_mo_testedWhat [.ref 904, iv isNow] S (Q_mo_testedWhat__p S fs ns isNow) := by
  refine Mp_R rfl rfl (fun fu => ?_)
  have hF : FR md_mo_testedWhat__p S S := FR.rf
  have w1 : -2147483648 ≤ Xi S 904 65 ∧ Xi S 904 65 ≤ 2147483647 := Xi_rgI
  have w2 : -2147483648 ≤ Xi S 904 66 ∧ Xi S 904 66 ≤ 2147483647 := Xi_rgI
  have w3 : -2147483648 ≤ Xi S 904 69 ∧ Xi S 904 69 ≤ 2147483647 := Xi_rgI
  have w4 : -2147483648 ≤ Xi S 904 8 ∧ Xi S 904 8 ≤ 2147483647 := Xi_rgI
  have w5 : -2147483648 ≤ Xi S 904 93 ∧ Xi S 904 93 ≤ 2147483647 := Xi_rgI
  have : Xi S 904 65 = 0 → (fs : Int) ≤ Xi S 904 8 ∧ Xi S 904 8 ≤ fs + ns := JR.i (by assumption)
  have hbd := hvl.2.2.2
  have C24 : (isNow = 0) → (Xi S 904 65 = 0) → (tR S fs ns (Xi S 904 8 - fs) = 51 ∨ tR S fs ns (Xi S 904 8 - fs) = 52) → Pl fu lay0 (d + 3) m_mo_testedWhat 24 [(0, .ref 904)] [] S (Q_mo_testedWhat__p S fs ns isNow) := by
    intro w6 w7 c24
    refine y_aload_n rfl rfl ?_
    refine y_gfr rfl rfl rfl rfl rfl (hH.r 904 82 952 rfl) ?_
    refine y_aload_n rfl rfl ?_
    refine y_gfi rfl rfl rfl rfl rfl ?_
    refine y_aload_n rfl rfl ?_
    refine y_sipush rfl rfl ?_
    refine y_callV rfl rfl rfl (t_mo_isNext__p hH fs ns 151 ⟨by omega, by omega⟩ (by first | assumption | exact (VLR_FR hF rfl (by assumption : VLR S _ _))) (by first | assumption | exact JR.i (by first | assumption | exact (by assumption : JR S _ _))) (rfl) _) ?_
    rintro _ _ ⟨rfl, z9, rfl, w9, w8⟩
    show Pl _ _ _ _ _ _ [iv z9, iv (Xi S 904 93), .ref 952] _ _
    have gb36 := w8
    try rw [show un7 151 = 51 from rfl] at gb36
    refine y_if_eq rfl rfl (by unfold rg; omega) (fun w10 => ?_) (fun w11 => ?_)
    · refine y_iconst rfl ?_
      refine y_iastoreP (n := 1700) rfl rfl (by unfold rg; omega) (fun w12 w13 => ?_)
      obtain ⟨U1, eU1⟩ : ∃ T : sS, T = uI S 952 (((Xi S 904 93)).toNat) (Int32.ofInt 2) := ⟨_, rfl⟩
      rw [← eU1]
      have hHU1 : RI U1 := by rw [eU1]; exact RI_w hH
      have hFU1 : FR md_mo_testedWhat__p S U1 := by rw [eU1]; exact FR.wI hF (mdf_i (r := (952, 953, 0, 100000)) (List.mem_of_getElem? (i := 7) rfl) (inR_i (by omega) (by omega) (by omega) (by omega)))
      have w14 : Xi U1 952 (((Xi S 904 93)).toNat) = 2 := by rw [eU1]; exact Xi_same (by unfold rg; omega)
      refine y_aload_n rfl rfl ?_
      refine y_dup rfl rfl ?_
      refine y_gfi rfl rfl rfl rfl rfl ?_
      have w15 : (Xi U1 904 8) = (Xi S 904 8) := (show Xi U1 904 8 = Xi S 904 8 from by rw [eU1]; exact Xi_ne (by omega))
      rw [w15]
      refine y_iconst rfl ?_
      refine y_iadd rfl ?_
      refine y_pfi rfl rfl rfl rfl ?_
      obtain ⟨U2, eU2⟩ : ∃ T : sS, T = uI U1 904 8 (Int32.ofInt ((Xi S 904 8) + 1)) := ⟨_, rfl⟩
      rw [← eU2]
      have hHU2 : RI U2 := by rw [eU2]; exact RI_w hHU1
      have hFU2 : FR md_mo_testedWhat__p S U2 := by rw [eU2]; exact FR.wI hFU1 (mdf_i (r := (904, 905, 8, 9)) (List.mem_of_getElem? (i := 0) rfl) (inR_i (by omega) (by omega) (by omega) (by omega)))
      have w16 : Xi U2 904 8 = ((Xi S 904 8) + 1) := by rw [eU2]; exact Xi_same (by unfold rg; omega)
      have b55_ : Xi U2 904 65 = Xi U1 904 65 := (by rw [eU2, Xi_ne (by omega)]); have J55 : JR U2 fs ns := jr_up (JR_FR (FR_e eU1) rfl rfl rfl (by assumption : JR S _ _)) ((VLR_FR hFU1 rfl (by assumption : VLR S _ _))) eU2 (by omega) (fun b => by first | omega | (rw [FRR hFU1 rfl]; omega) | (rw [FRR hFU1 rfl, show Xi U1 904 8 = Xi S 904 8 by omega]; omega))
      have : Xi U2 904 65 = 0 → (fs : Int) ≤ Xi U2 904 8 ∧ Xi U2 904 8 ≤ fs + ns := JR.i (by assumption)
      refine y_aload_n rfl rfl ?_
      refine y_sipush rfl rfl ?_
      have w17 : Xi U2 904 65 = Xi S 904 65 := (show Xi U2 904 65 = Xi U1 904 65 from by rw [eU2]; exact Xi_ne (by omega)).trans ((show Xi U1 904 65 = Xi S 904 65 from by rw [eU1]; exact Xi_ne (by omega)))
      have w18 : Xi U2 904 66 = Xi S 904 66 := (show Xi U2 904 66 = Xi U1 904 66 from by rw [eU2]; exact Xi_ne (by omega)).trans ((show Xi U1 904 66 = Xi S 904 66 from by rw [eU1]; exact Xi_ne (by omega)))
      have w19 : Xi U2 904 69 = Xi S 904 69 := (show Xi U2 904 69 = Xi U1 904 69 from by rw [eU2]; exact Xi_ne (by omega)).trans ((show Xi U1 904 69 = Xi S 904 69 from by rw [eU1]; exact Xi_ne (by omega)))
      have w20 : Xi U2 904 93 = Xi S 904 93 := (show Xi U2 904 93 = Xi U1 904 93 from by rw [eU2]; exact Xi_ne (by omega)).trans ((show Xi U1 904 93 = Xi S 904 93 from by rw [eU1]; exact Xi_ne (by omega)))
      refine y_callV rfl rfl rfl (t_mo_take__p hHU2 fs ns 150 ⟨by omega, by omega⟩ (by first | assumption | exact (VLR_FR hFU2 rfl (by assumption : VLR S _ _))) (by first | assumption | exact (by assumption : JR U2 _ _)) (rfl) (by decide) _) ?_
      rintro _ T3 ⟨hHT3, w25, rfl, w21, w22, w23⟩
      have hFT3 : FR md_mo_testedWhat__p S T3 := FR.tr hFU2 w25 rfl
      show Pl _ _ _ _ _ _ [] _ _
      have : Xi T3 904 65 = 0 → (fs : Int) ≤ Xi T3 904 8 ∧ Xi T3 904 8 ≤ fs + ns := JR.i (by assumption)
      have gp62 := w21
      try rw [FRR hFU2 rfl] at gp62
      try rw [show un7 150 = 50 from rfl] at gp62
      refine y_aload_n rfl rfl ?_
      refine y_gfr rfl rfl rfl rfl rfl (hHT3.r 904 87 957 rfl) ?_
      refine y_aload_n rfl rfl ?_
      refine y_gfi rfl rfl rfl rfl rfl ?_
      have w26 : (Xi T3 904 93) = (Xi S 904 93) := (show Xi T3 904 93 = Xi U2 904 93 from w25.x _ _ rfl).trans ( (show Xi U2 904 93 = Xi U1 904 93 from by rw [eU2]; exact Xi_ne (by omega)).trans ((show Xi U1 904 93 = Xi S 904 93 from by rw [eU1]; exact Xi_ne (by omega))))
      rw [w26]
      refine y_aload_n rfl rfl ?_
      refine y_gfi rfl rfl rfl rfl rfl ?_
      have w27 : -2147483648 ≤ (Xi T3 904 8) ∧ (Xi T3 904 8) ≤ 2147483647 := Xi_rgI
      refine y_iastoreP (n := 1700) rfl rfl (by unfold rg; omega) (fun w28 w29 => ?_)
      obtain ⟨U4, eU4⟩ : ∃ T : sS, T = uI T3 957 (((Xi S 904 93)).toNat) (Int32.ofInt (Xi T3 904 8)) := ⟨_, rfl⟩
      rw [← eU4]
      have hHU4 : RI U4 := by rw [eU4]; exact RI_w hHT3
      have hFU4 : FR md_mo_testedWhat__p S U4 := by rw [eU4]; exact FR.wI hFT3 (mdf_i (r := (957, 958, 0, 100000)) (List.mem_of_getElem? (i := 9) rfl) (inR_i (by omega) (by omega) (by omega) (by omega)))
      have w30 : Xi U4 957 (((Xi S 904 93)).toNat) = (Xi T3 904 8) := by rw [eU4]; exact Xi_same (by unfold rg; omega)
      refine y_aload_n rfl rfl ?_
      refine y_iconst rfl ?_
      have w31 : Xi U4 904 65 = Xi T3 904 65 := (show Xi U4 904 65 = Xi T3 904 65 from by rw [eU4]; exact Xi_ne (by omega))
      have w32 : Xi U4 904 66 = Xi T3 904 66 := (show Xi U4 904 66 = Xi T3 904 66 from by rw [eU4]; exact Xi_ne (by omega))
      have w33 : Xi U4 904 69 = Xi S 904 69 := (show Xi U4 904 69 = Xi T3 904 69 from by rw [eU4]; exact Xi_ne (by omega)).trans ( (show Xi T3 904 69 = Xi U2 904 69 from w25.x _ _ rfl).trans ( (show Xi U2 904 69 = Xi U1 904 69 from by rw [eU2]; exact Xi_ne (by omega)).trans ((show Xi U1 904 69 = Xi S 904 69 from by rw [eU1]; exact Xi_ne (by omega)))))
      have w34 : Xi U4 904 8 = Xi T3 904 8 := (show Xi U4 904 8 = Xi T3 904 8 from by rw [eU4]; exact Xi_ne (by omega))
      have w35 : Xi U4 904 93 = Xi S 904 93 := (show Xi U4 904 93 = Xi T3 904 93 from by rw [eU4]; exact Xi_ne (by omega)).trans ( (show Xi T3 904 93 = Xi U2 904 93 from w25.x _ _ rfl).trans ( (show Xi U2 904 93 = Xi U1 904 93 from by rw [eU2]; exact Xi_ne (by omega)).trans ((show Xi U1 904 93 = Xi S 904 93 from by rw [eU1]; exact Xi_ne (by omega)))))
      refine y_callV rfl rfl rfl (t_mo_take__p hHU4 fs ns 4 ⟨by omega, by omega⟩ (by first | assumption | exact (VLR_FR hFU4 rfl (by assumption : VLR S _ _))) (by first | assumption | exact (JR_FR (FR_e eU4) rfl rfl rfl (by assumption : JR T3 _ _))) (rfl) (by decide) _) ?_
      rintro _ T5 ⟨hHT5, w40, rfl, w36, w37, w38⟩
      have hFT5 : FR md_mo_testedWhat__p S T5 := FR.tr hFU4 w40 rfl
      show Pl _ _ _ _ _ _ [] _ _
      have : Xi T5 904 65 = 0 → (fs : Int) ≤ Xi T5 904 8 ∧ Xi T5 904 8 ≤ fs + ns := JR.i (by assumption)
      have gp80 := w36
      try rw [FRR hFU4 rfl] at gp80
      try rw [show cu U4 fs = cu T3 fs from cu_eq (by omega) (by omega) (by omega)] at gp80
      try rw [show un7 4 = 101 from rfl] at gp80
      refine y_return rfl rfl ?_
      have w41 : Xi T5 904 69 = Xi S 904 69 := (show Xi T5 904 69 = Xi U4 904 69 from w40.x _ _ rfl).trans ( (show Xi U4 904 69 = Xi T3 904 69 from by rw [eU4]; exact Xi_ne (by omega)).trans ( (show Xi T3 904 69 = Xi U2 904 69 from w25.x _ _ rfl).trans ( (show Xi U2 904 69 = Xi U1 904 69 from by rw [eU2]; exact Xi_ne (by omega)).trans ((show Xi U1 904 69 = Xi S 904 69 from by rw [eU1]; exact Xi_ne (by omega))))))
      have w42 : Xi T5 904 93 = Xi S 904 93 := (show Xi T5 904 93 = Xi U4 904 93 from w40.x _ _ rfl).trans ( (show Xi U4 904 93 = Xi T3 904 93 from by rw [eU4]; exact Xi_ne (by omega)).trans ( (show Xi T3 904 93 = Xi U2 904 93 from w25.x _ _ rfl).trans ( (show Xi U2 904 93 = Xi U1 904 93 from by rw [eU2]; exact Xi_ne (by omega)).trans ((show Xi U1 904 93 = Xi S 904 93 from by rw [eU1]; exact Xi_ne (by omega))))))
      exact ⟨hHT5, hFT5, rfl, (by first | exact cu_og (by omega) (by rw [gTw_l (by omega) (by omega), cu_go gp62 (by omega) (by omega), gp80]) | (rcases (by omega : isNow = 0 ∨ isNow ≠ 0) with q | q <;> first | exact (cu_cg (cu_ch (N147.2 q) gp148) (fun b => by rw [gTw_w q (by omega) (by omega)]; exact gS_1.symm)).trans (cu_eq (by omega) (by omega) (by omega)).symm | exact (cu_cge (N147.1 q) gp148 (fun b => gTw_n q)).trans (cu_eq (by omega) (by omega) (by omega)).symm)), (by omega), (by omega), (by first | assumption | exact (by assumption : JR T5 _ _))⟩
    · refine y_iconst rfl ?_
      refine y_goto rfl rfl ?_
      refine y_iastoreP (n := 1700) rfl rfl (by unfold rg; omega) (fun w43 w44 => ?_)
      obtain ⟨U6, eU6⟩ : ∃ T : sS, T = uI S 952 (((Xi S 904 93)).toNat) (Int32.ofInt 1) := ⟨_, rfl⟩
      rw [← eU6]
      have hHU6 : RI U6 := by rw [eU6]; exact RI_w hH
      have hFU6 : FR md_mo_testedWhat__p S U6 := by rw [eU6]; exact FR.wI hF (mdf_i (r := (952, 953, 0, 100000)) (List.mem_of_getElem? (i := 7) rfl) (inR_i (by omega) (by omega) (by omega) (by omega)))
      have w45 : Xi U6 952 (((Xi S 904 93)).toNat) = 1 := by rw [eU6]; exact Xi_same (by unfold rg; omega)
      refine y_aload_n rfl rfl ?_
      refine y_dup rfl rfl ?_
      refine y_gfi rfl rfl rfl rfl rfl ?_
      have w46 : (Xi U6 904 8) = (Xi S 904 8) := (show Xi U6 904 8 = Xi S 904 8 from by rw [eU6]; exact Xi_ne (by omega))
      rw [w46]
      refine y_iconst rfl ?_
      refine y_iadd rfl ?_
      refine y_pfi rfl rfl rfl rfl ?_
      obtain ⟨U7, eU7⟩ : ∃ T : sS, T = uI U6 904 8 (Int32.ofInt ((Xi S 904 8) + 1)) := ⟨_, rfl⟩
      rw [← eU7]
      have hHU7 : RI U7 := by rw [eU7]; exact RI_w hHU6
      have hFU7 : FR md_mo_testedWhat__p S U7 := by rw [eU7]; exact FR.wI hFU6 (mdf_i (r := (904, 905, 8, 9)) (List.mem_of_getElem? (i := 0) rfl) (inR_i (by omega) (by omega) (by omega) (by omega)))
      have w47 : Xi U7 904 8 = ((Xi S 904 8) + 1) := by rw [eU7]; exact Xi_same (by unfold rg; omega)
      have b55_ : Xi U7 904 65 = Xi U6 904 65 := (by rw [eU7, Xi_ne (by omega)]); have J55 : JR U7 fs ns := jr_up (JR_FR (FR_e eU6) rfl rfl rfl (by assumption : JR S _ _)) ((VLR_FR hFU6 rfl (by assumption : VLR S _ _))) eU7 (by omega) (fun b => by first | omega | (rw [FRR hFU6 rfl]; omega) | (rw [FRR hFU6 rfl, show Xi U6 904 8 = Xi S 904 8 by omega]; omega))
      have : Xi U7 904 65 = 0 → (fs : Int) ≤ Xi U7 904 8 ∧ Xi U7 904 8 ≤ fs + ns := JR.i (by assumption)
      refine y_aload_n rfl rfl ?_
      refine y_sipush rfl rfl ?_
      have w48 : Xi U7 904 65 = Xi S 904 65 := (show Xi U7 904 65 = Xi U6 904 65 from by rw [eU7]; exact Xi_ne (by omega)).trans ((show Xi U6 904 65 = Xi S 904 65 from by rw [eU6]; exact Xi_ne (by omega)))
      have w49 : Xi U7 904 66 = Xi S 904 66 := (show Xi U7 904 66 = Xi U6 904 66 from by rw [eU7]; exact Xi_ne (by omega)).trans ((show Xi U6 904 66 = Xi S 904 66 from by rw [eU6]; exact Xi_ne (by omega)))
      have w50 : Xi U7 904 69 = Xi S 904 69 := (show Xi U7 904 69 = Xi U6 904 69 from by rw [eU7]; exact Xi_ne (by omega)).trans ((show Xi U6 904 69 = Xi S 904 69 from by rw [eU6]; exact Xi_ne (by omega)))
      have w51 : Xi U7 904 93 = Xi S 904 93 := (show Xi U7 904 93 = Xi U6 904 93 from by rw [eU7]; exact Xi_ne (by omega)).trans ((show Xi U6 904 93 = Xi S 904 93 from by rw [eU6]; exact Xi_ne (by omega)))
      refine y_callV rfl rfl rfl (t_mo_take__p hHU7 fs ns 150 ⟨by omega, by omega⟩ (by first | assumption | exact (VLR_FR hFU7 rfl (by assumption : VLR S _ _))) (by first | assumption | exact (by assumption : JR U7 _ _)) (rfl) (by decide) _) ?_
      rintro _ T8 ⟨hHT8, w56, rfl, w52, w53, w54⟩
      have hFT8 : FR md_mo_testedWhat__p S T8 := FR.tr hFU7 w56 rfl
      show Pl _ _ _ _ _ _ [] _ _
      have : Xi T8 904 65 = 0 → (fs : Int) ≤ Xi T8 904 8 ∧ Xi T8 904 8 ≤ fs + ns := JR.i (by assumption)
      have gp62 := w52
      try rw [FRR hFU7 rfl] at gp62
      try rw [show un7 150 = 50 from rfl] at gp62
      refine y_aload_n rfl rfl ?_
      refine y_gfr rfl rfl rfl rfl rfl (hHT8.r 904 87 957 rfl) ?_
      refine y_aload_n rfl rfl ?_
      refine y_gfi rfl rfl rfl rfl rfl ?_
      have w57 : (Xi T8 904 93) = (Xi S 904 93) := (show Xi T8 904 93 = Xi U7 904 93 from w56.x _ _ rfl).trans ( (show Xi U7 904 93 = Xi U6 904 93 from by rw [eU7]; exact Xi_ne (by omega)).trans ((show Xi U6 904 93 = Xi S 904 93 from by rw [eU6]; exact Xi_ne (by omega))))
      rw [w57]
      refine y_aload_n rfl rfl ?_
      refine y_gfi rfl rfl rfl rfl rfl ?_
      have w58 : -2147483648 ≤ (Xi T8 904 8) ∧ (Xi T8 904 8) ≤ 2147483647 := Xi_rgI
      refine y_iastoreP (n := 1700) rfl rfl (by unfold rg; omega) (fun w59 w60 => ?_)
      obtain ⟨U9, eU9⟩ : ∃ T : sS, T = uI T8 957 (((Xi S 904 93)).toNat) (Int32.ofInt (Xi T8 904 8)) := ⟨_, rfl⟩
      rw [← eU9]
      have hHU9 : RI U9 := by rw [eU9]; exact RI_w hHT8
      have hFU9 : FR md_mo_testedWhat__p S U9 := by rw [eU9]; exact FR.wI hFT8 (mdf_i (r := (957, 958, 0, 100000)) (List.mem_of_getElem? (i := 9) rfl) (inR_i (by omega) (by omega) (by omega) (by omega)))
      have w61 : Xi U9 957 (((Xi S 904 93)).toNat) = (Xi T8 904 8) := by rw [eU9]; exact Xi_same (by unfold rg; omega)
      refine y_aload_n rfl rfl ?_
      refine y_iconst rfl ?_
      have w62 : Xi U9 904 65 = Xi T8 904 65 := (show Xi U9 904 65 = Xi T8 904 65 from by rw [eU9]; exact Xi_ne (by omega))
      have w63 : Xi U9 904 66 = Xi T8 904 66 := (show Xi U9 904 66 = Xi T8 904 66 from by rw [eU9]; exact Xi_ne (by omega))
      have w64 : Xi U9 904 69 = Xi S 904 69 := (show Xi U9 904 69 = Xi T8 904 69 from by rw [eU9]; exact Xi_ne (by omega)).trans ( (show Xi T8 904 69 = Xi U7 904 69 from w56.x _ _ rfl).trans ( (show Xi U7 904 69 = Xi U6 904 69 from by rw [eU7]; exact Xi_ne (by omega)).trans ((show Xi U6 904 69 = Xi S 904 69 from by rw [eU6]; exact Xi_ne (by omega)))))
      have w65 : Xi U9 904 8 = Xi T8 904 8 := (show Xi U9 904 8 = Xi T8 904 8 from by rw [eU9]; exact Xi_ne (by omega))
      have w66 : Xi U9 904 93 = Xi S 904 93 := (show Xi U9 904 93 = Xi T8 904 93 from by rw [eU9]; exact Xi_ne (by omega)).trans ( (show Xi T8 904 93 = Xi U7 904 93 from w56.x _ _ rfl).trans ( (show Xi U7 904 93 = Xi U6 904 93 from by rw [eU7]; exact Xi_ne (by omega)).trans ((show Xi U6 904 93 = Xi S 904 93 from by rw [eU6]; exact Xi_ne (by omega)))))
      refine y_callV rfl rfl rfl (t_mo_take__p hHU9 fs ns 4 ⟨by omega, by omega⟩ (by first | assumption | exact (VLR_FR hFU9 rfl (by assumption : VLR S _ _))) (by first | assumption | exact (JR_FR (FR_e eU9) rfl rfl rfl (by assumption : JR T8 _ _))) (rfl) (by decide) _) ?_
      rintro _ T10 ⟨hHT10, w71, rfl, w67, w68, w69⟩
      have hFT10 : FR md_mo_testedWhat__p S T10 := FR.tr hFU9 w71 rfl
      show Pl _ _ _ _ _ _ [] _ _
      have : Xi T10 904 65 = 0 → (fs : Int) ≤ Xi T10 904 8 ∧ Xi T10 904 8 ≤ fs + ns := JR.i (by assumption)
      have gp80 := w67
      try rw [FRR hFU9 rfl] at gp80
      try rw [show cu U9 fs = cu T8 fs from cu_eq (by omega) (by omega) (by omega)] at gp80
      try rw [show un7 4 = 101 from rfl] at gp80
      refine y_return rfl rfl ?_
      have w72 : Xi T10 904 69 = Xi S 904 69 := (show Xi T10 904 69 = Xi U9 904 69 from w71.x _ _ rfl).trans ( (show Xi U9 904 69 = Xi T8 904 69 from by rw [eU9]; exact Xi_ne (by omega)).trans ( (show Xi T8 904 69 = Xi U7 904 69 from w56.x _ _ rfl).trans ( (show Xi U7 904 69 = Xi U6 904 69 from by rw [eU7]; exact Xi_ne (by omega)).trans ((show Xi U6 904 69 = Xi S 904 69 from by rw [eU6]; exact Xi_ne (by omega))))))
      have w73 : Xi T10 904 93 = Xi S 904 93 := (show Xi T10 904 93 = Xi U9 904 93 from w71.x _ _ rfl).trans ( (show Xi U9 904 93 = Xi T8 904 93 from by rw [eU9]; exact Xi_ne (by omega)).trans ( (show Xi T8 904 93 = Xi U7 904 93 from w56.x _ _ rfl).trans ( (show Xi U7 904 93 = Xi U6 904 93 from by rw [eU7]; exact Xi_ne (by omega)).trans ((show Xi U6 904 93 = Xi S 904 93 from by rw [eU6]; exact Xi_ne (by omega))))))
      exact ⟨hHT10, hFT10, rfl, (by first | exact cu_og (by omega) (by rw [gTw_l (by omega) (by omega), cu_go gp62 (by omega) (by omega), gp80]) | (rcases (by omega : isNow = 0 ∨ isNow ≠ 0) with q | q <;> first | exact (cu_cg (cu_ch (N147.2 q) gp148) (fun b => by rw [gTw_w q (by omega) (by omega)]; exact gS_1.symm)).trans (cu_eq (by omega) (by omega) (by omega)).symm | exact (cu_cge (N147.1 q) gp148 (fun b => gTw_n q)).trans (cu_eq (by omega) (by omega) (by omega)).symm)), (by omega), (by omega), (by first | assumption | exact (by assumption : JR T10 _ _))⟩
  have C84 : (isNow = 0 → Xi S 904 65 = 0 → tR S fs ns (Xi S 904 8 - fs) ≠ 51 ∧ tR S fs ns (Xi S 904 8 - fs) ≠ 52) → Pl fu lay0 (d + 3) m_mo_testedWhat 84 [(0, .ref 904), (1, iv isNow)] [] S (Q_mo_testedWhat__p S fs ns isNow) := by
    intro q84
    have C147 : ∀  (T11 : sS) (_ : RI T11) (_ : FR md_mo_testedWhat__p S T11), (JR T11 fs ns) → (Xi T11 904 65 = 0 → (fs : Int) ≤ Xi T11 904 8 ∧ Xi T11 904 8 ≤ fs + ns) → (Xi T11 904 65 = Xi S 904 65) → (Xi T11 904 69 = Xi S 904 69) → (Xi S 904 65 = 0 → Xi S 904 8 ≤ Xi T11 904 8) → (isNow = 0 → Xi S 904 65 = 0 → tR S fs ns (Xi S 904 8 - fs) ≠ 51 ∧ tR S fs ns (Xi S 904 8 - fs) ≠ 52) → ((isNow ≠ 0 → cu T11 fs = cu S fs) ∧ (isNow = 0 → gSq (cu S fs) (fun b => (1, gTn (tR S fs ns) b)) = cu T11 fs)) → Pl fu lay0 (d + 3) m_mo_testedWhat 147 [(0, .ref 904)] [] T11 (Q_mo_testedWhat__p S fs ns isNow) := by
      intro T11 hHT11 hFT11 J147 j147 w74 w75 w76 q147 N147
      have w77 : -2147483648 ≤ Xi T11 904 65 ∧ Xi T11 904 65 ≤ 2147483647 := Xi_rgI
      have w78 : -2147483648 ≤ Xi T11 904 66 ∧ Xi T11 904 66 ≤ 2147483647 := Xi_rgI
      have w79 : -2147483648 ≤ Xi T11 904 69 ∧ Xi T11 904 69 ≤ 2147483647 := Xi_rgI
      have w80 : -2147483648 ≤ Xi T11 904 8 ∧ Xi T11 904 8 ≤ 2147483647 := Xi_rgI
      have w81 : -2147483648 ≤ Xi T11 904 93 ∧ Xi T11 904 93 ≤ 2147483647 := Xi_rgI
      refine y_aload_n rfl rfl ?_
      refine y_callV rfl rfl rfl (t_mo_what__p hHT11 fs ns (by first | assumption | exact (VLR_FR hFT11 rfl (by assumption : VLR S _ _))) (by first | assumption | exact (by assumption : JR T11 _ _)) _) ?_
      rintro _ T12 ⟨hHT12, w91, rfl, w82, w83, w84, w85, w86, w87, w88, w89⟩
      have hFT12 : FR md_mo_testedWhat__p S T12 := FR.tr hFT11 w91 rfl
      show Pl _ _ _ _ _ _ [] _ _
      have : Xi T12 904 65 = 0 → (fs : Int) ≤ Xi T12 904 8 ∧ Xi T12 904 8 ≤ fs + ns := JR.i (by assumption)
      have gp148 := w82
      try rw [FRR hFT11 rfl] at gp148
      refine y_aload_n rfl rfl ?_
      refine y_gfr rfl rfl rfl rfl rfl (hHT12.r 904 87 957 rfl) ?_
      refine y_aload_n rfl rfl ?_
      refine y_gfi rfl rfl rfl rfl rfl ?_
      have w92 : (Xi T12 904 93) = (Xi T11 904 93) := (show Xi T12 904 93 = Xi T11 904 93 from w91.x _ _ rfl)
      rw [w92]
      refine y_aload_n rfl rfl ?_
      refine y_gfi rfl rfl rfl rfl rfl ?_
      have w93 : -2147483648 ≤ (Xi T12 904 78) ∧ (Xi T12 904 78) ≤ 2147483647 := Xi_rgI
      refine y_iastoreP (n := 1700) rfl rfl (by unfold rg; omega) (fun w94 w95 => ?_)
      obtain ⟨U13, eU13⟩ : ∃ T : sS, T = uI T12 957 (((Xi T11 904 93)).toNat) (Int32.ofInt (Xi T12 904 78)) := ⟨_, rfl⟩
      rw [← eU13]
      have hHU13 : RI U13 := by rw [eU13]; exact RI_w hHT12
      have hFU13 : FR md_mo_testedWhat__p S U13 := by rw [eU13]; exact FR.wI hFT12 (mdf_i (r := (957, 958, 0, 100000)) (List.mem_of_getElem? (i := 9) rfl) (inR_i (by omega) (by omega) (by omega) (by omega)))
      have w96 : Xi U13 957 (((Xi T11 904 93)).toNat) = (Xi T12 904 78) := by rw [eU13]; exact Xi_same (by unfold rg; omega)
      refine y_aload_n rfl rfl ?_
      refine y_gfr rfl rfl rfl rfl rfl (hHU13.r 904 90 960 rfl) ?_
      refine y_aload_n rfl rfl ?_
      refine y_gfi rfl rfl rfl rfl rfl ?_
      have w97 : (Xi U13 904 93) = (Xi T11 904 93) := (show Xi U13 904 93 = Xi T12 904 93 from by rw [eU13]; exact Xi_ne (by omega)).trans ((show Xi T12 904 93 = Xi T11 904 93 from w91.x _ _ rfl))
      rw [w97]
      refine y_aload_n rfl rfl ?_
      refine y_gfi rfl rfl rfl rfl rfl ?_
      have w98 : -2147483648 ≤ (Xi U13 904 69) ∧ (Xi U13 904 69) ≤ 2147483647 := Xi_rgI
      refine y_iconst rfl ?_
      refine y_isub rfl ?_
      refine y_iastoreP (n := 1700) rfl rfl (by unfold rg; omega) (fun w99 w100 => ?_)
      obtain ⟨U14, eU14⟩ : ∃ T : sS, T = uI U13 960 (((Xi T11 904 93)).toNat) (Int32.ofInt ((Xi U13 904 69) - 1)) := ⟨_, rfl⟩
      rw [← eU14]
      have hHU14 : RI U14 := by rw [eU14]; exact RI_w hHU13
      have hFU14 : FR md_mo_testedWhat__p S U14 := by rw [eU14]; exact FR.wI hFU13 (mdf_i (r := (960, 961, 0, 100000)) (List.mem_of_getElem? (i := 10) rfl) (inR_i (by omega) (by omega) (by omega) (by omega)))
      refine y_return rfl rfl ?_
      have w101 : Xi U14 904 65 = Xi T12 904 65 := (show Xi U14 904 65 = Xi U13 904 65 from by rw [eU14]; exact Xi_ne (by omega)).trans ((show Xi U13 904 65 = Xi T12 904 65 from by rw [eU13]; exact Xi_ne (by omega)))
      have w102 : Xi U14 904 66 = Xi T12 904 66 := (show Xi U14 904 66 = Xi U13 904 66 from by rw [eU14]; exact Xi_ne (by omega)).trans ((show Xi U13 904 66 = Xi T12 904 66 from by rw [eU13]; exact Xi_ne (by omega)))
      have w103 : Xi U14 904 69 = Xi T12 904 69 := (show Xi U14 904 69 = Xi U13 904 69 from by rw [eU14]; exact Xi_ne (by omega)).trans ((show Xi U13 904 69 = Xi T12 904 69 from by rw [eU13]; exact Xi_ne (by omega)))
      have w104 : Xi U14 904 8 = Xi T12 904 8 := (show Xi U14 904 8 = Xi U13 904 8 from by rw [eU14]; exact Xi_ne (by omega)).trans ((show Xi U13 904 8 = Xi T12 904 8 from by rw [eU13]; exact Xi_ne (by omega)))
      have w105 : Xi U14 904 93 = Xi T11 904 93 := (show Xi U14 904 93 = Xi U13 904 93 from by rw [eU14]; exact Xi_ne (by omega)).trans ( (show Xi U13 904 93 = Xi T12 904 93 from by rw [eU13]; exact Xi_ne (by omega)).trans ((show Xi T12 904 93 = Xi T11 904 93 from w91.x _ _ rfl)))
      exact ⟨hHU14, hFU14, rfl, (by first | exact cu_og (by omega) (by rw [gTw_l (by omega) (by omega), cu_go gp62 (by omega) (by omega), gp80]) | (rcases (by omega : isNow = 0 ∨ isNow ≠ 0) with q | q <;> first | exact (cu_cg (cu_ch (N147.2 q) gp148) (fun b => by rw [gTw_w q (by omega) (by omega)]; exact gS_1.symm)).trans (cu_eq (by omega) (by omega) (by omega)).symm | exact (cu_cge (N147.1 q) gp148 (fun b => gTw_n q)).trans (cu_eq (by omega) (by omega) (by omega)).symm)), (by omega), (by omega), (by first | assumption | exact (JR_FR (FR_e eU14) rfl rfl rfl (JR_FR (FR_e eU13) rfl rfl rfl (by assumption : JR T12 _ _))))⟩
    refine y_aload_n rfl rfl ?_
    refine y_gfr rfl rfl rfl rfl rfl (hH.r 904 82 952 rfl) ?_
    refine y_aload_n rfl rfl ?_
    refine y_gfi rfl rfl rfl rfl rfl ?_
    refine y_iconst rfl ?_
    refine y_iastoreP (n := 1700) rfl rfl (by unfold rg; omega) (fun w106 w107 => ?_)
    obtain ⟨U15, eU15⟩ : ∃ T : sS, T = uI S 952 (((Xi S 904 93)).toNat) (Int32.ofInt 0) := ⟨_, rfl⟩
    rw [← eU15]
    have hHU15 : RI U15 := by rw [eU15]; exact RI_w hH
    have hFU15 : FR md_mo_testedWhat__p S U15 := by rw [eU15]; exact FR.wI hF (mdf_i (r := (952, 953, 0, 100000)) (List.mem_of_getElem? (i := 7) rfl) (inR_i (by omega) (by omega) (by omega) (by omega)))
    have w108 : Xi U15 952 (((Xi S 904 93)).toNat) = 0 := by rw [eU15]; exact Xi_same (by unfold rg; omega)
    refine y_aload_n rfl rfl ?_
    refine y_gfr rfl rfl rfl rfl rfl (hHU15.r 904 83 953 rfl) ?_
    refine y_aload_n rfl rfl ?_
    refine y_gfi rfl rfl rfl rfl rfl ?_
    have w109 : (Xi U15 904 93) = (Xi S 904 93) := (show Xi U15 904 93 = Xi S 904 93 from by rw [eU15]; exact Xi_ne (by omega))
    rw [w109]
    refine y_iload_n rfl rfl ?_
    refine y_if_ne rfl rfl (by unfold rg; omega) (fun w110 => ?_) (fun w111 => ?_)
    · refine y_iconst rfl ?_
      refine y_bastoreZP (n := 1700) rfl rfl (by unfold rg; omega) ⟨by omega, by omega⟩ (fun w112 w113 => ?_)
      obtain ⟨U16, eU16⟩ : ∃ T : sS, T = uI U15 953 (((Xi S 904 93)).toNat) (Int32.ofInt 0) := ⟨_, rfl⟩
      rw [← eU16]
      have hHU16 : RI U16 := by rw [eU16]; exact RI_w hHU15
      have hFU16 : FR md_mo_testedWhat__p S U16 := by rw [eU16]; exact FR.wI hFU15 (mdf_i (r := (953, 954, 0, 100000)) (List.mem_of_getElem? (i := 8) rfl) (inR_i (by omega) (by omega) (by omega) (by omega)))
      have w114 : Xi U16 953 (((Xi S 904 93)).toNat) = 0 := by rw [eU16]; exact Xi_same (by unfold rg; omega)
      refine y_aload_n rfl rfl ?_
      refine y_dup rfl rfl ?_
      refine y_gfi rfl rfl rfl rfl rfl ?_
      have w115 : (Xi U16 904 8) = (Xi S 904 8) := (show Xi U16 904 8 = Xi U15 904 8 from by rw [eU16]; exact Xi_ne (by omega)).trans ((show Xi U15 904 8 = Xi S 904 8 from by rw [eU15]; exact Xi_ne (by omega)))
      rw [w115]
      refine y_aload_n rfl rfl ?_
      refine y_gfr rfl rfl rfl rfl rfl (hHU16.r 904 83 953 rfl) ?_
      refine y_aload_n rfl rfl ?_
      refine y_gfi rfl rfl rfl rfl rfl ?_
      have w116 : (Xi U16 904 93) = (Xi S 904 93) := (show Xi U16 904 93 = Xi U15 904 93 from by rw [eU16]; exact Xi_ne (by omega)).trans ((show Xi U15 904 93 = Xi S 904 93 from by rw [eU15]; exact Xi_ne (by omega)))
      rw [w116]
      refine y_baloadP (n := 1700) rfl rfl rfl (by decide) (by unfold rg; omega) (fun w117 w118 => ?_)
      refine y_if_eq rfl rfl (by unfold rg; omega) (fun w119 => ?_) (fun w120 => ?_)
      · refine y_iconst rfl ?_
        refine y_iadd rfl ?_
        refine y_pfi rfl rfl rfl rfl ?_
        obtain ⟨U17, eU17⟩ : ∃ T : sS, T = uI U16 904 8 (Int32.ofInt ((Xi S 904 8) + 0)) := ⟨_, rfl⟩
        rw [← eU17]
        have hHU17 : RI U17 := by rw [eU17]; exact RI_w hHU16
        have hFU17 : FR md_mo_testedWhat__p S U17 := by rw [eU17]; exact FR.wI hFU16 (mdf_i (r := (904, 905, 8, 9)) (List.mem_of_getElem? (i := 0) rfl) (inR_i (by omega) (by omega) (by omega) (by omega)))
        have w121 : Xi U17 904 8 = ((Xi S 904 8) + 0) := by rw [eU17]; exact Xi_same (by unfold rg; omega)
        have b144_ : Xi U17 904 65 = Xi U16 904 65 := (by rw [eU17, Xi_ne (by omega)]); have J144 : JR U17 fs ns := by first | exact jr_same (JR_FR (FR_e eU16) rfl rfl rfl (JR_FR (FR_e eU15) rfl rfl rfl (by assumption : JR S _ _))) eU17 (by omega) | exact jr_up (JR_FR (FR_e eU16) rfl rfl rfl (JR_FR (FR_e eU15) rfl rfl rfl (by assumption : JR S _ _))) (VLR_FR hFU16 rfl (by assumption : VLR S _ _)) eU17 (by omega) (fun b => by first | omega | (rw [FRR hFU16 rfl, show Xi U16 904 8 = Xi S 904 8 by omega]; omega))
        have : Xi U17 904 65 = 0 → (fs : Int) ≤ Xi U17 904 8 ∧ Xi U17 904 8 ≤ fs + ns := JR.i (by assumption)
        have w122 : Xi U17 904 65 = Xi S 904 65 := (show Xi U17 904 65 = Xi U16 904 65 from by rw [eU17]; exact Xi_ne (by omega)).trans ( (show Xi U16 904 65 = Xi U15 904 65 from by rw [eU16]; exact Xi_ne (by omega)).trans ((show Xi U15 904 65 = Xi S 904 65 from by rw [eU15]; exact Xi_ne (by omega))))
        have w123 : Xi U17 904 66 = Xi S 904 66 := (show Xi U17 904 66 = Xi U16 904 66 from by rw [eU17]; exact Xi_ne (by omega)).trans ( (show Xi U16 904 66 = Xi U15 904 66 from by rw [eU16]; exact Xi_ne (by omega)).trans ((show Xi U15 904 66 = Xi S 904 66 from by rw [eU15]; exact Xi_ne (by omega))))
        have w124 : Xi U17 904 69 = Xi S 904 69 := (show Xi U17 904 69 = Xi U16 904 69 from by rw [eU17]; exact Xi_ne (by omega)).trans ( (show Xi U16 904 69 = Xi U15 904 69 from by rw [eU16]; exact Xi_ne (by omega)).trans ((show Xi U15 904 69 = Xi S 904 69 from by rw [eU15]; exact Xi_ne (by omega))))
        have w125 : Xi U17 904 93 = Xi S 904 93 := (show Xi U17 904 93 = Xi U16 904 93 from by rw [eU17]; exact Xi_ne (by omega)).trans ( (show Xi U16 904 93 = Xi U15 904 93 from by rw [eU16]; exact Xi_ne (by omega)).trans ((show Xi U15 904 93 = Xi S 904 93 from by rw [eU15]; exact Xi_ne (by omega))))
        exact Pl_weak (C147 U17 hHU17 hFU17  (J144) (by first | assumption | omega) (by omega) (by omega) (by omega) (q84) (⟨fun q => by first | exact cu_eq (by omega) (by omega) (by omega) | (exfalso; omega), fun q => by first | exact cu_nt (by omega) (by omega) (fun b => by unfold gTn; first | (rw [if_pos (by omega)]; omega) | (rw [if_neg (by omega)]; omega)) | (exfalso; omega)⟩)) (by omega) (And.intro rfl (True.intro))
      · refine y_iconst rfl ?_
        refine y_goto rfl rfl ?_
        refine y_iadd rfl ?_
        refine y_pfi rfl rfl rfl rfl ?_
        obtain ⟨U18, eU18⟩ : ∃ T : sS, T = uI U16 904 8 (Int32.ofInt ((Xi S 904 8) + 1)) := ⟨_, rfl⟩
        rw [← eU18]
        have hHU18 : RI U18 := by rw [eU18]; exact RI_w hHU16
        have hFU18 : FR md_mo_testedWhat__p S U18 := by rw [eU18]; exact FR.wI hFU16 (mdf_i (r := (904, 905, 8, 9)) (List.mem_of_getElem? (i := 0) rfl) (inR_i (by omega) (by omega) (by omega) (by omega)))
        have w126 : Xi U18 904 8 = ((Xi S 904 8) + 1) := by rw [eU18]; exact Xi_same (by unfold rg; omega)
        have b144_ : Xi U18 904 65 = Xi U16 904 65 := (by rw [eU18, Xi_ne (by omega)]); have J144 : JR U18 fs ns := by first | exact jr_same (JR_FR (FR_e eU16) rfl rfl rfl (JR_FR (FR_e eU15) rfl rfl rfl (by assumption : JR S _ _))) eU18 (by omega) | exact jr_up (JR_FR (FR_e eU16) rfl rfl rfl (JR_FR (FR_e eU15) rfl rfl rfl (by assumption : JR S _ _))) (VLR_FR hFU16 rfl (by assumption : VLR S _ _)) eU18 (by omega) (fun b => by first | omega | (rw [FRR hFU16 rfl, show Xi U16 904 8 = Xi S 904 8 by omega]; omega))
        have : Xi U18 904 65 = 0 → (fs : Int) ≤ Xi U18 904 8 ∧ Xi U18 904 8 ≤ fs + ns := JR.i (by assumption)
        have w127 : Xi U18 904 65 = Xi S 904 65 := (show Xi U18 904 65 = Xi U16 904 65 from by rw [eU18]; exact Xi_ne (by omega)).trans ( (show Xi U16 904 65 = Xi U15 904 65 from by rw [eU16]; exact Xi_ne (by omega)).trans ((show Xi U15 904 65 = Xi S 904 65 from by rw [eU15]; exact Xi_ne (by omega))))
        have w128 : Xi U18 904 66 = Xi S 904 66 := (show Xi U18 904 66 = Xi U16 904 66 from by rw [eU18]; exact Xi_ne (by omega)).trans ( (show Xi U16 904 66 = Xi U15 904 66 from by rw [eU16]; exact Xi_ne (by omega)).trans ((show Xi U15 904 66 = Xi S 904 66 from by rw [eU15]; exact Xi_ne (by omega))))
        have w129 : Xi U18 904 69 = Xi S 904 69 := (show Xi U18 904 69 = Xi U16 904 69 from by rw [eU18]; exact Xi_ne (by omega)).trans ( (show Xi U16 904 69 = Xi U15 904 69 from by rw [eU16]; exact Xi_ne (by omega)).trans ((show Xi U15 904 69 = Xi S 904 69 from by rw [eU15]; exact Xi_ne (by omega))))
        have w130 : Xi U18 904 93 = Xi S 904 93 := (show Xi U18 904 93 = Xi U16 904 93 from by rw [eU18]; exact Xi_ne (by omega)).trans ( (show Xi U16 904 93 = Xi U15 904 93 from by rw [eU16]; exact Xi_ne (by omega)).trans ((show Xi U15 904 93 = Xi S 904 93 from by rw [eU15]; exact Xi_ne (by omega))))
        exact Pl_weak (C147 U18 hHU18 hFU18  (J144) (by first | assumption | omega) (by omega) (by omega) (by omega) (q84) (⟨fun q => by first | exact cu_eq (by omega) (by omega) (by omega) | (exfalso; omega), fun q => by first | exact cu_nt (by omega) (by omega) (fun b => by unfold gTn; first | (rw [if_pos (by omega)]; omega) | (rw [if_neg (by omega)]; omega)) | (exfalso; omega)⟩)) (by omega) (And.intro rfl (True.intro))
    · refine y_aload_n rfl rfl ?_
      refine y_bipush rfl rfl ?_
      have w131 : Xi U15 904 65 = Xi S 904 65 := (show Xi U15 904 65 = Xi S 904 65 from by rw [eU15]; exact Xi_ne (by omega))
      have w132 : Xi U15 904 66 = Xi S 904 66 := (show Xi U15 904 66 = Xi S 904 66 from by rw [eU15]; exact Xi_ne (by omega))
      have w133 : Xi U15 904 69 = Xi S 904 69 := (show Xi U15 904 69 = Xi S 904 69 from by rw [eU15]; exact Xi_ne (by omega))
      have w134 : Xi U15 904 8 = Xi S 904 8 := (show Xi U15 904 8 = Xi S 904 8 from by rw [eU15]; exact Xi_ne (by omega))
      have w135 : Xi U15 904 93 = Xi S 904 93 := (show Xi U15 904 93 = Xi S 904 93 from by rw [eU15]; exact Xi_ne (by omega))
      refine y_callV rfl rfl rfl (t_mo_isNext__p hHU15 fs ns 106 ⟨by omega, by omega⟩ (by first | assumption | exact (VLR_FR hFU15 rfl (by assumption : VLR S _ _))) (by first | assumption | exact JR.i (by first | assumption | exact (JR_FR (FR_e eU15) rfl rfl rfl (by assumption : JR S _ _)))) (rfl) _) ?_
      rintro _ _ ⟨rfl, z137, rfl, w137, w136⟩
      show Pl _ _ _ _ _ _ [iv z137, iv (Xi S 904 93), .ref 953] _ _
      have gb109 := w136
      try rw [FRR hFU15 rfl] at gb109
      try rw [show Xi U15 904 8 = Xi S 904 8 by omega] at gb109
      try rw [show un7 106 = 6 from rfl] at gb109
      refine y_if_eq rfl rfl (by unfold rg; omega) (fun w138 => ?_) (fun w139 => ?_)
      · refine y_iconst rfl ?_
        refine y_bastoreZP (n := 1700) rfl rfl (by unfold rg; omega) ⟨by omega, by omega⟩ (fun w140 w141 => ?_)
        obtain ⟨U19, eU19⟩ : ∃ T : sS, T = uI U15 953 (((Xi S 904 93)).toNat) (Int32.ofInt 0) := ⟨_, rfl⟩
        rw [← eU19]
        have hHU19 : RI U19 := by rw [eU19]; exact RI_w hHU15
        have hFU19 : FR md_mo_testedWhat__p S U19 := by rw [eU19]; exact FR.wI hFU15 (mdf_i (r := (953, 954, 0, 100000)) (List.mem_of_getElem? (i := 8) rfl) (inR_i (by omega) (by omega) (by omega) (by omega)))
        have w142 : Xi U19 953 (((Xi S 904 93)).toNat) = 0 := by rw [eU19]; exact Xi_same (by unfold rg; omega)
        refine y_aload_n rfl rfl ?_
        refine y_dup rfl rfl ?_
        refine y_gfi rfl rfl rfl rfl rfl ?_
        have w143 : (Xi U19 904 8) = (Xi S 904 8) := (show Xi U19 904 8 = Xi U15 904 8 from by rw [eU19]; exact Xi_ne (by omega)).trans ((show Xi U15 904 8 = Xi S 904 8 from by rw [eU15]; exact Xi_ne (by omega)))
        rw [w143]
        refine y_aload_n rfl rfl ?_
        refine y_gfr rfl rfl rfl rfl rfl (hHU19.r 904 83 953 rfl) ?_
        refine y_aload_n rfl rfl ?_
        refine y_gfi rfl rfl rfl rfl rfl ?_
        have w144 : (Xi U19 904 93) = (Xi S 904 93) := (show Xi U19 904 93 = Xi U15 904 93 from by rw [eU19]; exact Xi_ne (by omega)).trans ((show Xi U15 904 93 = Xi S 904 93 from by rw [eU15]; exact Xi_ne (by omega)))
        rw [w144]
        refine y_baloadP (n := 1700) rfl rfl rfl (by decide) (by unfold rg; omega) (fun w145 w146 => ?_)
        refine y_if_eq rfl rfl (by unfold rg; omega) (fun w147 => ?_) (fun w148 => ?_)
        · refine y_iconst rfl ?_
          refine y_iadd rfl ?_
          refine y_pfi rfl rfl rfl rfl ?_
          obtain ⟨U20, eU20⟩ : ∃ T : sS, T = uI U19 904 8 (Int32.ofInt ((Xi S 904 8) + 0)) := ⟨_, rfl⟩
          rw [← eU20]
          have hHU20 : RI U20 := by rw [eU20]; exact RI_w hHU19
          have hFU20 : FR md_mo_testedWhat__p S U20 := by rw [eU20]; exact FR.wI hFU19 (mdf_i (r := (904, 905, 8, 9)) (List.mem_of_getElem? (i := 0) rfl) (inR_i (by omega) (by omega) (by omega) (by omega)))
          have w149 : Xi U20 904 8 = ((Xi S 904 8) + 0) := by rw [eU20]; exact Xi_same (by unfold rg; omega)
          have b144_ : Xi U20 904 65 = Xi U19 904 65 := (by rw [eU20, Xi_ne (by omega)]); have J144 : JR U20 fs ns := by first | exact jr_same (JR_FR (FR_e eU19) rfl rfl rfl (JR_FR (FR_e eU15) rfl rfl rfl (by assumption : JR S _ _))) eU20 (by omega) | exact jr_up (JR_FR (FR_e eU19) rfl rfl rfl (JR_FR (FR_e eU15) rfl rfl rfl (by assumption : JR S _ _))) (VLR_FR hFU19 rfl (by assumption : VLR S _ _)) eU20 (by omega) (fun b => by first | omega | (rw [FRR hFU19 rfl, show Xi U19 904 8 = Xi S 904 8 by omega]; omega))
          have : Xi U20 904 65 = 0 → (fs : Int) ≤ Xi U20 904 8 ∧ Xi U20 904 8 ≤ fs + ns := JR.i (by assumption)
          have w150 : Xi U20 904 65 = Xi S 904 65 := (show Xi U20 904 65 = Xi U19 904 65 from by rw [eU20]; exact Xi_ne (by omega)).trans ( (show Xi U19 904 65 = Xi U15 904 65 from by rw [eU19]; exact Xi_ne (by omega)).trans ((show Xi U15 904 65 = Xi S 904 65 from by rw [eU15]; exact Xi_ne (by omega))))
          have w151 : Xi U20 904 66 = Xi S 904 66 := (show Xi U20 904 66 = Xi U19 904 66 from by rw [eU20]; exact Xi_ne (by omega)).trans ( (show Xi U19 904 66 = Xi U15 904 66 from by rw [eU19]; exact Xi_ne (by omega)).trans ((show Xi U15 904 66 = Xi S 904 66 from by rw [eU15]; exact Xi_ne (by omega))))
          have w152 : Xi U20 904 69 = Xi S 904 69 := (show Xi U20 904 69 = Xi U19 904 69 from by rw [eU20]; exact Xi_ne (by omega)).trans ( (show Xi U19 904 69 = Xi U15 904 69 from by rw [eU19]; exact Xi_ne (by omega)).trans ((show Xi U15 904 69 = Xi S 904 69 from by rw [eU15]; exact Xi_ne (by omega))))
          have w153 : Xi U20 904 93 = Xi S 904 93 := (show Xi U20 904 93 = Xi U19 904 93 from by rw [eU20]; exact Xi_ne (by omega)).trans ( (show Xi U19 904 93 = Xi U15 904 93 from by rw [eU19]; exact Xi_ne (by omega)).trans ((show Xi U15 904 93 = Xi S 904 93 from by rw [eU15]; exact Xi_ne (by omega))))
          exact Pl_weak (C147 U20 hHU20 hFU20  (J144) (by first | assumption | omega) (by omega) (by omega) (by omega) (q84) (⟨fun q => by first | exact cu_eq (by omega) (by omega) (by omega) | (exfalso; omega), fun q => by first | exact cu_nt (by omega) (by omega) (fun b => by unfold gTn; first | (rw [if_pos (by omega)]; omega) | (rw [if_neg (by omega)]; omega)) | (exfalso; omega)⟩)) (by omega) (And.intro rfl (True.intro))
        · refine y_iconst rfl ?_
          refine y_goto rfl rfl ?_
          refine y_iadd rfl ?_
          refine y_pfi rfl rfl rfl rfl ?_
          obtain ⟨U21, eU21⟩ : ∃ T : sS, T = uI U19 904 8 (Int32.ofInt ((Xi S 904 8) + 1)) := ⟨_, rfl⟩
          rw [← eU21]
          have hHU21 : RI U21 := by rw [eU21]; exact RI_w hHU19
          have hFU21 : FR md_mo_testedWhat__p S U21 := by rw [eU21]; exact FR.wI hFU19 (mdf_i (r := (904, 905, 8, 9)) (List.mem_of_getElem? (i := 0) rfl) (inR_i (by omega) (by omega) (by omega) (by omega)))
          have w154 : Xi U21 904 8 = ((Xi S 904 8) + 1) := by rw [eU21]; exact Xi_same (by unfold rg; omega)
          have b144_ : Xi U21 904 65 = Xi U19 904 65 := (by rw [eU21, Xi_ne (by omega)]); have J144 : JR U21 fs ns := by first | exact jr_same (JR_FR (FR_e eU19) rfl rfl rfl (JR_FR (FR_e eU15) rfl rfl rfl (by assumption : JR S _ _))) eU21 (by omega) | exact jr_up (JR_FR (FR_e eU19) rfl rfl rfl (JR_FR (FR_e eU15) rfl rfl rfl (by assumption : JR S _ _))) (VLR_FR hFU19 rfl (by assumption : VLR S _ _)) eU21 (by omega) (fun b => by first | omega | (rw [FRR hFU19 rfl, show Xi U19 904 8 = Xi S 904 8 by omega]; omega))
          have : Xi U21 904 65 = 0 → (fs : Int) ≤ Xi U21 904 8 ∧ Xi U21 904 8 ≤ fs + ns := JR.i (by assumption)
          have w155 : Xi U21 904 65 = Xi S 904 65 := (show Xi U21 904 65 = Xi U19 904 65 from by rw [eU21]; exact Xi_ne (by omega)).trans ( (show Xi U19 904 65 = Xi U15 904 65 from by rw [eU19]; exact Xi_ne (by omega)).trans ((show Xi U15 904 65 = Xi S 904 65 from by rw [eU15]; exact Xi_ne (by omega))))
          have w156 : Xi U21 904 66 = Xi S 904 66 := (show Xi U21 904 66 = Xi U19 904 66 from by rw [eU21]; exact Xi_ne (by omega)).trans ( (show Xi U19 904 66 = Xi U15 904 66 from by rw [eU19]; exact Xi_ne (by omega)).trans ((show Xi U15 904 66 = Xi S 904 66 from by rw [eU15]; exact Xi_ne (by omega))))
          have w157 : Xi U21 904 69 = Xi S 904 69 := (show Xi U21 904 69 = Xi U19 904 69 from by rw [eU21]; exact Xi_ne (by omega)).trans ( (show Xi U19 904 69 = Xi U15 904 69 from by rw [eU19]; exact Xi_ne (by omega)).trans ((show Xi U15 904 69 = Xi S 904 69 from by rw [eU15]; exact Xi_ne (by omega))))
          have w158 : Xi U21 904 93 = Xi S 904 93 := (show Xi U21 904 93 = Xi U19 904 93 from by rw [eU21]; exact Xi_ne (by omega)).trans ( (show Xi U19 904 93 = Xi U15 904 93 from by rw [eU19]; exact Xi_ne (by omega)).trans ((show Xi U15 904 93 = Xi S 904 93 from by rw [eU15]; exact Xi_ne (by omega))))
          exact Pl_weak (C147 U21 hHU21 hFU21  (J144) (by first | assumption | omega) (by omega) (by omega) (by omega) (q84) (⟨fun q => by first | exact cu_eq (by omega) (by omega) (by omega) | (exfalso; omega), fun q => by first | exact cu_nt (by omega) (by omega) (fun b => by unfold gTn; first | (rw [if_pos (by omega)]; omega) | (rw [if_neg (by omega)]; omega)) | (exfalso; omega)⟩)) (by omega) (And.intro rfl (True.intro))
      · refine y_iconst rfl ?_
        refine y_goto rfl rfl ?_
        refine y_bastoreZP (n := 1700) rfl rfl (by unfold rg; omega) ⟨by omega, by omega⟩ (fun w159 w160 => ?_)
        obtain ⟨U22, eU22⟩ : ∃ T : sS, T = uI U15 953 (((Xi S 904 93)).toNat) (Int32.ofInt 1) := ⟨_, rfl⟩
        rw [← eU22]
        have hHU22 : RI U22 := by rw [eU22]; exact RI_w hHU15
        have hFU22 : FR md_mo_testedWhat__p S U22 := by rw [eU22]; exact FR.wI hFU15 (mdf_i (r := (953, 954, 0, 100000)) (List.mem_of_getElem? (i := 8) rfl) (inR_i (by omega) (by omega) (by omega) (by omega)))
        have w161 : Xi U22 953 (((Xi S 904 93)).toNat) = 1 := by rw [eU22]; exact Xi_same (by unfold rg; omega)
        refine y_aload_n rfl rfl ?_
        refine y_dup rfl rfl ?_
        refine y_gfi rfl rfl rfl rfl rfl ?_
        have w162 : (Xi U22 904 8) = (Xi S 904 8) := (show Xi U22 904 8 = Xi U15 904 8 from by rw [eU22]; exact Xi_ne (by omega)).trans ((show Xi U15 904 8 = Xi S 904 8 from by rw [eU15]; exact Xi_ne (by omega)))
        rw [w162]
        refine y_aload_n rfl rfl ?_
        refine y_gfr rfl rfl rfl rfl rfl (hHU22.r 904 83 953 rfl) ?_
        refine y_aload_n rfl rfl ?_
        refine y_gfi rfl rfl rfl rfl rfl ?_
        have w163 : (Xi U22 904 93) = (Xi S 904 93) := (show Xi U22 904 93 = Xi U15 904 93 from by rw [eU22]; exact Xi_ne (by omega)).trans ((show Xi U15 904 93 = Xi S 904 93 from by rw [eU15]; exact Xi_ne (by omega)))
        rw [w163]
        refine y_baloadP (n := 1700) rfl rfl rfl (by decide) (by unfold rg; omega) (fun w164 w165 => ?_)
        refine y_if_eq rfl rfl (by unfold rg; omega) (fun w166 => ?_) (fun w167 => ?_)
        · refine y_iconst rfl ?_
          refine y_iadd rfl ?_
          refine y_pfi rfl rfl rfl rfl ?_
          obtain ⟨U23, eU23⟩ : ∃ T : sS, T = uI U22 904 8 (Int32.ofInt ((Xi S 904 8) + 0)) := ⟨_, rfl⟩
          rw [← eU23]
          have hHU23 : RI U23 := by rw [eU23]; exact RI_w hHU22
          have hFU23 : FR md_mo_testedWhat__p S U23 := by rw [eU23]; exact FR.wI hFU22 (mdf_i (r := (904, 905, 8, 9)) (List.mem_of_getElem? (i := 0) rfl) (inR_i (by omega) (by omega) (by omega) (by omega)))
          have w168 : Xi U23 904 8 = ((Xi S 904 8) + 0) := by rw [eU23]; exact Xi_same (by unfold rg; omega)
          have b144_ : Xi U23 904 65 = Xi U22 904 65 := (by rw [eU23, Xi_ne (by omega)]); have J144 : JR U23 fs ns := by first | exact jr_same (JR_FR (FR_e eU22) rfl rfl rfl (JR_FR (FR_e eU15) rfl rfl rfl (by assumption : JR S _ _))) eU23 (by omega) | exact jr_up (JR_FR (FR_e eU22) rfl rfl rfl (JR_FR (FR_e eU15) rfl rfl rfl (by assumption : JR S _ _))) (VLR_FR hFU22 rfl (by assumption : VLR S _ _)) eU23 (by omega) (fun b => by first | omega | (rw [FRR hFU22 rfl, show Xi U22 904 8 = Xi S 904 8 by omega]; omega))
          have : Xi U23 904 65 = 0 → (fs : Int) ≤ Xi U23 904 8 ∧ Xi U23 904 8 ≤ fs + ns := JR.i (by assumption)
          have w169 : Xi U23 904 65 = Xi S 904 65 := (show Xi U23 904 65 = Xi U22 904 65 from by rw [eU23]; exact Xi_ne (by omega)).trans ( (show Xi U22 904 65 = Xi U15 904 65 from by rw [eU22]; exact Xi_ne (by omega)).trans ((show Xi U15 904 65 = Xi S 904 65 from by rw [eU15]; exact Xi_ne (by omega))))
          have w170 : Xi U23 904 66 = Xi S 904 66 := (show Xi U23 904 66 = Xi U22 904 66 from by rw [eU23]; exact Xi_ne (by omega)).trans ( (show Xi U22 904 66 = Xi U15 904 66 from by rw [eU22]; exact Xi_ne (by omega)).trans ((show Xi U15 904 66 = Xi S 904 66 from by rw [eU15]; exact Xi_ne (by omega))))
          have w171 : Xi U23 904 69 = Xi S 904 69 := (show Xi U23 904 69 = Xi U22 904 69 from by rw [eU23]; exact Xi_ne (by omega)).trans ( (show Xi U22 904 69 = Xi U15 904 69 from by rw [eU22]; exact Xi_ne (by omega)).trans ((show Xi U15 904 69 = Xi S 904 69 from by rw [eU15]; exact Xi_ne (by omega))))
          have w172 : Xi U23 904 93 = Xi S 904 93 := (show Xi U23 904 93 = Xi U22 904 93 from by rw [eU23]; exact Xi_ne (by omega)).trans ( (show Xi U22 904 93 = Xi U15 904 93 from by rw [eU22]; exact Xi_ne (by omega)).trans ((show Xi U15 904 93 = Xi S 904 93 from by rw [eU15]; exact Xi_ne (by omega))))
          exact Pl_weak (C147 U23 hHU23 hFU23  (J144) (by first | assumption | omega) (by omega) (by omega) (by omega) (q84) (⟨fun q => by first | exact cu_eq (by omega) (by omega) (by omega) | (exfalso; omega), fun q => by first | exact cu_nt (by omega) (by omega) (fun b => by unfold gTn; first | (rw [if_pos (by omega)]; omega) | (rw [if_neg (by omega)]; omega)) | (exfalso; omega)⟩)) (by omega) (And.intro rfl (True.intro))
        · refine y_iconst rfl ?_
          refine y_goto rfl rfl ?_
          refine y_iadd rfl ?_
          refine y_pfi rfl rfl rfl rfl ?_
          obtain ⟨U24, eU24⟩ : ∃ T : sS, T = uI U22 904 8 (Int32.ofInt ((Xi S 904 8) + 1)) := ⟨_, rfl⟩
          rw [← eU24]
          have hHU24 : RI U24 := by rw [eU24]; exact RI_w hHU22
          have hFU24 : FR md_mo_testedWhat__p S U24 := by rw [eU24]; exact FR.wI hFU22 (mdf_i (r := (904, 905, 8, 9)) (List.mem_of_getElem? (i := 0) rfl) (inR_i (by omega) (by omega) (by omega) (by omega)))
          have w173 : Xi U24 904 8 = ((Xi S 904 8) + 1) := by rw [eU24]; exact Xi_same (by unfold rg; omega)
          have b144_ : Xi U24 904 65 = Xi U22 904 65 := (by rw [eU24, Xi_ne (by omega)]); have J144 : JR U24 fs ns := by first | exact jr_same (JR_FR (FR_e eU22) rfl rfl rfl (JR_FR (FR_e eU15) rfl rfl rfl (by assumption : JR S _ _))) eU24 (by omega) | exact jr_up (JR_FR (FR_e eU22) rfl rfl rfl (JR_FR (FR_e eU15) rfl rfl rfl (by assumption : JR S _ _))) (VLR_FR hFU22 rfl (by assumption : VLR S _ _)) eU24 (by omega) (fun b => by first | omega | (rw [FRR hFU22 rfl, show Xi U22 904 8 = Xi S 904 8 by omega]; omega))
          have : Xi U24 904 65 = 0 → (fs : Int) ≤ Xi U24 904 8 ∧ Xi U24 904 8 ≤ fs + ns := JR.i (by assumption)
          have w174 : Xi U24 904 65 = Xi S 904 65 := (show Xi U24 904 65 = Xi U22 904 65 from by rw [eU24]; exact Xi_ne (by omega)).trans ( (show Xi U22 904 65 = Xi U15 904 65 from by rw [eU22]; exact Xi_ne (by omega)).trans ((show Xi U15 904 65 = Xi S 904 65 from by rw [eU15]; exact Xi_ne (by omega))))
          have w175 : Xi U24 904 66 = Xi S 904 66 := (show Xi U24 904 66 = Xi U22 904 66 from by rw [eU24]; exact Xi_ne (by omega)).trans ( (show Xi U22 904 66 = Xi U15 904 66 from by rw [eU22]; exact Xi_ne (by omega)).trans ((show Xi U15 904 66 = Xi S 904 66 from by rw [eU15]; exact Xi_ne (by omega))))
          have w176 : Xi U24 904 69 = Xi S 904 69 := (show Xi U24 904 69 = Xi U22 904 69 from by rw [eU24]; exact Xi_ne (by omega)).trans ( (show Xi U22 904 69 = Xi U15 904 69 from by rw [eU22]; exact Xi_ne (by omega)).trans ((show Xi U15 904 69 = Xi S 904 69 from by rw [eU15]; exact Xi_ne (by omega))))
          have w177 : Xi U24 904 93 = Xi S 904 93 := (show Xi U24 904 93 = Xi U22 904 93 from by rw [eU24]; exact Xi_ne (by omega)).trans ( (show Xi U22 904 93 = Xi U15 904 93 from by rw [eU22]; exact Xi_ne (by omega)).trans ((show Xi U15 904 93 = Xi S 904 93 from by rw [eU15]; exact Xi_ne (by omega))))
          exact Pl_weak (C147 U24 hHU24 hFU24  (J144) (by first | assumption | omega) (by omega) (by omega) (by omega) (q84) (⟨fun q => by first | exact cu_eq (by omega) (by omega) (by omega) | (exfalso; omega), fun q => by first | exact cu_nt (by omega) (by omega) (fun b => by unfold gTn; first | (rw [if_pos (by omega)]; omega) | (rw [if_neg (by omega)]; omega)) | (exfalso; omega)⟩)) (by omega) (And.intro rfl (True.intro))
  refine y_iload_n rfl rfl ?_
  refine y_if_ne rfl rfl (by unfold rg; omega) (fun w178 => ?_) (fun w179 => ?_)
  · exact Pl_weak (C84  (by omega)) (by omega) (And.intro rfl (And.intro rfl (True.intro)))
  · refine y_aload_n rfl rfl ?_
    refine y_sipush rfl rfl ?_
    refine y_callV rfl rfl rfl (t_mo_isNext__p hH fs ns 151 ⟨by omega, by omega⟩ (by first | assumption | exact (VLR_FR hF rfl (by assumption : VLR S _ _))) (by first | assumption | exact JR.i (by first | assumption | exact (by assumption : JR S _ _))) (rfl) _) ?_
    rintro _ _ ⟨rfl, z181, rfl, w181, w180⟩
    show Pl _ _ _ _ _ _ [iv z181] _ _
    have gb8 := w180
    try rw [show un7 151 = 51 from rfl] at gb8
    refine y_if_ne rfl rfl (by unfold rg; omega) (fun w182 => ?_) (fun w183 => ?_)
    · exact Pl_weak (C24  (by omega) (by omega) (by first | assumption | omega)) (by omega) (And.intro rfl (True.intro))
    · refine y_aload_n rfl rfl ?_
      refine y_sipush rfl rfl ?_
      refine y_callV rfl rfl rfl (t_mo_isNext__p hH fs ns 152 ⟨by omega, by omega⟩ (by first | assumption | exact (VLR_FR hF rfl (by assumption : VLR S _ _))) (by first | assumption | exact JR.i (by first | assumption | exact (by assumption : JR S _ _))) (rfl) _) ?_
      rintro _ _ ⟨rfl, z185, rfl, w185, w184⟩
      show Pl _ _ _ _ _ _ [iv z185] _ _
      have gb18 := w184
      try rw [show un7 152 = 52 from rfl] at gb18
      refine y_if_eq rfl rfl (by unfold rg; omega) (fun w186 => ?_) (fun w187 => ?_)
      · exact Pl_weak (C84  (by omega)) (by omega) (And.intro rfl (And.intro rfl (True.intro)))
      · exact Pl_weak (C24  (by omega) (by omega) (by first | assumption | omega)) (by omega) (And.intro rfl (True.intro))

