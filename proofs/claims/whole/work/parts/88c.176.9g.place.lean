section
/-! tests of the class: places, properties -/
def plR (S : sS) (a : Int) : Int := if ty7 S a = 8 ∨ ty7 S a = 9 then a + 1 else a + 2
def PLT (S S1 : sS) (cl : Nat) (a b z : Int) : Prop := KCL S S1 cl ∧ Xi S1 (276 + cl) 0 = 5 ∧ Xi S1 (276 + cl) 4 = wyC (ty7 S a) ∧ Xi S1 (276 + cl) 6 = whoC S (plR S a) b ∧
  (whoC S (plR S a) b = -1 → z = 0 ∧ (Xi S 876 8 = 0 → FTO S S1 4 (whrC S (plR S a)))) ∧ (whoC S (plR S a) b ≠ -1 → z = 1 ∧ Xi S1 876 8 = Xi S 876 8)
def POT (S S1 : sS) (cl : Nat) (a o num l z : Int) : Prop := KCL S S1 cl ∧ Xi S1 (276 + cl) 2 = whoC S (o + 1) l ∧
  (pOK S a o (whkC S (o + 1) l) num → Xi S1 (276 + cl) 3 = mnV S a o % 256) ∧
  (¬ pOK S a o (whkC S (o + 1) l) num → z = 0 ∧ (Xi S 876 8 = 0 → FTO S S1 4 a)) ∧
  (pOK S a o (whkC S (o + 1) l) num → whoC S (o + 1) l = -1 → z = 0 ∧ (Xi S 876 8 = 0 → FTO S S1 4 (whrC S (o + 1)))) ∧
  (pOK S a o (whkC S (o + 1) l) num → whoC S (o + 1) l ≠ -1 → z = 1 ∧ Xi S1 876 8 = Xi S 876 8)
theorem pOK_F {l : List rec} {S T : sS} (h : FR l S T) (e : (kdis l kA && !(mdf l 1 3)) = true) (e3 : kdis l kA = true) {a b k n : Int} : pOK T a b k n = pOK S a b k n := by
  unfold pOK
  rw [mnV_FR h e, (ra_p h e3 rfl : pps T k = pps S k), (h.smk e3).x 9 rfl]
def NAD (S S1 : sS) (c : Nat) (m p : Int) : Prop := KCL S S1 c ∧ Xi S1 (276 + c) 0 = (if p = -1 then 0 else 1) ∧ Xi S1 (276 + c) 3 = (if p = -1 then m else p) ∧ Xi S1 (276 + c) 4 = m
theorem nad_g {S A B U : sS} {c : Nat} {m f w : Int} (hm : rg m) (hf : rg f) (hw : rg w) (e1 : A = uI S (276 + c) 0 (Int32.ofInt f)) (e2 : B = uI A (276 + c) 3 (Int32.ofInt w)) (e3 : U = uI B (276 + c) 4 (Int32.ofInt m)) : KCL S U c ∧ Xi U (276 + c) 0 = f ∧ Xi U (276 + c) 3 = w ∧ Xi U (276 + c) 4 = m :=
  ⟨kcl_w e3 (kcl_w e2 (kcl_w e1 KCL.rf)), by rw [e3, Xi_ne (by omega), e2, Xi_ne (by omega), e1]; exact Xi_same hf, by rw [e3, Xi_ne (by omega), e2]; exact Xi_same hw, by rw [e3]; exact Xi_same hm⟩
theorem nad_i {S A B U : sS} {c : Nat} {m p : Int} (h : p = -1 ∧ rg m) (e1 : A = uI S (276 + c) 0 (Int32.ofInt 0)) (e2 : B = uI A (276 + c) 3 (Int32.ofInt m)) (e3 : U = uI B (276 + c) 4 (Int32.ofInt m)) : NAD S U c m p := by
  have g := nad_g h.2 (by unfold rg; omega) h.2 e1 e2 e3
  unfold NAD
  rw [if_pos h.1, if_pos h.1]
  exact g
theorem nad_p {S A B U : sS} {c : Nat} {m p : Int} (h : p ≠ -1 ∧ rg m ∧ rg p) (e1 : A = uI S (276 + c) 0 (Int32.ofInt 1)) (e2 : B = uI A (276 + c) 3 (Int32.ofInt p)) (e3 : U = uI B (276 + c) 4 (Int32.ofInt m)) : NAD S U c m p := by
  have g := nad_g h.2.1 (by unfold rg; omega) h.2.2 e1 e2 e3
  unfold NAD
  rw [if_neg h.1, if_neg h.1]
  exact g

def md_rr_placeTest__p : List rec := [(276, 876, 0, 1), (276, 876, 4, 5), (276, 876, 6, 7), (876, 877, 8, 9), (876, 877, 9, 10), (895, 896, 5, 6), (895, 896, 6, 7), (895, 896, 7, 8)]
abbrev Q_rr_placeTest__p (S : sS) (from_ : Int) (to : Int) (cl : Nat) : pst := fun r S1 => RI S1 ∧ FR md_rr_placeTest__p S S1 ∧ (∃ z : Int, r = some (iv z) ∧ (0 ≤ z ∧ z ≤ 1) ∧ (PLT S S1 cl from_ to z))
set_option maxRecDepth 100000 in
theorem t_rr_placeTest__p {S : sS} (hH : RI S) (from_ : Int) (to : Int) (cl : Nat) (hfrom_ : 0 ≤ from_ ∧ from_ ≤ 5130) (hto : -1 ≤ to ∧ to ≤ 5130) (hcl : cl < 600) (h13 : 0 ≤ Xi S 1 3 ∧ Xi S 1 3 ≤ 200) (hCE : CEN S) (hr : Xi S 876 7 ≤ 5130) (d : Nat) : Mp lay0 (d + 3) m_rr_placeTest [.ref 899, iv from_, iv to, .ref (276 + cl)] S (Q_rr_placeTest__p S from_ to cl) := by
  refine Mp_R rfl rfl (fun fu => ?_)
  have hF : FR md_rr_placeTest__p S S := FR.rf
  have w1 : -2147483648 ≤ Xi S 1 3 ∧ Xi S 1 3 ≤ 2147483647 := Xi_rgI
  have w2 : -2147483648 ≤ Xi S 876 7 ∧ Xi S 876 7 ≤ 2147483647 := Xi_rgI
  have w3 : -2147483648 ≤ Xi S 876 8 ∧ Xi S 876 8 ≤ 2147483647 := Xi_rgI
  have w4 : -2147483648 ≤ Xi S 895 5 ∧ Xi S 895 5 ≤ 2147483647 := Xi_rgI
  have w5 : -2147483648 ≤ Xi S 895 7 ∧ Xi S 895 7 ≤ 2147483647 := Xi_rgI
  refine y_aload_n rfl rfl ?_
  refine y_gfr rfl rfl rfl rfl rfl (hH.r 899 0 876 rfl) ?_
  refine y_iload_n rfl rfl ?_
  refine y_callV rfl rfl rfl (t_to_typeAt__p hH from_ ⟨by omega, by omega⟩ _) ?_
  rintro _ _ ⟨rfl, z8, rfl, w8, w6, w7⟩
  show Pl _ _ _ _ _ _ [iv z8] _ _
  have gq5 := w6
  clear w6
  refine y_istore rfl rfl rfl ?_
  refine y_aload_n rfl rfl ?_
  refine y_iconst rfl ?_
  refine y_pfi rfl rfl (layClW (by omega) rfl) rfl ?_
  obtain ⟨U1, eU1⟩ : ∃ T : sS, T = uI S (276 + cl) 0 (Int32.ofInt 5) := ⟨_, rfl⟩
  rw [← eU1]
  have hHU1 : RI U1 := by rw [eU1]; exact RI_w hH
  have hFU1 : FR md_rr_placeTest__p S U1 := by rw [eU1]; exact FR.wI hF (mdf_i (r := (276, 876, 0, 1)) (List.mem_of_getElem? (i := 0) rfl) (inR_i (by omega) (by omega) (by omega) (by omega)))
  have w9 : Xi U1 (276 + cl) 0 = 5 := by rw [eU1]; exact Xi_same (by unfold rg; omega)
  have e12 := eU1
  refine y_aload_n rfl rfl ?_
  refine y_iload rfl rfl ?_
  have w10 : Xi U1 876 8 = Xi S 876 8 := (show Xi U1 876 8 = Xi S 876 8 from by rw [eU1]; exact Xi_ne (by omega))
  have w11 : Xi U1 895 5 = Xi S 895 5 := (show Xi U1 895 5 = Xi S 895 5 from by rw [eU1]; exact Xi_ne (by omega))
  have w12 : Xi U1 895 7 = Xi S 895 7 := (show Xi U1 895 7 = Xi S 895 7 from by rw [eU1]; exact Xi_ne (by omega))
  refine y_callS rfl rfl (by decide) rfl (t_rr_wayOf__p hHU1 z8 ⟨by omega, by omega⟩ _) ?_
  rintro _ _ ⟨rfl, z13, rfl, w13, c18⟩
  show Pl _ _ _ _ _ _ [iv z13, .ref (276 + cl)] _ _
  refine y_pfi rfl rfl (layClW (by omega) rfl) rfl ?_
  obtain ⟨U2, eU2⟩ : ∃ T : sS, T = uI U1 (276 + cl) 4 (Int32.ofInt z13) := ⟨_, rfl⟩
  rw [← eU2]
  have hHU2 : RI U2 := by rw [eU2]; exact RI_w hHU1
  have hFU2 : FR md_rr_placeTest__p S U2 := by rw [eU2]; exact FR.wI hFU1 (mdf_i (r := (276, 876, 4, 5)) (List.mem_of_getElem? (i := 1) rfl) (inR_i (by omega) (by omega) (by omega) (by omega)))
  have w14 : Xi U2 (276 + cl) 4 = z13 := by rw [eU2]; exact Xi_same (by unfold rg; omega)
  have e21 := eU2
  refine y_aload_n rfl rfl ?_
  refine y_gfr rfl rfl rfl rfl rfl (hHU2.r 899 2 895 rfl) ?_
  refine y_iload rfl rfl ?_
  refine y_bipush rfl rfl ?_
  refine y_icmp_eq rfl rfl (by unfold rg; omega) (by unfold rg; omega) (fun w15 => ?_) (fun w16 => ?_)
  · refine y_iload_n rfl rfl ?_
    refine y_iconst rfl ?_
    refine y_iadd rfl ?_
    refine y_goto rfl rfl ?_
    refine y_iload_n rfl rfl ?_
    have w17 : Xi U2 1 3 = Xi S 1 3 := (show Xi U2 1 3 = Xi U1 1 3 from by rw [eU2]; exact Xi_ne (by omega)).trans ((show Xi U1 1 3 = Xi S 1 3 from by rw [eU1]; exact Xi_ne (by omega)))
    have w18 : Xi U2 876 7 = Xi S 876 7 := (show Xi U2 876 7 = Xi U1 876 7 from by rw [eU2]; exact Xi_ne (by omega)).trans ((show Xi U1 876 7 = Xi S 876 7 from by rw [eU1]; exact Xi_ne (by omega)))
    have w19 : Xi U2 876 8 = Xi S 876 8 := (show Xi U2 876 8 = Xi U1 876 8 from by rw [eU2]; exact Xi_ne (by omega)).trans ((show Xi U1 876 8 = Xi S 876 8 from by rw [eU1]; exact Xi_ne (by omega)))
    have w20 : Xi U2 895 5 = Xi S 895 5 := (show Xi U2 895 5 = Xi U1 895 5 from by rw [eU2]; exact Xi_ne (by omega)).trans ((show Xi U1 895 5 = Xi S 895 5 from by rw [eU1]; exact Xi_ne (by omega)))
    have w21 : Xi U2 895 7 = Xi S 895 7 := (show Xi U2 895 7 = Xi U1 895 7 from by rw [eU2]; exact Xi_ne (by omega)).trans ((show Xi U1 895 7 = Xi S 895 7 from by rw [eU1]; exact Xi_ne (by omega)))
    refine y_callV rfl rfl rfl (t_me_readThing__p hHU2 (from_ + 1) to ⟨by omega, by omega⟩ ⟨by omega, by omega⟩ (by first | assumption | omega) (by first | assumption | exact (CEN_FR hFU2 rfl rfl (by assumption : CEN S))) (by first | assumption | omega) _) ?_
    rintro _ T3 ⟨hHT3, w24, z23, rfl, w23, o52, w22⟩
    have hFT3 : FR md_rr_placeTest__p S T3 := FR.tr hFU2 w24 rfl
    show Pl _ _ _ _ _ _ [iv z23] _ _
    have R52 : RTH S T3 (plR S from_) to z23 := by unfold plR; rw [gq5]; first | (rw [if_pos (by omega)]; exact rth_F hFU2 rfl rfl rfl rfl rfl o52) | (rw [if_neg (by omega)]; exact rth_F hFU2 rfl rfl rfl rfl rfl o52)
    clear o52
    have F52 := (by assumption : FR md_me_readThing__p U2 T3)
    refine y_pop rfl rfl ?_
    refine y_aload_n rfl rfl ?_
    refine y_aload_n rfl rfl ?_
    refine y_gfr rfl rfl rfl rfl rfl (hHT3.r 899 2 895 rfl) ?_
    refine y_gfi rfl rfl rfl rfl rfl ?_
    have w25 : -2147483648 ≤ (Xi T3 895 5) ∧ (Xi T3 895 5) ≤ 2147483647 := Xi_rgI
    refine y_pfi rfl rfl (layClW (by omega) rfl) rfl ?_
    obtain ⟨U4, eU4⟩ : ∃ T : sS, T = uI T3 (276 + cl) 6 (Int32.ofInt (Xi T3 895 5)) := ⟨_, rfl⟩
    rw [← eU4]
    have hHU4 : RI U4 := by rw [eU4]; exact RI_w hHT3
    have hFU4 : FR md_rr_placeTest__p S U4 := by rw [eU4]; exact FR.wI hFT3 (mdf_i (r := (276, 876, 6, 7)) (List.mem_of_getElem? (i := 2) rfl) (inR_i (by omega) (by omega) (by omega) (by omega)))
    have w26 : Xi U4 (276 + cl) 6 = (Xi T3 895 5) := by rw [eU4]; exact Xi_same (by unfold rg; omega)
    have e64 := eU4
    have A64 : Xi U4 (276 + cl) 0 = 5 ∧ Xi U4 (276 + cl) 4 = wyC (ty7 S from_) ∧ Xi U4 (276 + cl) 6 = whoC S (plR S from_) to := ⟨by rw [e64, Xi_ne (by omega), cl_keep F52 rfl hcl, e21, Xi_ne (by omega), e12]; exact Xi_same (by unfold rg; omega), by rw [e64, Xi_ne (by omega), cl_keep F52 rfl hcl, e21]; exact (Xi_same (by unfold rg; omega)).trans (c18.trans (by rw [gq5])), by rw [e64]; exact (Xi_same (by unfold rg; omega)).trans R52.1⟩
    have K64 : KCL S U4 cl := kcl_w e64 (kcl_f F52 rfl (kcl_w e21 (kcl_w e12 KCL.rf)))
    refine y_aload_n rfl rfl ?_
    refine y_gfr rfl rfl rfl rfl rfl (hHU4.r 899 2 895 rfl) ?_
    refine y_gfi rfl rfl rfl rfl rfl ?_
    have w27 : (Xi U4 895 5) = (Xi T3 895 5) := (show Xi U4 895 5 = Xi T3 895 5 from by rw [eU4]; exact Xi_ne (by omega))
    rw [w27]
    have Ww71 : (Xi T3 895 5) = whoC S (plR S from_) to := by first | exact R52.1 | (rw [e64, Xi_ne (by omega)]; exact R52.1)
    refine y_iconst rfl ?_
    refine y_icmp_ne rfl rfl (by unfold rg; omega) (by unfold rg; omega) (fun w28 => ?_) (fun w29 => ?_)
    · refine y_iconst rfl ?_
      refine y_goto rfl rfl ?_
      refine y_ireturn rfl rfl ?_
      have w30 : Xi U4 876 8 = Xi S 876 8 := (show Xi U4 876 8 = Xi T3 876 8 from by rw [eU4]; exact Xi_ne (by omega)).trans ( (show Xi T3 876 8 = Xi U2 876 8 from w24.x _ _ rfl).trans ( (show Xi U2 876 8 = Xi U1 876 8 from by rw [eU2]; exact Xi_ne (by omega)).trans ((show Xi U1 876 8 = Xi S 876 8 from by rw [eU1]; exact Xi_ne (by omega)))))
      have w31 : Xi U4 895 5 = Xi T3 895 5 := (show Xi U4 895 5 = Xi T3 895 5 from by rw [eU4]; exact Xi_ne (by omega))
      have w32 : Xi U4 895 7 = Xi T3 895 7 := (show Xi U4 895 7 = Xi T3 895 7 from by rw [eU4]; exact Xi_ne (by omega))
      exact ⟨hHU4, hFU4, _, rfl, ⟨by omega, by omega⟩, (by first | (have u := Y90; exact ⟨kcl_f F90 rfl K64, (cl_keep F90 rfl hcl 0).trans A64.1, (cl_keep F90 rfl hcl 4).trans A64.2.1, (cl_keep F90 rfl hcl 6).trans A64.2.2, fun _ => ⟨by omega, Y90⟩, fun q => absurd (Ww71.symm.trans (by omega)) q⟩) | exact ⟨K64, A64.1, A64.2.1, A64.2.2, fun q => absurd (Ww71.trans q) (by omega), fun _ => ⟨by omega, by omega⟩⟩ | (exfalso; omega))⟩
    · refine y_aload_n rfl rfl ?_
      refine y_gfr rfl rfl rfl rfl rfl (hHU4.r 899 0 876 rfl) ?_
      refine y_iconst rfl ?_
      refine y_aload_n rfl rfl ?_
      refine y_gfr rfl rfl rfl rfl rfl (hHU4.r 899 2 895 rfl) ?_
      refine y_gfi rfl rfl rfl rfl rfl ?_
      have w33 : -2147483648 ≤ (Xi U4 895 7) ∧ (Xi U4 895 7) ≤ 2147483647 := Xi_rgI
      have r87 : (Xi U4 895 7) = whrC S (plR S from_) := by first | exact R52.2.2.1 | (rw [e64, Xi_ne (by omega)]; exact R52.2.2.1)
      have w34 : Xi U4 876 8 = Xi S 876 8 := (show Xi U4 876 8 = Xi T3 876 8 from by rw [eU4]; exact Xi_ne (by omega)).trans ( (show Xi T3 876 8 = Xi U2 876 8 from w24.x _ _ rfl).trans ( (show Xi U2 876 8 = Xi U1 876 8 from by rw [eU2]; exact Xi_ne (by omega)).trans ((show Xi U1 876 8 = Xi S 876 8 from by rw [eU1]; exact Xi_ne (by omega)))))
      have w35 : Xi U4 876 9 = Xi S 876 9 := (show Xi U4 876 9 = Xi T3 876 9 from by rw [eU4]; exact Xi_ne (by omega)).trans ( (show Xi T3 876 9 = Xi U2 876 9 from w24.x _ _ rfl).trans ( (show Xi U2 876 9 = Xi U1 876 9 from by rw [eU2]; exact Xi_ne (by omega)).trans ((show Xi U1 876 9 = Xi S 876 9 from by rw [eU1]; exact Xi_ne (by omega)))))
      have w37 : Xi U4 895 7 = Xi T3 895 7 := (show Xi U4 895 7 = Xi T3 895 7 from by rw [eU4]; exact Xi_ne (by omega))
      refine y_callV rfl rfl rfl (t_to_wrong__p hHU4 4 (Xi U4 895 7) ⟨by omega, by omega⟩ ⟨by omega, by omega⟩ _) ?_
      rintro _ T5 ⟨hHT5, w41, z40, rfl, w40, w38, f90, w39⟩
      have hFT5 : FR md_rr_placeTest__p S T5 := FR.tr hFU4 w41 rfl
      show Pl _ _ _ _ _ _ [iv z40] _ _
      have F90 := (by assumption : FR md_to_wrong__p U4 T5)
      have Y90 : Xi S 876 8 = 0 → FTO S T5 4 (whrC S (plR S from_)) := fun q => by have u := f90 (by omega); rw [r87] at u; exact ⟨u.1, u.2.trans (pc7_FR hFU4 rfl rfl rfl _)⟩
      refine y_if_eq rfl rfl (by unfold rg; omega) (fun w42 => ?_) (fun w43 => ?_)
      · refine y_iconst rfl ?_
        refine y_ireturn rfl rfl ?_
        have w44 : Xi T5 895 5 = Xi T3 895 5 := (show Xi T5 895 5 = Xi U4 895 5 from w41.x _ _ rfl).trans ((show Xi U4 895 5 = Xi T3 895 5 from by rw [eU4]; exact Xi_ne (by omega)))
        have w45 : Xi T5 895 7 = Xi T3 895 7 := (show Xi T5 895 7 = Xi U4 895 7 from w41.x _ _ rfl).trans ((show Xi U4 895 7 = Xi T3 895 7 from by rw [eU4]; exact Xi_ne (by omega)))
        exact ⟨hHT5, hFT5, _, rfl, ⟨by omega, by omega⟩, (by first | (have u := Y90; exact ⟨kcl_f F90 rfl K64, (cl_keep F90 rfl hcl 0).trans A64.1, (cl_keep F90 rfl hcl 4).trans A64.2.1, (cl_keep F90 rfl hcl 6).trans A64.2.2, fun _ => ⟨by omega, Y90⟩, fun q => absurd (Ww71.symm.trans (by omega)) q⟩) | exact ⟨K64, A64.1, A64.2.1, A64.2.2, fun q => absurd (Ww71.trans q) (by omega), fun _ => ⟨by omega, by omega⟩⟩ | (exfalso; omega))⟩
      · refine y_iconst rfl ?_
        refine y_goto rfl rfl ?_
        refine y_ireturn rfl rfl ?_
        have w46 : Xi T5 895 5 = Xi T3 895 5 := (show Xi T5 895 5 = Xi U4 895 5 from w41.x _ _ rfl).trans ((show Xi U4 895 5 = Xi T3 895 5 from by rw [eU4]; exact Xi_ne (by omega)))
        have w47 : Xi T5 895 7 = Xi T3 895 7 := (show Xi T5 895 7 = Xi U4 895 7 from w41.x _ _ rfl).trans ((show Xi U4 895 7 = Xi T3 895 7 from by rw [eU4]; exact Xi_ne (by omega)))
        exact ⟨hHT5, hFT5, _, rfl, ⟨by omega, by omega⟩, (by first | (have u := Y90; exact ⟨kcl_f F90 rfl K64, (cl_keep F90 rfl hcl 0).trans A64.1, (cl_keep F90 rfl hcl 4).trans A64.2.1, (cl_keep F90 rfl hcl 6).trans A64.2.2, fun _ => ⟨by omega, Y90⟩, fun q => absurd (Ww71.symm.trans (by omega)) q⟩) | exact ⟨K64, A64.1, A64.2.1, A64.2.2, fun q => absurd (Ww71.trans q) (by omega), fun _ => ⟨by omega, by omega⟩⟩ | (exfalso; omega))⟩
  · refine y_iload rfl rfl ?_
    refine y_bipush rfl rfl ?_
    refine y_icmp_ne rfl rfl (by unfold rg; omega) (by unfold rg; omega) (fun w48 => ?_) (fun w49 => ?_)
    · refine y_iload_n rfl rfl ?_
      refine y_iconst rfl ?_
      refine y_iadd rfl ?_
      refine y_iload_n rfl rfl ?_
      have w50 : Xi U2 1 3 = Xi S 1 3 := (show Xi U2 1 3 = Xi U1 1 3 from by rw [eU2]; exact Xi_ne (by omega)).trans ((show Xi U1 1 3 = Xi S 1 3 from by rw [eU1]; exact Xi_ne (by omega)))
      have w51 : Xi U2 876 7 = Xi S 876 7 := (show Xi U2 876 7 = Xi U1 876 7 from by rw [eU2]; exact Xi_ne (by omega)).trans ((show Xi U1 876 7 = Xi S 876 7 from by rw [eU1]; exact Xi_ne (by omega)))
      have w52 : Xi U2 876 8 = Xi S 876 8 := (show Xi U2 876 8 = Xi U1 876 8 from by rw [eU2]; exact Xi_ne (by omega)).trans ((show Xi U1 876 8 = Xi S 876 8 from by rw [eU1]; exact Xi_ne (by omega)))
      have w53 : Xi U2 895 5 = Xi S 895 5 := (show Xi U2 895 5 = Xi U1 895 5 from by rw [eU2]; exact Xi_ne (by omega)).trans ((show Xi U1 895 5 = Xi S 895 5 from by rw [eU1]; exact Xi_ne (by omega)))
      have w54 : Xi U2 895 7 = Xi S 895 7 := (show Xi U2 895 7 = Xi U1 895 7 from by rw [eU2]; exact Xi_ne (by omega)).trans ((show Xi U1 895 7 = Xi S 895 7 from by rw [eU1]; exact Xi_ne (by omega)))
      refine y_callV rfl rfl rfl (t_me_readThing__p hHU2 (from_ + 2) to ⟨by omega, by omega⟩ ⟨by omega, by omega⟩ (by first | assumption | omega) (by first | assumption | exact (CEN_FR hFU2 rfl rfl (by assumption : CEN S))) (by first | assumption | omega) _) ?_
      rintro _ T6 ⟨hHT6, w57, z56, rfl, w56, o52, w55⟩
      have hFT6 : FR md_rr_placeTest__p S T6 := FR.tr hFU2 w57 rfl
      show Pl _ _ _ _ _ _ [iv z56] _ _
      have R52 : RTH S T6 (plR S from_) to z56 := by unfold plR; rw [gq5]; first | (rw [if_pos (by omega)]; exact rth_F hFU2 rfl rfl rfl rfl rfl o52) | (rw [if_neg (by omega)]; exact rth_F hFU2 rfl rfl rfl rfl rfl o52)
      clear o52
      have F52 := (by assumption : FR md_me_readThing__p U2 T6)
      refine y_pop rfl rfl ?_
      refine y_aload_n rfl rfl ?_
      refine y_aload_n rfl rfl ?_
      refine y_gfr rfl rfl rfl rfl rfl (hHT6.r 899 2 895 rfl) ?_
      refine y_gfi rfl rfl rfl rfl rfl ?_
      have w58 : -2147483648 ≤ (Xi T6 895 5) ∧ (Xi T6 895 5) ≤ 2147483647 := Xi_rgI
      refine y_pfi rfl rfl (layClW (by omega) rfl) rfl ?_
      obtain ⟨U7, eU7⟩ : ∃ T : sS, T = uI T6 (276 + cl) 6 (Int32.ofInt (Xi T6 895 5)) := ⟨_, rfl⟩
      rw [← eU7]
      have hHU7 : RI U7 := by rw [eU7]; exact RI_w hHT6
      have hFU7 : FR md_rr_placeTest__p S U7 := by rw [eU7]; exact FR.wI hFT6 (mdf_i (r := (276, 876, 6, 7)) (List.mem_of_getElem? (i := 2) rfl) (inR_i (by omega) (by omega) (by omega) (by omega)))
      have w59 : Xi U7 (276 + cl) 6 = (Xi T6 895 5) := by rw [eU7]; exact Xi_same (by unfold rg; omega)
      have e64 := eU7
      have A64 : Xi U7 (276 + cl) 0 = 5 ∧ Xi U7 (276 + cl) 4 = wyC (ty7 S from_) ∧ Xi U7 (276 + cl) 6 = whoC S (plR S from_) to := ⟨by rw [e64, Xi_ne (by omega), cl_keep F52 rfl hcl, e21, Xi_ne (by omega), e12]; exact Xi_same (by unfold rg; omega), by rw [e64, Xi_ne (by omega), cl_keep F52 rfl hcl, e21]; exact (Xi_same (by unfold rg; omega)).trans (c18.trans (by rw [gq5])), by rw [e64]; exact (Xi_same (by unfold rg; omega)).trans R52.1⟩
      have K64 : KCL S U7 cl := kcl_w e64 (kcl_f F52 rfl (kcl_w e21 (kcl_w e12 KCL.rf)))
      refine y_aload_n rfl rfl ?_
      refine y_gfr rfl rfl rfl rfl rfl (hHU7.r 899 2 895 rfl) ?_
      refine y_gfi rfl rfl rfl rfl rfl ?_
      have w60 : (Xi U7 895 5) = (Xi T6 895 5) := (show Xi U7 895 5 = Xi T6 895 5 from by rw [eU7]; exact Xi_ne (by omega))
      rw [w60]
      have Ww71 : (Xi T6 895 5) = whoC S (plR S from_) to := by first | exact R52.1 | (rw [e64, Xi_ne (by omega)]; exact R52.1)
      refine y_iconst rfl ?_
      refine y_icmp_ne rfl rfl (by unfold rg; omega) (by unfold rg; omega) (fun w61 => ?_) (fun w62 => ?_)
      · refine y_iconst rfl ?_
        refine y_goto rfl rfl ?_
        refine y_ireturn rfl rfl ?_
        have w63 : Xi U7 876 8 = Xi S 876 8 := (show Xi U7 876 8 = Xi T6 876 8 from by rw [eU7]; exact Xi_ne (by omega)).trans ( (show Xi T6 876 8 = Xi U2 876 8 from w57.x _ _ rfl).trans ( (show Xi U2 876 8 = Xi U1 876 8 from by rw [eU2]; exact Xi_ne (by omega)).trans ((show Xi U1 876 8 = Xi S 876 8 from by rw [eU1]; exact Xi_ne (by omega)))))
        have w64 : Xi U7 895 5 = Xi T6 895 5 := (show Xi U7 895 5 = Xi T6 895 5 from by rw [eU7]; exact Xi_ne (by omega))
        have w65 : Xi U7 895 7 = Xi T6 895 7 := (show Xi U7 895 7 = Xi T6 895 7 from by rw [eU7]; exact Xi_ne (by omega))
        exact ⟨hHU7, hFU7, _, rfl, ⟨by omega, by omega⟩, (by first | (have u := Y90; exact ⟨kcl_f F90 rfl K64, (cl_keep F90 rfl hcl 0).trans A64.1, (cl_keep F90 rfl hcl 4).trans A64.2.1, (cl_keep F90 rfl hcl 6).trans A64.2.2, fun _ => ⟨by omega, Y90⟩, fun q => absurd (Ww71.symm.trans (by omega)) q⟩) | exact ⟨K64, A64.1, A64.2.1, A64.2.2, fun q => absurd (Ww71.trans q) (by omega), fun _ => ⟨by omega, by omega⟩⟩ | (exfalso; omega))⟩
      · refine y_aload_n rfl rfl ?_
        refine y_gfr rfl rfl rfl rfl rfl (hHU7.r 899 0 876 rfl) ?_
        refine y_iconst rfl ?_
        refine y_aload_n rfl rfl ?_
        refine y_gfr rfl rfl rfl rfl rfl (hHU7.r 899 2 895 rfl) ?_
        refine y_gfi rfl rfl rfl rfl rfl ?_
        have w66 : -2147483648 ≤ (Xi U7 895 7) ∧ (Xi U7 895 7) ≤ 2147483647 := Xi_rgI
        have r87 : (Xi U7 895 7) = whrC S (plR S from_) := by first | exact R52.2.2.1 | (rw [e64, Xi_ne (by omega)]; exact R52.2.2.1)
        have w67 : Xi U7 876 8 = Xi S 876 8 := (show Xi U7 876 8 = Xi T6 876 8 from by rw [eU7]; exact Xi_ne (by omega)).trans ( (show Xi T6 876 8 = Xi U2 876 8 from w57.x _ _ rfl).trans ( (show Xi U2 876 8 = Xi U1 876 8 from by rw [eU2]; exact Xi_ne (by omega)).trans ((show Xi U1 876 8 = Xi S 876 8 from by rw [eU1]; exact Xi_ne (by omega)))))
        have w68 : Xi U7 876 9 = Xi S 876 9 := (show Xi U7 876 9 = Xi T6 876 9 from by rw [eU7]; exact Xi_ne (by omega)).trans ( (show Xi T6 876 9 = Xi U2 876 9 from w57.x _ _ rfl).trans ( (show Xi U2 876 9 = Xi U1 876 9 from by rw [eU2]; exact Xi_ne (by omega)).trans ((show Xi U1 876 9 = Xi S 876 9 from by rw [eU1]; exact Xi_ne (by omega)))))
        have w70 : Xi U7 895 7 = Xi T6 895 7 := (show Xi U7 895 7 = Xi T6 895 7 from by rw [eU7]; exact Xi_ne (by omega))
        refine y_callV rfl rfl rfl (t_to_wrong__p hHU7 4 (Xi U7 895 7) ⟨by omega, by omega⟩ ⟨by omega, by omega⟩ _) ?_
        rintro _ T8 ⟨hHT8, w74, z73, rfl, w73, w71, f90, w72⟩
        have hFT8 : FR md_rr_placeTest__p S T8 := FR.tr hFU7 w74 rfl
        show Pl _ _ _ _ _ _ [iv z73] _ _
        have F90 := (by assumption : FR md_to_wrong__p U7 T8)
        have Y90 : Xi S 876 8 = 0 → FTO S T8 4 (whrC S (plR S from_)) := fun q => by have u := f90 (by omega); rw [r87] at u; exact ⟨u.1, u.2.trans (pc7_FR hFU7 rfl rfl rfl _)⟩
        refine y_if_eq rfl rfl (by unfold rg; omega) (fun w75 => ?_) (fun w76 => ?_)
        · refine y_iconst rfl ?_
          refine y_ireturn rfl rfl ?_
          have w77 : Xi T8 895 5 = Xi T6 895 5 := (show Xi T8 895 5 = Xi U7 895 5 from w74.x _ _ rfl).trans ((show Xi U7 895 5 = Xi T6 895 5 from by rw [eU7]; exact Xi_ne (by omega)))
          have w78 : Xi T8 895 7 = Xi T6 895 7 := (show Xi T8 895 7 = Xi U7 895 7 from w74.x _ _ rfl).trans ((show Xi U7 895 7 = Xi T6 895 7 from by rw [eU7]; exact Xi_ne (by omega)))
          exact ⟨hHT8, hFT8, _, rfl, ⟨by omega, by omega⟩, (by first | (have u := Y90; exact ⟨kcl_f F90 rfl K64, (cl_keep F90 rfl hcl 0).trans A64.1, (cl_keep F90 rfl hcl 4).trans A64.2.1, (cl_keep F90 rfl hcl 6).trans A64.2.2, fun _ => ⟨by omega, Y90⟩, fun q => absurd (Ww71.symm.trans (by omega)) q⟩) | exact ⟨K64, A64.1, A64.2.1, A64.2.2, fun q => absurd (Ww71.trans q) (by omega), fun _ => ⟨by omega, by omega⟩⟩ | (exfalso; omega))⟩
        · refine y_iconst rfl ?_
          refine y_goto rfl rfl ?_
          refine y_ireturn rfl rfl ?_
          have w79 : Xi T8 895 5 = Xi T6 895 5 := (show Xi T8 895 5 = Xi U7 895 5 from w74.x _ _ rfl).trans ((show Xi U7 895 5 = Xi T6 895 5 from by rw [eU7]; exact Xi_ne (by omega)))
          have w80 : Xi T8 895 7 = Xi T6 895 7 := (show Xi T8 895 7 = Xi U7 895 7 from w74.x _ _ rfl).trans ((show Xi U7 895 7 = Xi T6 895 7 from by rw [eU7]; exact Xi_ne (by omega)))
          exact ⟨hHT8, hFT8, _, rfl, ⟨by omega, by omega⟩, (by first | (have u := Y90; exact ⟨kcl_f F90 rfl K64, (cl_keep F90 rfl hcl 0).trans A64.1, (cl_keep F90 rfl hcl 4).trans A64.2.1, (cl_keep F90 rfl hcl 6).trans A64.2.2, fun _ => ⟨by omega, Y90⟩, fun q => absurd (Ww71.symm.trans (by omega)) q⟩) | exact ⟨K64, A64.1, A64.2.1, A64.2.2, fun q => absurd (Ww71.trans q) (by omega), fun _ => ⟨by omega, by omega⟩⟩ | (exfalso; omega))⟩
    · refine y_iload_n rfl rfl ?_
      refine y_iconst rfl ?_
      refine y_iadd rfl ?_
      refine y_goto rfl rfl ?_
      refine y_iload_n rfl rfl ?_
      have w81 : Xi U2 1 3 = Xi S 1 3 := (show Xi U2 1 3 = Xi U1 1 3 from by rw [eU2]; exact Xi_ne (by omega)).trans ((show Xi U1 1 3 = Xi S 1 3 from by rw [eU1]; exact Xi_ne (by omega)))
      have w82 : Xi U2 876 7 = Xi S 876 7 := (show Xi U2 876 7 = Xi U1 876 7 from by rw [eU2]; exact Xi_ne (by omega)).trans ((show Xi U1 876 7 = Xi S 876 7 from by rw [eU1]; exact Xi_ne (by omega)))
      have w83 : Xi U2 876 8 = Xi S 876 8 := (show Xi U2 876 8 = Xi U1 876 8 from by rw [eU2]; exact Xi_ne (by omega)).trans ((show Xi U1 876 8 = Xi S 876 8 from by rw [eU1]; exact Xi_ne (by omega)))
      have w84 : Xi U2 895 5 = Xi S 895 5 := (show Xi U2 895 5 = Xi U1 895 5 from by rw [eU2]; exact Xi_ne (by omega)).trans ((show Xi U1 895 5 = Xi S 895 5 from by rw [eU1]; exact Xi_ne (by omega)))
      have w85 : Xi U2 895 7 = Xi S 895 7 := (show Xi U2 895 7 = Xi U1 895 7 from by rw [eU2]; exact Xi_ne (by omega)).trans ((show Xi U1 895 7 = Xi S 895 7 from by rw [eU1]; exact Xi_ne (by omega)))
      refine y_callV rfl rfl rfl (t_me_readThing__p hHU2 (from_ + 1) to ⟨by omega, by omega⟩ ⟨by omega, by omega⟩ (by first | assumption | omega) (by first | assumption | exact (CEN_FR hFU2 rfl rfl (by assumption : CEN S))) (by first | assumption | omega) _) ?_
      rintro _ T9 ⟨hHT9, w88, z87, rfl, w87, o52, w86⟩
      have hFT9 : FR md_rr_placeTest__p S T9 := FR.tr hFU2 w88 rfl
      show Pl _ _ _ _ _ _ [iv z87] _ _
      have R52 : RTH S T9 (plR S from_) to z87 := by unfold plR; rw [gq5]; first | (rw [if_pos (by omega)]; exact rth_F hFU2 rfl rfl rfl rfl rfl o52) | (rw [if_neg (by omega)]; exact rth_F hFU2 rfl rfl rfl rfl rfl o52)
      clear o52
      have F52 := (by assumption : FR md_me_readThing__p U2 T9)
      refine y_pop rfl rfl ?_
      refine y_aload_n rfl rfl ?_
      refine y_aload_n rfl rfl ?_
      refine y_gfr rfl rfl rfl rfl rfl (hHT9.r 899 2 895 rfl) ?_
      refine y_gfi rfl rfl rfl rfl rfl ?_
      have w89 : -2147483648 ≤ (Xi T9 895 5) ∧ (Xi T9 895 5) ≤ 2147483647 := Xi_rgI
      refine y_pfi rfl rfl (layClW (by omega) rfl) rfl ?_
      obtain ⟨U10, eU10⟩ : ∃ T : sS, T = uI T9 (276 + cl) 6 (Int32.ofInt (Xi T9 895 5)) := ⟨_, rfl⟩
      rw [← eU10]
      have hHU10 : RI U10 := by rw [eU10]; exact RI_w hHT9
      have hFU10 : FR md_rr_placeTest__p S U10 := by rw [eU10]; exact FR.wI hFT9 (mdf_i (r := (276, 876, 6, 7)) (List.mem_of_getElem? (i := 2) rfl) (inR_i (by omega) (by omega) (by omega) (by omega)))
      have w90 : Xi U10 (276 + cl) 6 = (Xi T9 895 5) := by rw [eU10]; exact Xi_same (by unfold rg; omega)
      have e64 := eU10
      have A64 : Xi U10 (276 + cl) 0 = 5 ∧ Xi U10 (276 + cl) 4 = wyC (ty7 S from_) ∧ Xi U10 (276 + cl) 6 = whoC S (plR S from_) to := ⟨by rw [e64, Xi_ne (by omega), cl_keep F52 rfl hcl, e21, Xi_ne (by omega), e12]; exact Xi_same (by unfold rg; omega), by rw [e64, Xi_ne (by omega), cl_keep F52 rfl hcl, e21]; exact (Xi_same (by unfold rg; omega)).trans (c18.trans (by rw [gq5])), by rw [e64]; exact (Xi_same (by unfold rg; omega)).trans R52.1⟩
      have K64 : KCL S U10 cl := kcl_w e64 (kcl_f F52 rfl (kcl_w e21 (kcl_w e12 KCL.rf)))
      refine y_aload_n rfl rfl ?_
      refine y_gfr rfl rfl rfl rfl rfl (hHU10.r 899 2 895 rfl) ?_
      refine y_gfi rfl rfl rfl rfl rfl ?_
      have w91 : (Xi U10 895 5) = (Xi T9 895 5) := (show Xi U10 895 5 = Xi T9 895 5 from by rw [eU10]; exact Xi_ne (by omega))
      rw [w91]
      have Ww71 : (Xi T9 895 5) = whoC S (plR S from_) to := by first | exact R52.1 | (rw [e64, Xi_ne (by omega)]; exact R52.1)
      refine y_iconst rfl ?_
      refine y_icmp_ne rfl rfl (by unfold rg; omega) (by unfold rg; omega) (fun w92 => ?_) (fun w93 => ?_)
      · refine y_iconst rfl ?_
        refine y_goto rfl rfl ?_
        refine y_ireturn rfl rfl ?_
        have w94 : Xi U10 876 8 = Xi S 876 8 := (show Xi U10 876 8 = Xi T9 876 8 from by rw [eU10]; exact Xi_ne (by omega)).trans ( (show Xi T9 876 8 = Xi U2 876 8 from w88.x _ _ rfl).trans ( (show Xi U2 876 8 = Xi U1 876 8 from by rw [eU2]; exact Xi_ne (by omega)).trans ((show Xi U1 876 8 = Xi S 876 8 from by rw [eU1]; exact Xi_ne (by omega)))))
        have w95 : Xi U10 895 5 = Xi T9 895 5 := (show Xi U10 895 5 = Xi T9 895 5 from by rw [eU10]; exact Xi_ne (by omega))
        have w96 : Xi U10 895 7 = Xi T9 895 7 := (show Xi U10 895 7 = Xi T9 895 7 from by rw [eU10]; exact Xi_ne (by omega))
        exact ⟨hHU10, hFU10, _, rfl, ⟨by omega, by omega⟩, (by first | (have u := Y90; exact ⟨kcl_f F90 rfl K64, (cl_keep F90 rfl hcl 0).trans A64.1, (cl_keep F90 rfl hcl 4).trans A64.2.1, (cl_keep F90 rfl hcl 6).trans A64.2.2, fun _ => ⟨by omega, Y90⟩, fun q => absurd (Ww71.symm.trans (by omega)) q⟩) | exact ⟨K64, A64.1, A64.2.1, A64.2.2, fun q => absurd (Ww71.trans q) (by omega), fun _ => ⟨by omega, by omega⟩⟩ | (exfalso; omega))⟩
      · refine y_aload_n rfl rfl ?_
        refine y_gfr rfl rfl rfl rfl rfl (hHU10.r 899 0 876 rfl) ?_
        refine y_iconst rfl ?_
        refine y_aload_n rfl rfl ?_
        refine y_gfr rfl rfl rfl rfl rfl (hHU10.r 899 2 895 rfl) ?_
        refine y_gfi rfl rfl rfl rfl rfl ?_
        have w97 : -2147483648 ≤ (Xi U10 895 7) ∧ (Xi U10 895 7) ≤ 2147483647 := Xi_rgI
        have r87 : (Xi U10 895 7) = whrC S (plR S from_) := by first | exact R52.2.2.1 | (rw [e64, Xi_ne (by omega)]; exact R52.2.2.1)
        have w98 : Xi U10 876 8 = Xi S 876 8 := (show Xi U10 876 8 = Xi T9 876 8 from by rw [eU10]; exact Xi_ne (by omega)).trans ( (show Xi T9 876 8 = Xi U2 876 8 from w88.x _ _ rfl).trans ( (show Xi U2 876 8 = Xi U1 876 8 from by rw [eU2]; exact Xi_ne (by omega)).trans ((show Xi U1 876 8 = Xi S 876 8 from by rw [eU1]; exact Xi_ne (by omega)))))
        have w99 : Xi U10 876 9 = Xi S 876 9 := (show Xi U10 876 9 = Xi T9 876 9 from by rw [eU10]; exact Xi_ne (by omega)).trans ( (show Xi T9 876 9 = Xi U2 876 9 from w88.x _ _ rfl).trans ( (show Xi U2 876 9 = Xi U1 876 9 from by rw [eU2]; exact Xi_ne (by omega)).trans ((show Xi U1 876 9 = Xi S 876 9 from by rw [eU1]; exact Xi_ne (by omega)))))
        have w101 : Xi U10 895 7 = Xi T9 895 7 := (show Xi U10 895 7 = Xi T9 895 7 from by rw [eU10]; exact Xi_ne (by omega))
        refine y_callV rfl rfl rfl (t_to_wrong__p hHU10 4 (Xi U10 895 7) ⟨by omega, by omega⟩ ⟨by omega, by omega⟩ _) ?_
        rintro _ T11 ⟨hHT11, w105, z104, rfl, w104, w102, f90, w103⟩
        have hFT11 : FR md_rr_placeTest__p S T11 := FR.tr hFU10 w105 rfl
        show Pl _ _ _ _ _ _ [iv z104] _ _
        have F90 := (by assumption : FR md_to_wrong__p U10 T11)
        have Y90 : Xi S 876 8 = 0 → FTO S T11 4 (whrC S (plR S from_)) := fun q => by have u := f90 (by omega); rw [r87] at u; exact ⟨u.1, u.2.trans (pc7_FR hFU10 rfl rfl rfl _)⟩
        refine y_if_eq rfl rfl (by unfold rg; omega) (fun w106 => ?_) (fun w107 => ?_)
        · refine y_iconst rfl ?_
          refine y_ireturn rfl rfl ?_
          have w108 : Xi T11 895 5 = Xi T9 895 5 := (show Xi T11 895 5 = Xi U10 895 5 from w105.x _ _ rfl).trans ((show Xi U10 895 5 = Xi T9 895 5 from by rw [eU10]; exact Xi_ne (by omega)))
          have w109 : Xi T11 895 7 = Xi T9 895 7 := (show Xi T11 895 7 = Xi U10 895 7 from w105.x _ _ rfl).trans ((show Xi U10 895 7 = Xi T9 895 7 from by rw [eU10]; exact Xi_ne (by omega)))
          exact ⟨hHT11, hFT11, _, rfl, ⟨by omega, by omega⟩, (by first | (have u := Y90; exact ⟨kcl_f F90 rfl K64, (cl_keep F90 rfl hcl 0).trans A64.1, (cl_keep F90 rfl hcl 4).trans A64.2.1, (cl_keep F90 rfl hcl 6).trans A64.2.2, fun _ => ⟨by omega, Y90⟩, fun q => absurd (Ww71.symm.trans (by omega)) q⟩) | exact ⟨K64, A64.1, A64.2.1, A64.2.2, fun q => absurd (Ww71.trans q) (by omega), fun _ => ⟨by omega, by omega⟩⟩ | (exfalso; omega))⟩
        · refine y_iconst rfl ?_
          refine y_goto rfl rfl ?_
          refine y_ireturn rfl rfl ?_
          have w110 : Xi T11 895 5 = Xi T9 895 5 := (show Xi T11 895 5 = Xi U10 895 5 from w105.x _ _ rfl).trans ((show Xi U10 895 5 = Xi T9 895 5 from by rw [eU10]; exact Xi_ne (by omega)))
          have w111 : Xi T11 895 7 = Xi T9 895 7 := (show Xi T11 895 7 = Xi U10 895 7 from w105.x _ _ rfl).trans ((show Xi U10 895 7 = Xi T9 895 7 from by rw [eU10]; exact Xi_ne (by omega)))
          exact ⟨hHT11, hFT11, _, rfl, ⟨by omega, by omega⟩, (by first | (have u := Y90; exact ⟨kcl_f F90 rfl K64, (cl_keep F90 rfl hcl 0).trans A64.1, (cl_keep F90 rfl hcl 4).trans A64.2.1, (cl_keep F90 rfl hcl 6).trans A64.2.2, fun _ => ⟨by omega, Y90⟩, fun q => absurd (Ww71.symm.trans (by omega)) q⟩) | exact ⟨K64, A64.1, A64.2.1, A64.2.2, fun q => absurd (Ww71.trans q) (by omega), fun _ => ⟨by omega, by omega⟩⟩ | (exfalso; omega))⟩
def md_rr_propertyOfThing__p : List rec := [(276, 876, 2, 3), (276, 876, 3, 4), (876, 877, 8, 9), (876, 877, 9, 10), (895, 896, 5, 6), (895, 896, 6, 7), (895, 896, 7, 8)]
abbrev Q_rr_propertyOfThing__p (S : sS) (from_ : Int) (off : Int) (num : Int) (cl : Nat) : pst := fun r S1 => RI S1 ∧ FR md_rr_propertyOfThing__p S S1 ∧ (∃ z : Int, r = some (iv z) ∧ (0 ≤ z ∧ z ≤ 1) ∧ (POT S S1 cl from_ off num (Xi S 876 7 - 1) z))
set_option maxRecDepth 100000 in
theorem t_rr_propertyOfThing__p {S : sS} (hH : RI S) (from_ : Int) (off : Int) (num : Int) (cl : Nat) (hfrom_ : 0 ≤ from_ ∧ from_ ≤ 5130) (hoff : 0 ≤ off ∧ off ≤ 5130) (hnum : 0 ≤ num ∧ num ≤ 1) (hcl : cl < 600) (h13 : 0 ≤ Xi S 1 3 ∧ Xi S 1 3 ≤ 200) (hCE : CEN S) (hr : Xi S 876 7 ≤ 5130) (h7 : 0 ≤ Xi S 876 7) (d : Nat) : Mp lay0 (d + 3) m_rr_propertyOfThing [.ref 899, iv from_, iv off, iv num, .ref (276 + cl)] S (Q_rr_propertyOfThing__p S from_ off num cl) := by
  refine Mp_R rfl rfl (fun fu => ?_)
  have hF : FR md_rr_propertyOfThing__p S S := FR.rf
  have w1 : -2147483648 ≤ Xi S 1 3 ∧ Xi S 1 3 ≤ 2147483647 := Xi_rgI
  have w2 : -2147483648 ≤ Xi S 876 7 ∧ Xi S 876 7 ≤ 2147483647 := Xi_rgI
  have w3 : -2147483648 ≤ Xi S 876 8 ∧ Xi S 876 8 ≤ 2147483647 := Xi_rgI
  have w4 : -2147483648 ≤ Xi S 895 5 ∧ Xi S 895 5 ≤ 2147483647 := Xi_rgI
  have w5 : -2147483648 ≤ Xi S 895 6 ∧ Xi S 895 6 ≤ 2147483647 := Xi_rgI
  have w6 : -2147483648 ≤ Xi S 895 7 ∧ Xi S 895 7 ≤ 2147483647 := Xi_rgI
  refine y_aload_n rfl rfl ?_
  refine y_gfr rfl rfl rfl rfl rfl (hH.r 899 2 895 rfl) ?_
  refine y_iload_n rfl rfl ?_
  refine y_iconst rfl ?_
  refine y_iadd rfl ?_
  refine y_aload_n rfl rfl ?_
  refine y_gfr rfl rfl rfl rfl rfl (hH.r 899 0 876 rfl) ?_
  refine y_callV rfl rfl rfl (t_to_lastRow__p hH (by first | assumption | omega) _) ?_
  rintro _ _ ⟨rfl, z7, rfl, w7, p11⟩
  show Pl _ _ _ _ _ _ [iv z7, iv (off + 1), .ref 895] _ _
  refine y_callV rfl rfl rfl (t_me_readThing__p hH (off + 1) z7 ⟨by omega, by omega⟩ ⟨by omega, by omega⟩ (by first | assumption | omega) (by first | assumption | exact (CEN_FR hF rfl rfl (by assumption : CEN S))) (by first | assumption | omega) _) ?_
  rintro _ T1 ⟨hHT1, w10, z9, rfl, w9, o14, w8⟩
  have hFT1 : FR md_rr_propertyOfThing__p S T1 := FR.tr hF w10 rfl
  show Pl _ _ _ _ _ _ [iv z9] _ _
  have R14 : RTH S T1 (off + 1) (Xi S 876 7 - 1) z9 := by have u := o14; rw [p11] at u; exact u
  clear o14
  have F14 := (by assumption : FR md_me_readThing__p S T1)
  refine y_pop rfl rfl ?_
  refine y_aload rfl rfl ?_
  refine y_aload_n rfl rfl ?_
  refine y_gfr rfl rfl rfl rfl rfl (hHT1.r 899 2 895 rfl) ?_
  refine y_gfi rfl rfl rfl rfl rfl ?_
  have w11 : -2147483648 ≤ (Xi T1 895 5) ∧ (Xi T1 895 5) ≤ 2147483647 := Xi_rgI
  refine y_pfi rfl rfl (layClW (by omega) rfl) rfl ?_
  obtain ⟨U2, eU2⟩ : ∃ T : sS, T = uI T1 (276 + cl) 2 (Int32.ofInt (Xi T1 895 5)) := ⟨_, rfl⟩
  rw [← eU2]
  have hHU2 : RI U2 := by rw [eU2]; exact RI_w hHT1
  have hFU2 : FR md_rr_propertyOfThing__p S U2 := by rw [eU2]; exact FR.wI hFT1 (mdf_i (r := (276, 876, 2, 3)) (List.mem_of_getElem? (i := 0) rfl) (inR_i (by omega) (by omega) (by omega) (by omega)))
  have w12 : Xi U2 (276 + cl) 2 = (Xi T1 895 5) := by rw [eU2]; exact Xi_same (by unfold rg; omega)
  have e27 := eU2
  refine y_aload rfl rfl ?_
  refine y_aload_n rfl rfl ?_
  refine y_gfr rfl rfl rfl rfl rfl (hHU2.r 899 2 895 rfl) ?_
  refine y_iload_n rfl rfl ?_
  refine y_iload_n rfl rfl ?_
  refine y_aload_n rfl rfl ?_
  refine y_gfr rfl rfl rfl rfl rfl (hHU2.r 899 2 895 rfl) ?_
  refine y_gfi rfl rfl rfl rfl rfl ?_
  have w13 : -2147483648 ≤ (Xi U2 895 6) ∧ (Xi U2 895 6) ≤ 2147483647 := Xi_rgI
  have k42 : (Xi U2 895 6) = (whkC S (off + 1) (Xi S 876 7 - 1)) := by first | exact R14.2.1 | (rw [e27, Xi_ne (by omega)]; exact R14.2.1)
  refine y_iload_n rfl rfl ?_
  have w14 : Xi U2 1 3 = Xi S 1 3 := (show Xi U2 1 3 = Xi T1 1 3 from by rw [eU2]; exact Xi_ne (by omega)).trans ((show Xi T1 1 3 = Xi S 1 3 from w10.x _ _ rfl))
  have w15 : Xi U2 876 8 = Xi S 876 8 := (show Xi U2 876 8 = Xi T1 876 8 from by rw [eU2]; exact Xi_ne (by omega)).trans ((show Xi T1 876 8 = Xi S 876 8 from w10.x _ _ rfl))
  have w16 : Xi U2 895 5 = Xi T1 895 5 := (show Xi U2 895 5 = Xi T1 895 5 from by rw [eU2]; exact Xi_ne (by omega))
  have w17 : Xi U2 895 6 = Xi T1 895 6 := (show Xi U2 895 6 = Xi T1 895 6 from by rw [eU2]; exact Xi_ne (by omega))
  have w18 : Xi U2 895 7 = Xi T1 895 7 := (show Xi U2 895 7 = Xi T1 895 7 from by rw [eU2]; exact Xi_ne (by omega))
  refine y_callV rfl rfl rfl (t_me_readProperty__p hHU2 from_ off (Xi U2 895 6) num ⟨by omega, by omega⟩ ⟨by omega, by omega⟩ ⟨by omega, by omega⟩ ⟨by omega, by omega⟩ (by first | assumption | omega) (by first | assumption | exact (CEN_FR hFU2 rfl rfl (by assumption : CEN S))) _) ?_
  rintro _ T3 ⟨hHT3, w20, z19, rfl, w19, o46⟩
  have hFT3 : FR md_rr_propertyOfThing__p S T3 := FR.tr hFU2 w20 rfl
  show Pl _ _ _ _ _ _ [iv z19, .ref (276 + cl)] _ _
  have F46 := (by assumption : FR md_me_readProperty__p U2 T3)
  have O46 : RPC U2 T3 z19 from_ off (whkC S (off + 1) (Xi S 876 7 - 1)) num := by have u := o46; rw [k42] at u; exact u
  clear o46
  have y46 : pOK S from_ off (whkC S (off + 1) (Xi S 876 7 - 1)) num → z19 = mnV S from_ off % 256 ∧ T3 = U2 := fun q => by have u := O46.1 (by rw [pOK_F hFU2 rfl rfl]; exact q); rw [mnV_FR hFU2 rfl] at u; exact u
  have x46 : ¬ pOK S from_ off (whkC S (off + 1) (Xi S 876 7 - 1)) num → z19 = -1 ∧ (Xi S 876 8 = 0 → FTO S T3 4 from_) := fun q => by have u := O46.2 (by rw [pOK_F hFU2 rfl rfl]; exact q); exact ⟨u.1, fun w => by have y := u.2 (by omega); exact ⟨y.1, y.2.trans (pc7_FR hFU2 rfl rfl rfl _)⟩⟩
  refine y_pfi rfl rfl (layClW (by omega) rfl) rfl ?_
  obtain ⟨U4, eU4⟩ : ∃ T : sS, T = uI T3 (276 + cl) 3 (Int32.ofInt z19) := ⟨_, rfl⟩
  rw [← eU4]
  have hHU4 : RI U4 := by rw [eU4]; exact RI_w hHT3
  have hFU4 : FR md_rr_propertyOfThing__p S U4 := by rw [eU4]; exact FR.wI hFT3 (mdf_i (r := (276, 876, 3, 4)) (List.mem_of_getElem? (i := 1) rfl) (inR_i (by omega) (by omega) (by omega) (by omega)))
  have w21 : Xi U4 (276 + cl) 3 = z19 := by rw [eU4]; exact Xi_same (by unfold rg; omega)
  have e49 := eU4
  have K49 : KCL S U4 cl := kcl_w e49 (kcl_f F46 rfl (kcl_w e27 (kcl_f F14 rfl KCL.rf)))
  have A49 : Xi U4 (276 + cl) 2 = whoC S (off + 1) (Xi S 876 7 - 1) ∧ (pOK S from_ off (whkC S (off + 1) (Xi S 876 7 - 1)) num → Xi U4 (276 + cl) 3 = mnV S from_ off % 256) ∧ (¬ pOK S from_ off (whkC S (off + 1) (Xi S 876 7 - 1)) num → Xi S 876 8 = 0 → FTO S U4 4 from_) := ⟨by rw [e49, Xi_ne (by omega), cl_keep F46 rfl hcl, e27]; exact (Xi_same (by unfold rg; omega)).trans R14.1, fun q => by rw [e49]; exact (Xi_same (by unfold rg; omega)).trans (y46 q).1, fun q w => by have y := (x46 q).2 w; exact ⟨by rw [e49, Xi_ne (by omega)]; exact y.1, by rw [e49, Xi_ne (by omega)]; exact y.2⟩⟩
  have p49 : Xi U4 (276 + cl) 3 ≠ -1 → pOK S from_ off (whkC S (off + 1) (Xi S 876 7 - 1)) num := fun q => Classical.byContradiction (fun w => q (by rw [e49]; exact (Xi_same (by unfold rg; omega)).trans (x46 w).1))
  have n49 : Xi U4 (276 + cl) 3 = -1 → ¬ pOK S from_ off (whkC S (off + 1) (Xi S 876 7 - 1)) num := fun q w => by have u := A49.2.1 w; omega
  have g49 : pOK S from_ off (whkC S (off + 1) (Xi S 876 7 - 1)) num → Xi U4 876 8 = Xi S 876 8 := fun q => by rw [e49, Xi_ne (by omega), (y46 q).2]; omega
  refine y_aload rfl rfl ?_
  refine y_gfi rfl rfl rfl (layCl (by omega)) rfl ?_
  refine y_iconst rfl ?_
  refine y_icmp_eq rfl rfl (by unfold rg; omega) (by unfold rg; omega) (fun w22 => ?_) (fun w23 => ?_)
  · refine y_iconst rfl ?_
    refine y_ireturn rfl rfl ?_
    have w24 : Xi U4 876 8 = Xi T3 876 8 := (show Xi U4 876 8 = Xi T3 876 8 from by rw [eU4]; exact Xi_ne (by omega))
    have w25 : Xi U4 895 5 = Xi T1 895 5 := (show Xi U4 895 5 = Xi T3 895 5 from by rw [eU4]; exact Xi_ne (by omega)).trans ( (show Xi T3 895 5 = Xi U2 895 5 from w20.x _ _ rfl).trans ((show Xi U2 895 5 = Xi T1 895 5 from by rw [eU2]; exact Xi_ne (by omega))))
    have w26 : Xi U4 895 6 = Xi T1 895 6 := (show Xi U4 895 6 = Xi T3 895 6 from by rw [eU4]; exact Xi_ne (by omega)).trans ( (show Xi T3 895 6 = Xi U2 895 6 from w20.x _ _ rfl).trans ((show Xi U2 895 6 = Xi T1 895 6 from by rw [eU2]; exact Xi_ne (by omega))))
    have w27 : Xi U4 895 7 = Xi T1 895 7 := (show Xi U4 895 7 = Xi T3 895 7 from by rw [eU4]; exact Xi_ne (by omega)).trans ( (show Xi T3 895 7 = Xi U2 895 7 from w20.x _ _ rfl).trans ((show Xi U2 895 7 = Xi T1 895 7 from by rw [eU2]; exact Xi_ne (by omega))))
    exact ⟨hHU4, hFU4, _, rfl, ⟨by omega, by omega⟩, (by first | (have u := Y84; exact ⟨kcl_f F84 rfl K49, (cl_keep F84 rfl hcl 2).trans A49.1, fun q => (cl_keep F84 rfl hcl 3).trans (A49.2.1 q), fun q => absurd (p49 (by omega)) q, fun _ _ => ⟨by omega, Y84⟩, fun _ q => absurd (Ww65.symm.trans (by omega)) q⟩) | (have u := Ww65; exact ⟨K49, A49.1, A49.2.1, fun q => absurd (p49 (by omega)) q, fun _ q => absurd (Ww65.trans q) (by omega), fun _ _ => ⟨by omega, by omega⟩⟩) | exact ⟨K49, A49.1, A49.2.1, fun q => ⟨by omega, A49.2.2 q⟩, fun q => absurd q (n49 (by omega)), fun q => absurd q (n49 (by omega))⟩)⟩
  · refine y_aload_n rfl rfl ?_
    refine y_gfr rfl rfl rfl rfl rfl (hHU4.r 899 2 895 rfl) ?_
    refine y_gfi rfl rfl rfl rfl rfl ?_
    have w28 : (Xi U4 895 5) = (Xi T1 895 5) := (show Xi U4 895 5 = Xi T3 895 5 from by rw [eU4]; exact Xi_ne (by omega)).trans ( (show Xi T3 895 5 = Xi U2 895 5 from w20.x _ _ rfl).trans ((show Xi U2 895 5 = Xi T1 895 5 from by rw [eU2]; exact Xi_ne (by omega))))
    rw [w28]
    have Ww65 : (Xi T1 895 5) = whoC S (off + 1) (Xi S 876 7 - 1) := by first | exact R14.1 | (rw [e49, Xi_ne (by omega), F46.x 895 5 rfl, e27, Xi_ne (by omega)]; exact R14.1) | omega
    have h65 : Xi U4 876 8 = Xi S 876 8 := g49 (p49 (by omega))
    refine y_iconst rfl ?_
    refine y_icmp_ne rfl rfl (by unfold rg; omega) (by unfold rg; omega) (fun w29 => ?_) (fun w30 => ?_)
    · refine y_iconst rfl ?_
      refine y_goto rfl rfl ?_
      refine y_ireturn rfl rfl ?_
      have w31 : Xi U4 876 8 = Xi T3 876 8 := (show Xi U4 876 8 = Xi T3 876 8 from by rw [eU4]; exact Xi_ne (by omega))
      have w32 : Xi U4 895 5 = Xi T1 895 5 := (show Xi U4 895 5 = Xi T3 895 5 from by rw [eU4]; exact Xi_ne (by omega)).trans ( (show Xi T3 895 5 = Xi U2 895 5 from w20.x _ _ rfl).trans ((show Xi U2 895 5 = Xi T1 895 5 from by rw [eU2]; exact Xi_ne (by omega))))
      have w33 : Xi U4 895 6 = Xi T1 895 6 := (show Xi U4 895 6 = Xi T3 895 6 from by rw [eU4]; exact Xi_ne (by omega)).trans ( (show Xi T3 895 6 = Xi U2 895 6 from w20.x _ _ rfl).trans ((show Xi U2 895 6 = Xi T1 895 6 from by rw [eU2]; exact Xi_ne (by omega))))
      have w34 : Xi U4 895 7 = Xi T1 895 7 := (show Xi U4 895 7 = Xi T3 895 7 from by rw [eU4]; exact Xi_ne (by omega)).trans ( (show Xi T3 895 7 = Xi U2 895 7 from w20.x _ _ rfl).trans ((show Xi U2 895 7 = Xi T1 895 7 from by rw [eU2]; exact Xi_ne (by omega))))
      exact ⟨hHU4, hFU4, _, rfl, ⟨by omega, by omega⟩, (by first | (have u := Y84; exact ⟨kcl_f F84 rfl K49, (cl_keep F84 rfl hcl 2).trans A49.1, fun q => (cl_keep F84 rfl hcl 3).trans (A49.2.1 q), fun q => absurd (p49 (by omega)) q, fun _ _ => ⟨by omega, Y84⟩, fun _ q => absurd (Ww65.symm.trans (by omega)) q⟩) | (have u := Ww65; exact ⟨K49, A49.1, A49.2.1, fun q => absurd (p49 (by omega)) q, fun _ q => absurd (Ww65.trans q) (by omega), fun _ _ => ⟨by omega, by omega⟩⟩) | exact ⟨K49, A49.1, A49.2.1, fun q => ⟨by omega, A49.2.2 q⟩, fun q => absurd q (n49 (by omega)), fun q => absurd q (n49 (by omega))⟩)⟩
    · refine y_aload_n rfl rfl ?_
      refine y_gfr rfl rfl rfl rfl rfl (hHU4.r 899 0 876 rfl) ?_
      refine y_iconst rfl ?_
      refine y_aload_n rfl rfl ?_
      refine y_gfr rfl rfl rfl rfl rfl (hHU4.r 899 2 895 rfl) ?_
      refine y_gfi rfl rfl rfl rfl rfl ?_
      have w35 : -2147483648 ≤ (Xi U4 895 7) ∧ (Xi U4 895 7) ≤ 2147483647 := Xi_rgI
      have r81 : (Xi U4 895 7) = whrC S (off + 1) := by first | exact R14.2.2.1 | (rw [e49, Xi_ne (by omega), F46.x 895 7 rfl, e27, Xi_ne (by omega)]; exact R14.2.2.1) | omega
      have w36 : Xi U4 876 8 = Xi T3 876 8 := (show Xi U4 876 8 = Xi T3 876 8 from by rw [eU4]; exact Xi_ne (by omega))
      have w37 : Xi U4 876 9 = Xi T3 876 9 := (show Xi U4 876 9 = Xi T3 876 9 from by rw [eU4]; exact Xi_ne (by omega))
      have w40 : Xi U4 895 7 = Xi T1 895 7 := (show Xi U4 895 7 = Xi T3 895 7 from by rw [eU4]; exact Xi_ne (by omega)).trans ( (show Xi T3 895 7 = Xi U2 895 7 from w20.x _ _ rfl).trans ((show Xi U2 895 7 = Xi T1 895 7 from by rw [eU2]; exact Xi_ne (by omega))))
      refine y_callV rfl rfl rfl (t_to_wrong__p hHU4 4 (Xi U4 895 7) ⟨by omega, by omega⟩ ⟨by omega, by omega⟩ _) ?_
      rintro _ T5 ⟨hHT5, w44, z43, rfl, w43, w41, f84, w42⟩
      have hFT5 : FR md_rr_propertyOfThing__p S T5 := FR.tr hFU4 w44 rfl
      show Pl _ _ _ _ _ _ [iv z43] _ _
      have F84 := (by assumption : FR md_to_wrong__p U4 T5)
      have Y84 : Xi S 876 8 = 0 → FTO S T5 4 (whrC S (off + 1)) := fun q => by have u := f84 (h65.trans q); rw [r81] at u; exact ⟨u.1, u.2.trans (pc7_FR hFU4 rfl rfl rfl _)⟩
      refine y_if_eq rfl rfl (by unfold rg; omega) (fun w45 => ?_) (fun w46 => ?_)
      · refine y_iconst rfl ?_
        refine y_ireturn rfl rfl ?_
        have w47 : Xi T5 895 5 = Xi T1 895 5 := (show Xi T5 895 5 = Xi U4 895 5 from w44.x _ _ rfl).trans ( (show Xi U4 895 5 = Xi T3 895 5 from by rw [eU4]; exact Xi_ne (by omega)).trans ( (show Xi T3 895 5 = Xi U2 895 5 from w20.x _ _ rfl).trans ((show Xi U2 895 5 = Xi T1 895 5 from by rw [eU2]; exact Xi_ne (by omega)))))
        have w48 : Xi T5 895 6 = Xi T1 895 6 := (show Xi T5 895 6 = Xi U4 895 6 from w44.x _ _ rfl).trans ( (show Xi U4 895 6 = Xi T3 895 6 from by rw [eU4]; exact Xi_ne (by omega)).trans ( (show Xi T3 895 6 = Xi U2 895 6 from w20.x _ _ rfl).trans ((show Xi U2 895 6 = Xi T1 895 6 from by rw [eU2]; exact Xi_ne (by omega)))))
        have w49 : Xi T5 895 7 = Xi T1 895 7 := (show Xi T5 895 7 = Xi U4 895 7 from w44.x _ _ rfl).trans ( (show Xi U4 895 7 = Xi T3 895 7 from by rw [eU4]; exact Xi_ne (by omega)).trans ( (show Xi T3 895 7 = Xi U2 895 7 from w20.x _ _ rfl).trans ((show Xi U2 895 7 = Xi T1 895 7 from by rw [eU2]; exact Xi_ne (by omega)))))
        exact ⟨hHT5, hFT5, _, rfl, ⟨by omega, by omega⟩, (by first | (have u := Y84; exact ⟨kcl_f F84 rfl K49, (cl_keep F84 rfl hcl 2).trans A49.1, fun q => (cl_keep F84 rfl hcl 3).trans (A49.2.1 q), fun q => absurd (p49 (by omega)) q, fun _ _ => ⟨by omega, Y84⟩, fun _ q => absurd (Ww65.symm.trans (by omega)) q⟩) | (have u := Ww65; exact ⟨K49, A49.1, A49.2.1, fun q => absurd (p49 (by omega)) q, fun _ q => absurd (Ww65.trans q) (by omega), fun _ _ => ⟨by omega, by omega⟩⟩) | exact ⟨K49, A49.1, A49.2.1, fun q => ⟨by omega, A49.2.2 q⟩, fun q => absurd q (n49 (by omega)), fun q => absurd q (n49 (by omega))⟩)⟩
      · refine y_iconst rfl ?_
        refine y_goto rfl rfl ?_
        refine y_ireturn rfl rfl ?_
        have w50 : Xi T5 895 5 = Xi T1 895 5 := (show Xi T5 895 5 = Xi U4 895 5 from w44.x _ _ rfl).trans ( (show Xi U4 895 5 = Xi T3 895 5 from by rw [eU4]; exact Xi_ne (by omega)).trans ( (show Xi T3 895 5 = Xi U2 895 5 from w20.x _ _ rfl).trans ((show Xi U2 895 5 = Xi T1 895 5 from by rw [eU2]; exact Xi_ne (by omega)))))
        have w51 : Xi T5 895 6 = Xi T1 895 6 := (show Xi T5 895 6 = Xi U4 895 6 from w44.x _ _ rfl).trans ( (show Xi U4 895 6 = Xi T3 895 6 from by rw [eU4]; exact Xi_ne (by omega)).trans ( (show Xi T3 895 6 = Xi U2 895 6 from w20.x _ _ rfl).trans ((show Xi U2 895 6 = Xi T1 895 6 from by rw [eU2]; exact Xi_ne (by omega)))))
        have w52 : Xi T5 895 7 = Xi T1 895 7 := (show Xi T5 895 7 = Xi U4 895 7 from w44.x _ _ rfl).trans ( (show Xi U4 895 7 = Xi T3 895 7 from by rw [eU4]; exact Xi_ne (by omega)).trans ( (show Xi T3 895 7 = Xi U2 895 7 from w20.x _ _ rfl).trans ((show Xi U2 895 7 = Xi T1 895 7 from by rw [eU2]; exact Xi_ne (by omega)))))
        exact ⟨hHT5, hFT5, _, rfl, ⟨by omega, by omega⟩, (by first | (have u := Y84; exact ⟨kcl_f F84 rfl K49, (cl_keep F84 rfl hcl 2).trans A49.1, fun q => (cl_keep F84 rfl hcl 3).trans (A49.2.1 q), fun q => absurd (p49 (by omega)) q, fun _ _ => ⟨by omega, Y84⟩, fun _ q => absurd (Ww65.symm.trans (by omega)) q⟩) | (have u := Ww65; exact ⟨K49, A49.1, A49.2.1, fun q => absurd (p49 (by omega)) q, fun _ q => absurd (Ww65.trans q) (by omega), fun _ _ => ⟨by omega, by omega⟩⟩) | exact ⟨K49, A49.1, A49.2.1, fun q => ⟨by omega, A49.2.2 q⟩, fun q => absurd q (n49 (by omega)), fun q => absurd q (n49 (by omega))⟩)⟩
def md_rr_nameAdjective__p : List rec := [(276, 876, 0, 1), (276, 876, 3, 4), (276, 876, 4, 5)]
abbrev Q_rr_nameAdjective__p (S : sS) (c : Nat) (met : Int) (prop : Int) : pst := fun r S1 => RI S1 ∧ FR md_rr_nameAdjective__p S S1 ∧ (r = none ∧ (NAD S S1 c met prop))
set_option maxRecDepth 100000 in
theorem t_rr_nameAdjective__p {S : sS} (hH : RI S) (c : Nat) (met : Int) (prop : Int) (hc : c < 600) (hmet : -2147483648 ≤ met ∧ met ≤ 2147483647) (hprop : -2147483648 ≤ prop ∧ prop ≤ 2147483647) (d : Nat) : Mp lay0 (d + 1) m_rr_nameAdjective [.ref (276 + c), iv met, iv prop] S (Q_rr_nameAdjective__p S c met prop) := by
  refine Mp_R rfl rfl (fun fu => ?_)
  have hF : FR md_rr_nameAdjective__p S S := FR.rf
  refine y_aload_n rfl rfl ?_
  refine y_iload_n rfl rfl ?_
  refine y_iconst rfl ?_
  refine y_icmp_ne rfl rfl (by unfold rg; omega) (by unfold rg; omega) (fun w1 => ?_) (fun w2 => ?_)
  · refine y_iconst rfl ?_
    refine y_pfi rfl rfl (layClW (by omega) rfl) rfl ?_
    obtain ⟨U1, eU1⟩ : ∃ T : sS, T = uI S (276 + c) 0 (Int32.ofInt 1) := ⟨_, rfl⟩
    rw [← eU1]
    have hHU1 : RI U1 := by rw [eU1]; exact RI_w hH
    have hFU1 : FR md_rr_nameAdjective__p S U1 := by rw [eU1]; exact FR.wI hF (mdf_i (r := (276, 876, 0, 1)) (List.mem_of_getElem? (i := 0) rfl) (inR_i (by omega) (by omega) (by omega) (by omega)))
    have w3 : Xi U1 (276 + c) 0 = 1 := by rw [eU1]; exact Xi_same (by unfold rg; omega)
    have e11 := eU1
    refine y_aload_n rfl rfl ?_
    refine y_iload_n rfl rfl ?_
    refine y_iconst rfl ?_
    refine y_icmp_ne rfl rfl (by unfold rg; omega) (by unfold rg; omega) (fun w4 => ?_) (fun w5 => ?_)
    · refine y_iload_n rfl rfl ?_
      refine y_pfi rfl rfl (layClW (by omega) rfl) rfl ?_
      obtain ⟨U2, eU2⟩ : ∃ T : sS, T = uI U1 (276 + c) 3 (Int32.ofInt prop) := ⟨_, rfl⟩
      rw [← eU2]
      have hHU2 : RI U2 := by rw [eU2]; exact RI_w hHU1
      have hFU2 : FR md_rr_nameAdjective__p S U2 := by rw [eU2]; exact FR.wI hFU1 (mdf_i (r := (276, 876, 3, 4)) (List.mem_of_getElem? (i := 1) rfl) (inR_i (by omega) (by omega) (by omega) (by omega)))
      have w6 : Xi U2 (276 + c) 3 = prop := by rw [eU2]; exact Xi_same (by unfold rg; omega)
      have e25 := eU2
      refine y_aload_n rfl rfl ?_
      refine y_iload_n rfl rfl ?_
      refine y_pfi rfl rfl (layClW (by omega) rfl) rfl ?_
      obtain ⟨U3, eU3⟩ : ∃ T : sS, T = uI U2 (276 + c) 4 (Int32.ofInt met) := ⟨_, rfl⟩
      rw [← eU3]
      have hHU3 : RI U3 := by rw [eU3]; exact RI_w hHU2
      have hFU3 : FR md_rr_nameAdjective__p S U3 := by rw [eU3]; exact FR.wI hFU2 (mdf_i (r := (276, 876, 4, 5)) (List.mem_of_getElem? (i := 2) rfl) (inR_i (by omega) (by omega) (by omega) (by omega)))
      have w7 : Xi U3 (276 + c) 4 = met := by rw [eU3]; exact Xi_same (by unfold rg; omega)
      have e30 := eU3
      refine y_return rfl rfl ?_
      exact ⟨hHU3, hFU3, rfl, (by first | exact nad_i ⟨by omega, by unfold rg; omega⟩ e11 e25 e30 | exact nad_p ⟨by omega, by unfold rg; omega, by unfold rg; omega⟩ e11 e25 e30 | (exfalso; omega))⟩
    · refine y_iload_n rfl rfl ?_
      refine y_goto rfl rfl ?_
      refine y_pfi rfl rfl (layClW (by omega) rfl) rfl ?_
      obtain ⟨U4, eU4⟩ : ∃ T : sS, T = uI U1 (276 + c) 3 (Int32.ofInt met) := ⟨_, rfl⟩
      rw [← eU4]
      have hHU4 : RI U4 := by rw [eU4]; exact RI_w hHU1
      have hFU4 : FR md_rr_nameAdjective__p S U4 := by rw [eU4]; exact FR.wI hFU1 (mdf_i (r := (276, 876, 3, 4)) (List.mem_of_getElem? (i := 1) rfl) (inR_i (by omega) (by omega) (by omega) (by omega)))
      have w8 : Xi U4 (276 + c) 3 = met := by rw [eU4]; exact Xi_same (by unfold rg; omega)
      have e25 := eU4
      refine y_aload_n rfl rfl ?_
      refine y_iload_n rfl rfl ?_
      refine y_pfi rfl rfl (layClW (by omega) rfl) rfl ?_
      obtain ⟨U5, eU5⟩ : ∃ T : sS, T = uI U4 (276 + c) 4 (Int32.ofInt met) := ⟨_, rfl⟩
      rw [← eU5]
      have hHU5 : RI U5 := by rw [eU5]; exact RI_w hHU4
      have hFU5 : FR md_rr_nameAdjective__p S U5 := by rw [eU5]; exact FR.wI hFU4 (mdf_i (r := (276, 876, 4, 5)) (List.mem_of_getElem? (i := 2) rfl) (inR_i (by omega) (by omega) (by omega) (by omega)))
      have w9 : Xi U5 (276 + c) 4 = met := by rw [eU5]; exact Xi_same (by unfold rg; omega)
      have e30 := eU5
      refine y_return rfl rfl ?_
      exact ⟨hHU5, hFU5, rfl, (by first | exact nad_i ⟨by omega, by unfold rg; omega⟩ e11 e25 e30 | exact nad_p ⟨by omega, by unfold rg; omega, by unfold rg; omega⟩ e11 e25 e30 | (exfalso; omega))⟩
  · refine y_iconst rfl ?_
    refine y_goto rfl rfl ?_
    refine y_pfi rfl rfl (layClW (by omega) rfl) rfl ?_
    obtain ⟨U6, eU6⟩ : ∃ T : sS, T = uI S (276 + c) 0 (Int32.ofInt 0) := ⟨_, rfl⟩
    rw [← eU6]
    have hHU6 : RI U6 := by rw [eU6]; exact RI_w hH
    have hFU6 : FR md_rr_nameAdjective__p S U6 := by rw [eU6]; exact FR.wI hF (mdf_i (r := (276, 876, 0, 1)) (List.mem_of_getElem? (i := 0) rfl) (inR_i (by omega) (by omega) (by omega) (by omega)))
    have w10 : Xi U6 (276 + c) 0 = 0 := by rw [eU6]; exact Xi_same (by unfold rg; omega)
    have e11 := eU6
    refine y_aload_n rfl rfl ?_
    refine y_iload_n rfl rfl ?_
    refine y_iconst rfl ?_
    refine y_icmp_ne rfl rfl (by unfold rg; omega) (by unfold rg; omega) (fun w11 => ?_) (fun w12 => ?_)
    · refine y_iload_n rfl rfl ?_
      refine y_pfi rfl rfl (layClW (by omega) rfl) rfl ?_
      obtain ⟨U7, eU7⟩ : ∃ T : sS, T = uI U6 (276 + c) 3 (Int32.ofInt prop) := ⟨_, rfl⟩
      rw [← eU7]
      have hHU7 : RI U7 := by rw [eU7]; exact RI_w hHU6
      have hFU7 : FR md_rr_nameAdjective__p S U7 := by rw [eU7]; exact FR.wI hFU6 (mdf_i (r := (276, 876, 3, 4)) (List.mem_of_getElem? (i := 1) rfl) (inR_i (by omega) (by omega) (by omega) (by omega)))
      have w13 : Xi U7 (276 + c) 3 = prop := by rw [eU7]; exact Xi_same (by unfold rg; omega)
      have e25 := eU7
      refine y_aload_n rfl rfl ?_
      refine y_iload_n rfl rfl ?_
      refine y_pfi rfl rfl (layClW (by omega) rfl) rfl ?_
      obtain ⟨U8, eU8⟩ : ∃ T : sS, T = uI U7 (276 + c) 4 (Int32.ofInt met) := ⟨_, rfl⟩
      rw [← eU8]
      have hHU8 : RI U8 := by rw [eU8]; exact RI_w hHU7
      have hFU8 : FR md_rr_nameAdjective__p S U8 := by rw [eU8]; exact FR.wI hFU7 (mdf_i (r := (276, 876, 4, 5)) (List.mem_of_getElem? (i := 2) rfl) (inR_i (by omega) (by omega) (by omega) (by omega)))
      have w14 : Xi U8 (276 + c) 4 = met := by rw [eU8]; exact Xi_same (by unfold rg; omega)
      have e30 := eU8
      refine y_return rfl rfl ?_
      exact ⟨hHU8, hFU8, rfl, (by first | exact nad_i ⟨by omega, by unfold rg; omega⟩ e11 e25 e30 | exact nad_p ⟨by omega, by unfold rg; omega, by unfold rg; omega⟩ e11 e25 e30 | (exfalso; omega))⟩
    · refine y_iload_n rfl rfl ?_
      refine y_goto rfl rfl ?_
      refine y_pfi rfl rfl (layClW (by omega) rfl) rfl ?_
      obtain ⟨U9, eU9⟩ : ∃ T : sS, T = uI U6 (276 + c) 3 (Int32.ofInt met) := ⟨_, rfl⟩
      rw [← eU9]
      have hHU9 : RI U9 := by rw [eU9]; exact RI_w hHU6
      have hFU9 : FR md_rr_nameAdjective__p S U9 := by rw [eU9]; exact FR.wI hFU6 (mdf_i (r := (276, 876, 3, 4)) (List.mem_of_getElem? (i := 1) rfl) (inR_i (by omega) (by omega) (by omega) (by omega)))
      have w15 : Xi U9 (276 + c) 3 = met := by rw [eU9]; exact Xi_same (by unfold rg; omega)
      have e25 := eU9
      refine y_aload_n rfl rfl ?_
      refine y_iload_n rfl rfl ?_
      refine y_pfi rfl rfl (layClW (by omega) rfl) rfl ?_
      obtain ⟨U10, eU10⟩ : ∃ T : sS, T = uI U9 (276 + c) 4 (Int32.ofInt met) := ⟨_, rfl⟩
      rw [← eU10]
      have hHU10 : RI U10 := by rw [eU10]; exact RI_w hHU9
      have hFU10 : FR md_rr_nameAdjective__p S U10 := by rw [eU10]; exact FR.wI hFU9 (mdf_i (r := (276, 876, 4, 5)) (List.mem_of_getElem? (i := 2) rfl) (inR_i (by omega) (by omega) (by omega) (by omega)))
      have w16 : Xi U10 (276 + c) 4 = met := by rw [eU10]; exact Xi_same (by unfold rg; omega)
      have e30 := eU10
      refine y_return rfl rfl ?_
      exact ⟨hHU10, hFU10, rfl, (by first | exact nad_i ⟨by omega, by unfold rg; omega⟩ e11 e25 e30 | exact nad_p ⟨by omega, by unfold rg; omega, by unfold rg; omega⟩ e11 e25 e30 | (exfalso; omega))⟩
end
section
/-! tests of the class -/
/-- a clause's fields -/
def CLM (T : sS) (cl : Nat) (f n w h t l m : Int) : Prop := Xi T (276 + cl) 0 = f ∧ Xi T (276 + cl) 1 = n ∧ Xi T (276 + cl) 2 = w ∧ Xi T (276 + cl) 3 = h ∧ Xi T (276 + cl) 4 = t ∧ Xi T (276 + cl) 5 = l ∧ Xi T (276 + cl) 6 = m
def numT (S : sS) (i : Int) : Int := if ty7 S (i + 1) = 51 ∨ ty7 S (i + 1) = 52 then 1 else 0
def ntT (S : sS) (i : Int) : Int := if ty7 S (i + 1) = 6 then 1 else 0
/-- a property's test is good: it keeps these -/
def PTY (S : sS) (a i l : Int) (f n w h t g : Int) : Prop :=
  pOK S (a + 1) (re7 (ty7 S) (a + 1)) (whkC S (re7 (ty7 S) (a + 1) + 1) l) (numT S i) ∧ w = whoC S (re7 (ty7 S) (a + 1) + 1) l ∧ w ≠ -1 ∧ h = mnV S (a + 1) (re7 (ty7 S) (a + 1)) % 256 ∧
  ((numT S i = 1 ∧ f = (if ty7 S (i + 1) = 51 then 2 else 3) ∧ n = 0 ∧ t = Xj S 879 (i + 3).toNat ∧ g = 0) ∨
   (numT S i = 0 ∧ n = ntT S i ∧ WHR S (i + 1 + ntT S i) (Xi S 9 h.toNat) t g ∧ f = (if Xi S 9 h.toNat = 1 then 4 else 1)))
def PTN (S : sS) (a i l : Int) (c r : Int) : Prop :=
  (¬ pOK S (a + 1) (re7 (ty7 S) (a + 1)) (whkC S (re7 (ty7 S) (a + 1) + 1) l) (numT S i) ∧ c = 4 ∧ r = a + 1) ∨
  (pOK S (a + 1) (re7 (ty7 S) (a + 1)) (whkC S (re7 (ty7 S) (a + 1) + 1) l) (numT S i) ∧ whoC S (re7 (ty7 S) (a + 1) + 1) l = -1 ∧ c = 4 ∧ r = whrC S (re7 (ty7 S) (a + 1) + 1)) ∨
  (pOK S (a + 1) (re7 (ty7 S) (a + 1)) (whkC S (re7 (ty7 S) (a + 1) + 1) l) (numT S i) ∧ whoC S (re7 (ty7 S) (a + 1) + 1) l ≠ -1 ∧ numT S i = 0 ∧ (∀ v g : Int, ¬ WHR S (i + 1 + ntT S i) (Xi S 9 (mnV S (a + 1) (re7 (ty7 S) (a + 1)) % 256).toNat) v g) ∧ c = 4 ∧ r = i + 1 + ntT S i)
def PTO (S S1 : sS) (cl : Nat) (a i l z : Int) : Prop := KCL S S1 cl ∧ (z = 1 → Xi S1 876 8 = Xi S 876 8 ∧ ∃ f n w h t g : Int, PTY S a i l f n w h t g ∧ CLM S1 cl f n w h t g (Xi S (276 + cl) 6)) ∧ (z = 0 → ∃ c r : Int, PTN S a i l c r ∧ (Xi S 876 8 = 0 → FTO S S1 c r))
theorem WHR_F {l : List rec} {S P : sS} (h : FR l S P) (e1 : (kdis l [(877, 878)] && !(mdf l 876 7)) = true) (e2 : (kdis l kA && !(mdf l 1 3)) = true) (e3 : kdis l kA = true) (e4 : kdis l [(878, 879)] = true) (e5 : mdf l 876 7 = false) (e6 : mdf l 876 5 = false) (r tp v g : Int) : WHR P r tp v g = WHR S r tp v g := by
  have t := ty7_F h e1
  have m : ∀ x y, mnV P x y = mnV S x y := fun _ _ => mnV_FR h e2
  have q : ∀ x y, ruF P x y = ruF S x y := fun _ _ => ruF_FR h e1
  have p := pc7_FR h e4 e5 e6
  have j : ∀ j, Xj P 879 j = Xj S 879 j := fun j => SMK_j (h.smk e3) 879 rfl j
  have k : ∀ j, Xi P 8 j = Xi S 8 j := fun j => (h.smk e3).x 8 rfl j
  unfold WHR
  rw [t, m, q, p, j, k]
theorem pot_0 {S S1 : sS} {cl : Nat} {a o l z i : Int} (h : POT S S1 cl (a + 1) o (numT S i) l z) (ho : o = re7 (ty7 S) (a + 1)) (hz : z = 0) : ∃ c r : Int, PTN S a i l c r ∧ (Xi S 876 8 = 0 → FTO S S1 c r) := by
  subst ho
  by_cases p : pOK S (a + 1) (re7 (ty7 S) (a + 1)) (whkC S (re7 (ty7 S) (a + 1) + 1) l) (numT S i)
  · by_cases w : whoC S (re7 (ty7 S) (a + 1) + 1) l = -1
    · exact ⟨4, _, Or.inr (Or.inl ⟨p, w, rfl, rfl⟩), (h.2.2.2.2.1 p w).2⟩
    · have := (h.2.2.2.2.2 p w).1
      omega
  · exact ⟨4, _, Or.inl ⟨p, rfl, rfl⟩, (h.2.2.2.1 p).2⟩
theorem pot_1 {S S1 : sS} {cl : Nat} {a o l z i : Int} (h : POT S S1 cl (a + 1) o (numT S i) l z) (hz : z = 1) : pOK S (a + 1) o (whkC S (o + 1) l) (numT S i) ∧ whoC S (o + 1) l ≠ -1 ∧ Xi S1 (276 + cl) 2 = whoC S (o + 1) l ∧ Xi S1 (276 + cl) 3 = mnV S (a + 1) o % 256 ∧ Xi S1 876 8 = Xi S 876 8 := by
  by_cases p : pOK S (a + 1) o (whkC S (o + 1) l) (numT S i)
  · by_cases w : whoC S (o + 1) l = -1
    · have := (h.2.2.2.2.1 p w).1
      omega
    · exact ⟨p, w, h.2.1, h.2.2.1 p, (h.2.2.2.2.2 p w).2⟩
  · have := (h.2.2.2.1 p).1
    omega
theorem NVL_F {l : List rec} {S T : sS} (h : FR l S T) (e1 : kdis l [(877, 878)] = true) (e2 : mdf l 876 7 = false) (e3 : kdis l [(879, 880)] = true) (q : NVL S) : NVL T := fun j a b => by
  rw [h.x 876 7 e2] at a
  rw [(h.smk e1).x 877 rfl] at b
  rw [SMK_j (h.smk e3) 879 rfl]
  exact q j a b

def md_rr_propertyTest__p : List rec := [(276, 876, 0, 1), (276, 876, 1, 2), (276, 876, 2, 3), (276, 876, 3, 4), (276, 876, 4, 5), (276, 876, 5, 6), (876, 877, 8, 9), (876, 877, 9, 10), (895, 896, 5, 6), (895, 896, 6, 7), (895, 896, 7, 8), (895, 896, 10, 11), (895, 896, 11, 12)]
abbrev Q_rr_propertyTest__p (S : sS) (from_ : Int) (is_ : Int) (cl : Nat) : pst := fun r S1 => RI S1 ∧ FR md_rr_propertyTest__p S S1 ∧ (∃ z : Int, r = some (iv z) ∧ (0 ≤ z ∧ z ≤ 1) ∧ (PTO S S1 cl from_ is_ (Xi S 876 7 - 1) z))
set_option maxRecDepth 100000 in
theorem t_rr_propertyTest__p {S : sS} (hH : RI S) (from_ : Int) (is_ : Int) (cl : Nat) (hfrom_ : 0 ≤ from_ ∧ from_ ≤ 5120) (his_ : 0 ≤ is_ ∧ is_ ≤ 5120) (hcl : cl < 600) (h13 : 0 ≤ Xi S 1 3 ∧ Xi S 1 3 ≤ 200) (hCE : CEN S) (hr : Xi S 876 7 ≤ 5130) (h7 : 0 ≤ Xi S 876 7) (hT : TOK S) (hS : SRX S) (hnv : Hid (NVL S)) (hpl : Hid (∀ j : Nat, 0 ≤ Xi S 878 j)) (h5 : Xi S 876 5 ≤ 5000) (hnm : Hid (numT S is_ = 1 → is_ + 3 < Xi S 876 7 ∧ 0 ≤ Xj S 879 (is_ + 3).toNat ∧ Xj S 879 (is_ + 3).toNat ≤ 2147483647)) (hc1 : Xi S (276 + cl) 1 = 0 ∧ Xi S (276 + cl) 5 = 0) (d : Nat) : Mp lay0 (d + 4) m_rr_propertyTest [.ref 899, iv from_, iv is_, .ref (276 + cl)] S (Q_rr_propertyTest__p S from_ is_ cl) := by
  refine Mp_R rfl rfl (fun fu => ?_)
  have hF : FR md_rr_propertyTest__p S S := FR.rf
  have w1 : -2147483648 ≤ Xi S (276 + cl) 0 ∧ Xi S (276 + cl) 0 ≤ 2147483647 := Xi_rgI
  have w2 : -2147483648 ≤ Xi S (276 + cl) 1 ∧ Xi S (276 + cl) 1 ≤ 2147483647 := Xi_rgI
  have w3 : -2147483648 ≤ Xi S (276 + cl) 2 ∧ Xi S (276 + cl) 2 ≤ 2147483647 := Xi_rgI
  have w4 : -2147483648 ≤ Xi S (276 + cl) 3 ∧ Xi S (276 + cl) 3 ≤ 2147483647 := Xi_rgI
  have w5 : -2147483648 ≤ Xi S (276 + cl) 4 ∧ Xi S (276 + cl) 4 ≤ 2147483647 := Xi_rgI
  have w6 : -2147483648 ≤ Xi S (276 + cl) 5 ∧ Xi S (276 + cl) 5 ≤ 2147483647 := Xi_rgI
  have w7 : -2147483648 ≤ Xi S (276 + cl) 6 ∧ Xi S (276 + cl) 6 ≤ 2147483647 := Xi_rgI
  have w8 : -2147483648 ≤ Xi S 1 3 ∧ Xi S 1 3 ≤ 2147483647 := Xi_rgI
  have w9 : -2147483648 ≤ Xi S 876 5 ∧ Xi S 876 5 ≤ 2147483647 := Xi_rgI
  have w10 : -2147483648 ≤ Xi S 876 7 ∧ Xi S 876 7 ≤ 2147483647 := Xi_rgI
  have w11 : -2147483648 ≤ Xi S 876 8 ∧ Xi S 876 8 ≤ 2147483647 := Xi_rgI
  have w12 : -2147483648 ≤ Xi S 895 10 ∧ Xi S 895 10 ≤ 2147483647 := Xi_rgI
  have w13 : -2147483648 ≤ Xi S 895 11 ∧ Xi S 895 11 ≤ 2147483647 := Xi_rgI
  refine y_aload_n rfl rfl ?_
  refine y_gfr rfl rfl rfl rfl rfl (hH.r 899 0 876 rfl) ?_
  refine y_iload_n rfl rfl ?_
  refine y_iconst rfl ?_
  refine y_iadd rfl ?_
  refine y_callV rfl rfl rfl (t_to_runEnd__p hH (from_ + 1) ⟨by omega, by omega⟩ _) ?_
  rintro _ _ ⟨rfl, z16, rfl, w16, w14, w15⟩
  show Pl _ _ _ _ _ _ [iv z16] _ _
  have gq7 := w14
  clear w14
  refine y_istore rfl rfl rfl ?_
  refine y_aload_n rfl rfl ?_
  refine y_gfr rfl rfl rfl rfl rfl (hH.r 899 0 876 rfl) ?_
  refine y_iload_n rfl rfl ?_
  refine y_iconst rfl ?_
  refine y_iadd rfl ?_
  refine y_callV rfl rfl rfl (t_to_typeAt__p hH (is_ + 1) ⟨by omega, by omega⟩ _) ?_
  rintro _ _ ⟨rfl, z19, rfl, w19, w17, w18⟩
  show Pl _ _ _ _ _ _ [iv z19] _ _
  have gq19 := w17
  clear w17
  refine y_istore rfl rfl rfl ?_
  refine y_iload rfl rfl ?_
  refine y_bipush rfl rfl ?_
  refine y_icmp_eq rfl rfl (by unfold rg; omega) (by unfold rg; omega) (fun w20 => ?_) (fun w21 => ?_)
  · refine y_iconst rfl ?_
    refine y_goto rfl rfl ?_
    refine y_istore rfl rfl rfl ?_
    have N43 : 1 = numT S is_ := by unfold numT; rw [gq19]; first | (rw [if_pos (by omega)]) | (rw [if_neg (by omega)])
    refine y_aload_n rfl rfl ?_
    refine y_iload_n rfl rfl ?_
    refine y_iconst rfl ?_
    refine y_iadd rfl ?_
    refine y_iload rfl rfl ?_
    refine y_iload rfl rfl ?_
    refine y_aload_n rfl rfl ?_
    refine y_callV rfl rfl rfl (t_rr_propertyOfThing__p hH (from_ + 1) z16 1 cl ⟨by omega, by omega⟩ ⟨by omega, by omega⟩ ⟨by omega, by omega⟩ (by omega) (by first | assumption | omega) (by first | assumption | exact (CEN_FR hF rfl rfl (by assumption : CEN S))) (by first | assumption | omega) (by first | assumption | omega) _) ?_
    rintro _ T1 ⟨hHT1, w23, z22, rfl, w22, o54⟩
    have hFT1 : FR md_rr_propertyTest__p S T1 := FR.tr hF w23 rfl
    show Pl _ _ _ _ _ _ [iv z22] _ _
    have O54 : POT S T1 cl (from_ + 1) (re7 (ty7 S) (from_ + 1)) (numT S is_) (Xi S 876 7 - 1) z22 := by have u := o54; rw [← gq7] at u; rw [← N43]; exact u
    clear o54
    have K54 : KCL S T1 cl := O54.1
    have F54 := (by assumption : FR md_rr_propertyOfThing__p S T1)
    refine y_if_ne rfl rfl (by unfold rg; omega) (fun w24 => ?_) (fun w25 => ?_)
    · refine y_iload rfl rfl ?_
      have P54 := pot_1 O54 (by omega)
      have q54 := P54.2
      clear O54
      refine y_if_eq rfl rfl (by unfold rg; omega) (fun w26 => absurd w26 (by omega)) (fun w27 => ?_)
      · refine y_aload_n rfl rfl ?_
        refine y_iload rfl rfl ?_
        refine y_bipush rfl rfl ?_
        refine y_icmp_ne rfl rfl (by unfold rg; omega) (by unfold rg; omega) (fun w28 => ?_) (fun w29 => ?_)
        · exfalso; omega
        · refine y_iconst rfl ?_
          refine y_goto rfl rfl ?_
          refine y_pfi rfl rfl (layClW (by omega) rfl) rfl ?_
          obtain ⟨U2, eU2⟩ : ∃ T : sS, T = uI T1 (276 + cl) 0 (Int32.ofInt 2) := ⟨_, rfl⟩
          rw [← eU2]
          have hHU2 : RI U2 := by rw [eU2]; exact RI_w hHT1
          have hFU2 : FR md_rr_propertyTest__p S U2 := by rw [eU2]; exact FR.wI hFT1 (mdf_i (r := (276, 876, 0, 1)) (List.mem_of_getElem? (i := 0) rfl) (inR_i (by omega) (by omega) (by omega) (by omega)))
          have w30 : Xi U2 (276 + cl) 0 = 2 := by rw [eU2]; exact Xi_same (by unfold rg; omega)
          have e80 := eU2
          have Z80 : Xi U2 (276 + cl) 0 = (if ty7 S (is_ + 1) = 51 then 2 else 3) := by rw [e80, Xi_same (by unfold rg; omega), gq19]; first | (rw [if_pos (by omega)]) | (rw [if_neg (by omega)])
          refine y_aload_n rfl rfl ?_
          refine y_aload_n rfl rfl ?_
          refine y_gfr rfl rfl rfl rfl rfl (hHU2.r 899 0 876 rfl) ?_
          refine y_iload_n rfl rfl ?_
          refine y_iconst rfl ?_
          refine y_iadd rfl ?_
          have w31 : Xi U2 (276 + cl) 1 = Xi S (276 + cl) 1 := (show Xi U2 (276 + cl) 1 = Xi T1 (276 + cl) 1 from by rw [eU2]; exact Xi_ne (by omega)).trans ((show Xi T1 (276 + cl) 1 = Xi S (276 + cl) 1 from FR_clj w23 rfl (by omega)))
          have w32 : Xi U2 (276 + cl) 2 = Xi T1 (276 + cl) 2 := (show Xi U2 (276 + cl) 2 = Xi T1 (276 + cl) 2 from by rw [eU2]; exact Xi_ne (by omega))
          have w33 : Xi U2 (276 + cl) 3 = Xi T1 (276 + cl) 3 := (show Xi U2 (276 + cl) 3 = Xi T1 (276 + cl) 3 from by rw [eU2]; exact Xi_ne (by omega))
          have w34 : Xi U2 (276 + cl) 4 = Xi S (276 + cl) 4 := (show Xi U2 (276 + cl) 4 = Xi T1 (276 + cl) 4 from by rw [eU2]; exact Xi_ne (by omega)).trans ((show Xi T1 (276 + cl) 4 = Xi S (276 + cl) 4 from FR_clj w23 rfl (by omega)))
          have w35 : Xi U2 (276 + cl) 5 = Xi S (276 + cl) 5 := (show Xi U2 (276 + cl) 5 = Xi T1 (276 + cl) 5 from by rw [eU2]; exact Xi_ne (by omega)).trans ((show Xi T1 (276 + cl) 5 = Xi S (276 + cl) 5 from FR_clj w23 rfl (by omega)))
          have w36 : Xi U2 (276 + cl) 6 = Xi S (276 + cl) 6 := (show Xi U2 (276 + cl) 6 = Xi T1 (276 + cl) 6 from by rw [eU2]; exact Xi_ne (by omega)).trans ((show Xi T1 (276 + cl) 6 = Xi S (276 + cl) 6 from FR_clj w23 rfl (by omega)))
          have w37 : Xi U2 876 7 = Xi S 876 7 := (show Xi U2 876 7 = Xi T1 876 7 from by rw [eU2]; exact Xi_ne (by omega)).trans ((show Xi T1 876 7 = Xi S 876 7 from w23.x _ _ rfl))
          refine y_callV rfl rfl rfl (t_to_valueAt__p hHU2 (is_ + 3) ⟨by omega, by omega⟩ _) ?_
          rintro _ _ ⟨rfl, z41, rfl, w41, p91⟩
          show Pl _ _ _ _ _ _ [iv z41, .ref (276 + cl)] _ _
          have k91 : z41 = Xj S 879 (is_ + 3).toNat := by have m := hnm.o (by omega); have j : Xj U2 879 (is_ + 3).toNat = Xj S 879 (is_ + 3).toNat := (hFU2.cx 879 rfl _).2; have u := p91 (by omega) (by omega) (by rw [j]; exact m.2.1) (by rw [j]; exact m.2.2); rw [j] at u; exact u
          refine y_pfi rfl rfl (layClW (by omega) rfl) rfl ?_
          obtain ⟨U3, eU3⟩ : ∃ T : sS, T = uI U2 (276 + cl) 4 (Int32.ofInt z41) := ⟨_, rfl⟩
          rw [← eU3]
          have hHU3 : RI U3 := by rw [eU3]; exact RI_w hHU2
          have hFU3 : FR md_rr_propertyTest__p S U3 := by rw [eU3]; exact FR.wI hFU2 (mdf_i (r := (276, 876, 4, 5)) (List.mem_of_getElem? (i := 4) rfl) (inR_i (by omega) (by omega) (by omega) (by omega)))
          have w42 : Xi U3 (276 + cl) 4 = z41 := by rw [eU3]; exact Xi_same (by unfold rg; omega)
          have e94 := eU3
          have Z94 : Xi U3 (276 + cl) 0 = (if ty7 S (is_ + 1) = 51 then 2 else 3) := by rw [e94, Xi_ne (by omega)]; exact Z80
          refine y_iconst rfl ?_
          refine y_ireturn rfl rfl ?_
          have w43 : Xi U3 (276 + cl) 0 = Xi U2 (276 + cl) 0 := (show Xi U3 (276 + cl) 0 = Xi U2 (276 + cl) 0 from by rw [eU3]; exact Xi_ne (by omega))
          have w44 : Xi U3 (276 + cl) 1 = Xi S (276 + cl) 1 := (show Xi U3 (276 + cl) 1 = Xi U2 (276 + cl) 1 from by rw [eU3]; exact Xi_ne (by omega)).trans ( (show Xi U2 (276 + cl) 1 = Xi T1 (276 + cl) 1 from by rw [eU2]; exact Xi_ne (by omega)).trans ((show Xi T1 (276 + cl) 1 = Xi S (276 + cl) 1 from FR_clj w23 rfl (by omega))))
          have w45 : Xi U3 (276 + cl) 2 = Xi T1 (276 + cl) 2 := (show Xi U3 (276 + cl) 2 = Xi U2 (276 + cl) 2 from by rw [eU3]; exact Xi_ne (by omega)).trans ((show Xi U2 (276 + cl) 2 = Xi T1 (276 + cl) 2 from by rw [eU2]; exact Xi_ne (by omega)))
          have w46 : Xi U3 (276 + cl) 3 = Xi T1 (276 + cl) 3 := (show Xi U3 (276 + cl) 3 = Xi U2 (276 + cl) 3 from by rw [eU3]; exact Xi_ne (by omega)).trans ((show Xi U2 (276 + cl) 3 = Xi T1 (276 + cl) 3 from by rw [eU2]; exact Xi_ne (by omega)))
          have w47 : Xi U3 (276 + cl) 5 = Xi S (276 + cl) 5 := (show Xi U3 (276 + cl) 5 = Xi U2 (276 + cl) 5 from by rw [eU3]; exact Xi_ne (by omega)).trans ( (show Xi U2 (276 + cl) 5 = Xi T1 (276 + cl) 5 from by rw [eU2]; exact Xi_ne (by omega)).trans ((show Xi T1 (276 + cl) 5 = Xi S (276 + cl) 5 from FR_clj w23 rfl (by omega))))
          have w48 : Xi U3 (276 + cl) 6 = Xi S (276 + cl) 6 := (show Xi U3 (276 + cl) 6 = Xi U2 (276 + cl) 6 from by rw [eU3]; exact Xi_ne (by omega)).trans ( (show Xi U2 (276 + cl) 6 = Xi T1 (276 + cl) 6 from by rw [eU2]; exact Xi_ne (by omega)).trans ((show Xi T1 (276 + cl) 6 = Xi S (276 + cl) 6 from FR_clj w23 rfl (by omega))))
          have w49 : Xi U3 876 8 = Xi T1 876 8 := (show Xi U3 876 8 = Xi U2 876 8 from by rw [eU3]; exact Xi_ne (by omega)).trans ((show Xi U2 876 8 = Xi T1 876 8 from by rw [eU2]; exact Xi_ne (by omega)))
          have w50 : Xi U3 895 10 = Xi S 895 10 := (show Xi U3 895 10 = Xi U2 895 10 from by rw [eU3]; exact Xi_ne (by omega)).trans ( (show Xi U2 895 10 = Xi T1 895 10 from by rw [eU2]; exact Xi_ne (by omega)).trans ((show Xi T1 895 10 = Xi S 895 10 from w23.x _ _ rfl)))
          have w51 : Xi U3 895 11 = Xi S 895 11 := (show Xi U3 895 11 = Xi U2 895 11 from by rw [eU3]; exact Xi_ne (by omega)).trans ( (show Xi U2 895 11 = Xi T1 895 11 from by rw [eU2]; exact Xi_ne (by omega)).trans ((show Xi T1 895 11 = Xi S 895 11 from w23.x _ _ rfl)))
          exact ⟨hHU3, hFU3, _, rfl, ⟨by omega, by omega⟩, (by first | (have u := e193; exact ⟨kcl_w e193 (kcl_w e182 (kcl_w e171 (kcl_f F151 rfl (kcl_w e126 K54)))), fun _ => ⟨by omega, _, _, _, _, _, _, ⟨P54.1, by omega, by omega, by omega, Or.inr ⟨by omega, by omega, Z193, Z171⟩⟩, rfl, rfl, rfl, rfl, rfl, rfl, by omega⟩, fun q => absurd q (by omega)⟩) | (have u := X151; exact ⟨kcl_f F151 rfl (kcl_w e126 K54), fun q => absurd q (by omega), fun _ => ⟨4, _, Or.inr (Or.inr ⟨P54.1, P54.2.1, by omega, X151.1, rfl, rfl⟩), X151.2⟩⟩) | (have u := e94; exact ⟨kcl_w e94 (kcl_w e80 K54), fun _ => ⟨by omega, _, _, _, _, _, _, ⟨P54.1, by omega, by omega, by omega, Or.inl ⟨by omega, Z94, by omega, by omega, by omega⟩⟩, rfl, rfl, rfl, rfl, rfl, rfl, by omega⟩, fun q => absurd q (by omega)⟩) | exact ⟨K54, fun q => absurd q (by omega), fun _ => pot_0 O54 rfl (by omega)⟩)⟩
    · refine y_iconst rfl ?_
      refine y_ireturn rfl rfl ?_
      have w52 : Xi T1 (276 + cl) 0 = Xi S (276 + cl) 0 := (show Xi T1 (276 + cl) 0 = Xi S (276 + cl) 0 from FR_clj w23 rfl (by omega))
      have w53 : Xi T1 (276 + cl) 1 = Xi S (276 + cl) 1 := (show Xi T1 (276 + cl) 1 = Xi S (276 + cl) 1 from FR_clj w23 rfl (by omega))
      have w54 : Xi T1 (276 + cl) 4 = Xi S (276 + cl) 4 := (show Xi T1 (276 + cl) 4 = Xi S (276 + cl) 4 from FR_clj w23 rfl (by omega))
      have w55 : Xi T1 (276 + cl) 5 = Xi S (276 + cl) 5 := (show Xi T1 (276 + cl) 5 = Xi S (276 + cl) 5 from FR_clj w23 rfl (by omega))
      have w56 : Xi T1 (276 + cl) 6 = Xi S (276 + cl) 6 := (show Xi T1 (276 + cl) 6 = Xi S (276 + cl) 6 from FR_clj w23 rfl (by omega))
      have w57 : Xi T1 895 10 = Xi S 895 10 := (show Xi T1 895 10 = Xi S 895 10 from w23.x _ _ rfl)
      have w58 : Xi T1 895 11 = Xi S 895 11 := (show Xi T1 895 11 = Xi S 895 11 from w23.x _ _ rfl)
      exact ⟨hHT1, hFT1, _, rfl, ⟨by omega, by omega⟩, (by first | (have u := e193; exact ⟨kcl_w e193 (kcl_w e182 (kcl_w e171 (kcl_f F151 rfl (kcl_w e126 K54)))), fun _ => ⟨by omega, _, _, _, _, _, _, ⟨P54.1, by omega, by omega, by omega, Or.inr ⟨by omega, by omega, Z193, Z171⟩⟩, rfl, rfl, rfl, rfl, rfl, rfl, by omega⟩, fun q => absurd q (by omega)⟩) | (have u := X151; exact ⟨kcl_f F151 rfl (kcl_w e126 K54), fun q => absurd q (by omega), fun _ => ⟨4, _, Or.inr (Or.inr ⟨P54.1, P54.2.1, by omega, X151.1, rfl, rfl⟩), X151.2⟩⟩) | (have u := e94; exact ⟨kcl_w e94 (kcl_w e80 K54), fun _ => ⟨by omega, _, _, _, _, _, _, ⟨P54.1, by omega, by omega, by omega, Or.inl ⟨by omega, Z94, by omega, by omega, by omega⟩⟩, rfl, rfl, rfl, rfl, rfl, rfl, by omega⟩, fun q => absurd q (by omega)⟩) | exact ⟨K54, fun q => absurd q (by omega), fun _ => pot_0 O54 rfl (by omega)⟩)⟩
  · refine y_iload rfl rfl ?_
    refine y_bipush rfl rfl ?_
    refine y_icmp_ne rfl rfl (by unfold rg; omega) (by unfold rg; omega) (fun w59 => ?_) (fun w60 => ?_)
    · refine y_iconst rfl ?_
      refine y_istore rfl rfl rfl ?_
      have N43 : 0 = numT S is_ := by unfold numT; rw [gq19]; first | (rw [if_pos (by omega)]) | (rw [if_neg (by omega)])
      refine y_aload_n rfl rfl ?_
      refine y_iload_n rfl rfl ?_
      refine y_iconst rfl ?_
      refine y_iadd rfl ?_
      refine y_iload rfl rfl ?_
      refine y_iload rfl rfl ?_
      refine y_aload_n rfl rfl ?_
      refine y_callV rfl rfl rfl (t_rr_propertyOfThing__p hH (from_ + 1) z16 0 cl ⟨by omega, by omega⟩ ⟨by omega, by omega⟩ ⟨by omega, by omega⟩ (by omega) (by first | assumption | omega) (by first | assumption | exact (CEN_FR hF rfl rfl (by assumption : CEN S))) (by first | assumption | omega) (by first | assumption | omega) _) ?_
      rintro _ T4 ⟨hHT4, w62, z61, rfl, w61, o54⟩
      have hFT4 : FR md_rr_propertyTest__p S T4 := FR.tr hF w62 rfl
      show Pl _ _ _ _ _ _ [iv z61] _ _
      have O54 : POT S T4 cl (from_ + 1) (re7 (ty7 S) (from_ + 1)) (numT S is_) (Xi S 876 7 - 1) z61 := by have u := o54; rw [← gq7] at u; rw [← N43]; exact u
      clear o54
      have K54 : KCL S T4 cl := O54.1
      have F54 := (by assumption : FR md_rr_propertyOfThing__p S T4)
      refine y_if_ne rfl rfl (by unfold rg; omega) (fun w63 => ?_) (fun w64 => ?_)
      · refine y_iload rfl rfl ?_
        have P54 := pot_1 O54 (by omega)
        have q54 := P54.2
        clear O54
        refine y_if_eq rfl rfl (by unfold rg; omega) (fun w65 => ?_) (fun w66 => absurd w66 (by omega))
        · refine y_aload_n rfl rfl ?_
          refine y_gfr rfl rfl rfl rfl rfl (hHT4.r 899 1 1 rfl) ?_
          refine y_gfr rfl rfl rfl rfl rfl (hHT4.r 1 8 9 rfl) ?_
          refine y_aload_n rfl rfl ?_
          refine y_gfi rfl rfl rfl (layCl (by omega)) rfl ?_
          have w67 : -2147483648 ≤ (Xi T4 (276 + cl) 3) ∧ (Xi T4 (276 + cl) 3) ≤ 2147483647 := Xi_rgI
          refine y_ialoadP (n := 12) rfl rfl (by unfold rg; omega) (fun w68 w69 => ?_)
          have w70 : -2147483648 ≤ (Xi T4 9 (((Xi T4 (276 + cl) 3)).toNat)) ∧ (Xi T4 9 (((Xi T4 (276 + cl) 3)).toNat)) ≤ 2147483647 := Xi_rgI
          have t110 : (Xi T4 9 (((Xi T4 (276 + cl) 3)).toNat)) = Xi S 9 (mnV S (from_ + 1) (re7 (ty7 S) (from_ + 1)) % 256).toNat := by rw [(hFT4.cx 9 rfl _).1]; rw [show Xi T4 (276 + cl) 3 = (mnV S (from_ + 1) (re7 (ty7 S) (from_ + 1)) % 256) by omega]
          refine y_istore rfl rfl rfl ?_
          refine y_aload_n rfl rfl ?_
          refine y_iload rfl rfl ?_
          refine y_bipush rfl rfl ?_
          refine y_icmp_ne rfl rfl (by unfold rg; omega) (by unfold rg; omega) (fun w71 => ?_) (fun w72 => ?_)
          · refine y_iconst rfl ?_
            refine y_pfz rfl rfl (layClW (by omega) rfl) rfl (by omega) ?_
            obtain ⟨U5, eU5⟩ : ∃ T : sS, T = uI T4 (276 + cl) 1 (Int32.ofInt 0) := ⟨_, rfl⟩
            rw [← eU5]
            have hHU5 : RI U5 := by rw [eU5]; exact RI_w hHT4
            have hFU5 : FR md_rr_propertyTest__p S U5 := by rw [eU5]; exact FR.wI hFT4 (mdf_i (r := (276, 876, 1, 2)) (List.mem_of_getElem? (i := 1) rfl) (inR_i (by omega) (by omega) (by omega) (by omega)))
            have w73 : Xi U5 (276 + cl) 1 = 0 := by rw [eU5]; exact Xi_same (by unfold rg; omega)
            have e126 := eU5
            have N126 : Xi U5 (276 + cl) 1 = ntT S is_ := by rw [e126, Xi_same (by unfold rg; omega)]; unfold ntT; rw [gq19]; first | (rw [if_pos (by omega)]) | (rw [if_neg (by omega)])
            refine y_aload_n rfl rfl ?_
            refine y_gfr rfl rfl rfl rfl rfl (hHU5.r 899 2 895 rfl) ?_
            refine y_aload_n rfl rfl ?_
            refine y_gfi rfl rfl rfl (layCl (by omega)) rfl ?_
            refine y_if_eq rfl rfl (by unfold rg; omega) (fun w74 => ?_) (fun w75 => ?_)
            · refine y_iload_n rfl rfl ?_
              refine y_iconst rfl ?_
              refine y_iadd rfl ?_
              refine y_iload rfl rfl ?_
              have w76 : Xi U5 (276 + cl) 0 = Xi S (276 + cl) 0 := (show Xi U5 (276 + cl) 0 = Xi T4 (276 + cl) 0 from by rw [eU5]; exact Xi_ne (by omega)).trans ((show Xi T4 (276 + cl) 0 = Xi S (276 + cl) 0 from FR_clj w62 rfl (by omega)))
              have w77 : Xi U5 (276 + cl) 2 = Xi T4 (276 + cl) 2 := (show Xi U5 (276 + cl) 2 = Xi T4 (276 + cl) 2 from by rw [eU5]; exact Xi_ne (by omega))
              have w78 : Xi U5 (276 + cl) 3 = Xi T4 (276 + cl) 3 := (show Xi U5 (276 + cl) 3 = Xi T4 (276 + cl) 3 from by rw [eU5]; exact Xi_ne (by omega))
              have w79 : Xi U5 (276 + cl) 4 = Xi S (276 + cl) 4 := (show Xi U5 (276 + cl) 4 = Xi T4 (276 + cl) 4 from by rw [eU5]; exact Xi_ne (by omega)).trans ((show Xi T4 (276 + cl) 4 = Xi S (276 + cl) 4 from FR_clj w62 rfl (by omega)))
              have w80 : Xi U5 (276 + cl) 5 = Xi S (276 + cl) 5 := (show Xi U5 (276 + cl) 5 = Xi T4 (276 + cl) 5 from by rw [eU5]; exact Xi_ne (by omega)).trans ((show Xi T4 (276 + cl) 5 = Xi S (276 + cl) 5 from FR_clj w62 rfl (by omega)))
              have w81 : Xi U5 (276 + cl) 6 = Xi S (276 + cl) 6 := (show Xi U5 (276 + cl) 6 = Xi T4 (276 + cl) 6 from by rw [eU5]; exact Xi_ne (by omega)).trans ((show Xi T4 (276 + cl) 6 = Xi S (276 + cl) 6 from FR_clj w62 rfl (by omega)))
              have w82 : Xi U5 1 3 = Xi S 1 3 := (show Xi U5 1 3 = Xi T4 1 3 from by rw [eU5]; exact Xi_ne (by omega)).trans ((show Xi T4 1 3 = Xi S 1 3 from w62.x _ _ rfl))
              have w83 : Xi U5 876 5 = Xi S 876 5 := (show Xi U5 876 5 = Xi T4 876 5 from by rw [eU5]; exact Xi_ne (by omega)).trans ((show Xi T4 876 5 = Xi S 876 5 from w62.x _ _ rfl))
              have w84 : Xi U5 876 7 = Xi S 876 7 := (show Xi U5 876 7 = Xi T4 876 7 from by rw [eU5]; exact Xi_ne (by omega)).trans ((show Xi T4 876 7 = Xi S 876 7 from w62.x _ _ rfl))
              have w85 : Xi U5 876 8 = Xi T4 876 8 := (show Xi U5 876 8 = Xi T4 876 8 from by rw [eU5]; exact Xi_ne (by omega))
              have w86 : Xi U5 895 10 = Xi S 895 10 := (show Xi U5 895 10 = Xi T4 895 10 from by rw [eU5]; exact Xi_ne (by omega)).trans ((show Xi T4 895 10 = Xi S 895 10 from w62.x _ _ rfl))
              have w87 : Xi U5 895 11 = Xi S 895 11 := (show Xi U5 895 11 = Xi T4 895 11 from by rw [eU5]; exact Xi_ne (by omega)).trans ((show Xi T4 895 11 = Xi S 895 11 from w62.x _ _ rfl))
              refine y_callV rfl rfl rfl (t_me_readWhat__p hHU5 (is_ + 1) (Xi T4 9 (((Xi T4 (276 + cl) 3)).toNat)) ⟨by omega, by omega⟩ ⟨by omega, by omega⟩ (by first | assumption | omega) (by first | assumption | exact (CEN_FR hFU5 rfl rfl (by assumption : CEN S))) (by first | assumption | exact (TOK_FR hFU5 rfl rfl rfl (by assumption : TOK S))) (by first | assumption | exact (SRX_FR hFU5 rfl (by assumption : SRX S))) (NVL_F hFU5 rfl rfl rfl hnv.o) (by first | assumption | omega) (fun j => by rw [(hFU5.cx 878 rfl _).1]; exact hpl.o j) (by first | assumption | omega) _) ?_
              rintro _ T6 ⟨hHT6, w90, z89, rfl, w89, o151, w88, k151⟩
              have hFT6 : FR md_rr_propertyTest__p S T6 := FR.tr hFU5 w90 rfl
              show Pl _ _ _ _ _ _ [iv z89] _ _
              have F151 := (by assumption : FR md_me_readWhat__p U5 T6)
              have Y151 : z89 = 1 → WHR S (is_ + 1 + ntT S is_) (Xi S 9 (mnV S (from_ + 1) (re7 (ty7 S) (from_ + 1)) % 256).toNat) (Xi T6 895 10) (Xi T6 895 11) := fun q => by have u := o151.1 q; rw [WHR_F hFU5 rfl rfl rfl rfl rfl rfl, t110] at u; first | (rw [show is_ + 1 + ntT S is_ = is_ + 1 by omega]; exact u) | (rw [show is_ + 1 + ntT S is_ = is_ + 2 by omega]; exact u)
              have X151_ : z89 = 0 → (∀ v g : Int, ¬ WHR S (is_ + 1 + ntT S is_) (Xi S 9 (mnV S (from_ + 1) (re7 (ty7 S) (from_ + 1)) % 256).toNat) v g) ∧ (Xi S 876 8 = 0 → FTO S T6 4 (is_ + 1 + ntT S is_)) := fun q => by have u := o151.2 q; rw [t110] at u; (first | rw [show is_ + 1 + ntT S is_ = is_ + 1 by omega] | rw [show is_ + 1 + ntT S is_ = is_ + 2 by omega]); exact ⟨fun v g w => u.1 v g (by rw [WHR_F hFU5 rfl rfl rfl rfl rfl rfl]; exact w), fun w => by have y := u.2 (by omega); exact ⟨y.1, y.2.trans (pc7_FR hFU5 rfl rfl rfl _)⟩⟩
              clear o151
              refine y_if_ne rfl rfl (by unfold rg; omega) (fun w91 => ?_) (fun w92 => ?_)
              · refine y_aload_n rfl rfl ?_
                refine y_iload rfl rfl ?_
                refine y_iconst rfl ?_
                refine y_icmp_ne rfl rfl (by unfold rg; omega) (by unfold rg; omega) (fun w93 => ?_) (fun w94 => ?_)
                · refine y_iconst rfl ?_
                  refine y_pfi rfl rfl (layClW (by omega) rfl) rfl ?_
                  obtain ⟨U7, eU7⟩ : ∃ T : sS, T = uI T6 (276 + cl) 0 (Int32.ofInt 1) := ⟨_, rfl⟩
                  rw [← eU7]
                  have hHU7 : RI U7 := by rw [eU7]; exact RI_w hHT6
                  have hFU7 : FR md_rr_propertyTest__p S U7 := by rw [eU7]; exact FR.wI hFT6 (mdf_i (r := (276, 876, 0, 1)) (List.mem_of_getElem? (i := 0) rfl) (inR_i (by omega) (by omega) (by omega) (by omega)))
                  have w95 : Xi U7 (276 + cl) 0 = 1 := by rw [eU7]; exact Xi_same (by unfold rg; omega)
                  have e171 := eU7
                  have Z171_ : Xi U7 (276 + cl) 0 = (if Xi S 9 (mnV S (from_ + 1) (re7 (ty7 S) (from_ + 1)) % 256).toNat = 1 then 4 else 1) := by rw [e171, Xi_same (by unfold rg; omega)]; first | (rw [if_pos (by omega)]) | (rw [if_neg (by omega)])
                  refine y_aload_n rfl rfl ?_
                  refine y_aload_n rfl rfl ?_
                  refine y_gfr rfl rfl rfl rfl rfl (hHU7.r 899 2 895 rfl) ?_
                  refine y_gfi rfl rfl rfl rfl rfl ?_
                  have w96 : -2147483648 ≤ (Xi U7 895 10) ∧ (Xi U7 895 10) ≤ 2147483647 := Xi_rgI
                  refine y_pfi rfl rfl (layClW (by omega) rfl) rfl ?_
                  obtain ⟨U8, eU8⟩ : ∃ T : sS, T = uI U7 (276 + cl) 4 (Int32.ofInt (Xi U7 895 10)) := ⟨_, rfl⟩
                  rw [← eU8]
                  have hHU8 : RI U8 := by rw [eU8]; exact RI_w hHU7
                  have hFU8 : FR md_rr_propertyTest__p S U8 := by rw [eU8]; exact FR.wI hFU7 (mdf_i (r := (276, 876, 4, 5)) (List.mem_of_getElem? (i := 4) rfl) (inR_i (by omega) (by omega) (by omega) (by omega)))
                  have w97 : Xi U8 (276 + cl) 4 = (Xi U7 895 10) := by rw [eU8]; exact Xi_same (by unfold rg; omega)
                  have e182 := eU8
                  refine y_aload_n rfl rfl ?_
                  refine y_aload_n rfl rfl ?_
                  refine y_gfr rfl rfl rfl rfl rfl (hHU8.r 899 2 895 rfl) ?_
                  refine y_gfi rfl rfl rfl rfl rfl ?_
                  have w98 : -2147483648 ≤ (Xi U8 895 11) ∧ (Xi U8 895 11) ≤ 2147483647 := Xi_rgI
                  refine y_pfi rfl rfl (layClW (by omega) rfl) rfl ?_
                  obtain ⟨U9, eU9⟩ : ∃ T : sS, T = uI U8 (276 + cl) 5 (Int32.ofInt (Xi U8 895 11)) := ⟨_, rfl⟩
                  rw [← eU9]
                  have hHU9 : RI U9 := by rw [eU9]; exact RI_w hHU8
                  have hFU9 : FR md_rr_propertyTest__p S U9 := by rw [eU9]; exact FR.wI hFU8 (mdf_i (r := (276, 876, 5, 6)) (List.mem_of_getElem? (i := 5) rfl) (inR_i (by omega) (by omega) (by omega) (by omega)))
                  have w99 : Xi U9 (276 + cl) 5 = (Xi U8 895 11) := by rw [eU9]; exact Xi_same (by unfold rg; omega)
                  have e193 := eU9
                  have a193 : Xi U9 (276 + cl) 4 = Xi T6 895 10 := by rw [e193, Xi_ne (by omega), e182, Xi_same (by unfold rg; omega), e171, Xi_ne (by omega)]
                  have b193 : Xi U9 (276 + cl) 5 = Xi T6 895 11 := by rw [e193, Xi_same (by unfold rg; omega), e182, Xi_ne (by omega), e171, Xi_ne (by omega)]
                  have Z193_ : WHR S (is_ + 1 + ntT S is_) (Xi S 9 (mnV S (from_ + 1) (re7 (ty7 S) (from_ + 1)) % 256).toNat) (Xi U9 (276 + cl) 4) (Xi U9 (276 + cl) 5) := by rw [a193, b193]; exact Y151 (by omega)
                  have h193 : Xi U9 (276 + cl) 3 = (mnV S (from_ + 1) (re7 (ty7 S) (from_ + 1)) % 256) := by rw [e193, Xi_ne (by omega), e182, Xi_ne (by omega), e171, Xi_ne (by omega), FR_clj F151 rfl hcl, e126, Xi_ne (by omega)]; exact q54.2.2.1
                  have Z193 : WHR S (is_ + 1 + ntT S is_) (Xi S 9 (Xi U9 (276 + cl) 3).toNat) (Xi U9 (276 + cl) 4) (Xi U9 (276 + cl) 5) := by rw [h193]; exact Z193_
                  have Z171 : Xi U9 (276 + cl) 0 = (if Xi S 9 (Xi U9 (276 + cl) 3).toNat = 1 then 4 else 1) := by rw [h193, e193, Xi_ne (by omega), e182, Xi_ne (by omega)]; exact Z171_
                  refine y_iconst rfl ?_
                  refine y_ireturn rfl rfl ?_
                  have w100 : Xi U9 (276 + cl) 0 = Xi U7 (276 + cl) 0 := (show Xi U9 (276 + cl) 0 = Xi U8 (276 + cl) 0 from by rw [eU9]; exact Xi_ne (by omega)).trans ((show Xi U8 (276 + cl) 0 = Xi U7 (276 + cl) 0 from by rw [eU8]; exact Xi_ne (by omega)))
                  have w101 : Xi U9 (276 + cl) 1 = Xi U5 (276 + cl) 1 := (show Xi U9 (276 + cl) 1 = Xi U8 (276 + cl) 1 from by rw [eU9]; exact Xi_ne (by omega)).trans ( (show Xi U8 (276 + cl) 1 = Xi U7 (276 + cl) 1 from by rw [eU8]; exact Xi_ne (by omega)).trans ( (show Xi U7 (276 + cl) 1 = Xi T6 (276 + cl) 1 from by rw [eU7]; exact Xi_ne (by omega)).trans ((show Xi T6 (276 + cl) 1 = Xi U5 (276 + cl) 1 from FR_cl w90 rfl (by omega)))))
                  have w102 : Xi U9 (276 + cl) 2 = Xi T4 (276 + cl) 2 := (show Xi U9 (276 + cl) 2 = Xi U8 (276 + cl) 2 from by rw [eU9]; exact Xi_ne (by omega)).trans ( (show Xi U8 (276 + cl) 2 = Xi U7 (276 + cl) 2 from by rw [eU8]; exact Xi_ne (by omega)).trans ( (show Xi U7 (276 + cl) 2 = Xi T6 (276 + cl) 2 from by rw [eU7]; exact Xi_ne (by omega)).trans ( (show Xi T6 (276 + cl) 2 = Xi U5 (276 + cl) 2 from FR_cl w90 rfl (by omega)).trans ((show Xi U5 (276 + cl) 2 = Xi T4 (276 + cl) 2 from by rw [eU5]; exact Xi_ne (by omega))))))
                  have w103 : Xi U9 (276 + cl) 3 = Xi T4 (276 + cl) 3 := (show Xi U9 (276 + cl) 3 = Xi U8 (276 + cl) 3 from by rw [eU9]; exact Xi_ne (by omega)).trans ( (show Xi U8 (276 + cl) 3 = Xi U7 (276 + cl) 3 from by rw [eU8]; exact Xi_ne (by omega)).trans ( (show Xi U7 (276 + cl) 3 = Xi T6 (276 + cl) 3 from by rw [eU7]; exact Xi_ne (by omega)).trans ( (show Xi T6 (276 + cl) 3 = Xi U5 (276 + cl) 3 from FR_cl w90 rfl (by omega)).trans ((show Xi U5 (276 + cl) 3 = Xi T4 (276 + cl) 3 from by rw [eU5]; exact Xi_ne (by omega))))))
                  have w104 : Xi U9 (276 + cl) 4 = Xi U8 (276 + cl) 4 := (show Xi U9 (276 + cl) 4 = Xi U8 (276 + cl) 4 from by rw [eU9]; exact Xi_ne (by omega))
                  have w105 : Xi U9 (276 + cl) 6 = Xi S (276 + cl) 6 := (show Xi U9 (276 + cl) 6 = Xi U8 (276 + cl) 6 from by rw [eU9]; exact Xi_ne (by omega)).trans ( (show Xi U8 (276 + cl) 6 = Xi U7 (276 + cl) 6 from by rw [eU8]; exact Xi_ne (by omega)).trans ( (show Xi U7 (276 + cl) 6 = Xi T6 (276 + cl) 6 from by rw [eU7]; exact Xi_ne (by omega)).trans ( (show Xi T6 (276 + cl) 6 = Xi U5 (276 + cl) 6 from FR_cl w90 rfl (by omega)).trans ( (show Xi U5 (276 + cl) 6 = Xi T4 (276 + cl) 6 from by rw [eU5]; exact Xi_ne (by omega)).trans ((show Xi T4 (276 + cl) 6 = Xi S (276 + cl) 6 from FR_clj w62 rfl (by omega)))))))
                  have w106 : Xi U9 876 8 = Xi T6 876 8 := (show Xi U9 876 8 = Xi U8 876 8 from by rw [eU9]; exact Xi_ne (by omega)).trans ( (show Xi U8 876 8 = Xi U7 876 8 from by rw [eU8]; exact Xi_ne (by omega)).trans ((show Xi U7 876 8 = Xi T6 876 8 from by rw [eU7]; exact Xi_ne (by omega))))
                  have w107 : Xi U9 895 10 = Xi T6 895 10 := (show Xi U9 895 10 = Xi U8 895 10 from by rw [eU9]; exact Xi_ne (by omega)).trans ( (show Xi U8 895 10 = Xi U7 895 10 from by rw [eU8]; exact Xi_ne (by omega)).trans ((show Xi U7 895 10 = Xi T6 895 10 from by rw [eU7]; exact Xi_ne (by omega))))
                  have w108 : Xi U9 895 11 = Xi T6 895 11 := (show Xi U9 895 11 = Xi U8 895 11 from by rw [eU9]; exact Xi_ne (by omega)).trans ( (show Xi U8 895 11 = Xi U7 895 11 from by rw [eU8]; exact Xi_ne (by omega)).trans ((show Xi U7 895 11 = Xi T6 895 11 from by rw [eU7]; exact Xi_ne (by omega))))
                  exact ⟨hHU9, hFU9, _, rfl, ⟨by omega, by omega⟩, (by first | (have u := e193; exact ⟨kcl_w e193 (kcl_w e182 (kcl_w e171 (kcl_f F151 rfl (kcl_w e126 K54)))), fun _ => ⟨by omega, _, _, _, _, _, _, ⟨P54.1, by omega, by omega, by omega, Or.inr ⟨by omega, by omega, Z193, Z171⟩⟩, rfl, rfl, rfl, rfl, rfl, rfl, by omega⟩, fun q => absurd q (by omega)⟩) | (have u := X151; exact ⟨kcl_f F151 rfl (kcl_w e126 K54), fun q => absurd q (by omega), fun _ => ⟨4, _, Or.inr (Or.inr ⟨P54.1, P54.2.1, by omega, X151.1, rfl, rfl⟩), X151.2⟩⟩) | (have u := e94; exact ⟨kcl_w e94 (kcl_w e80 K54), fun _ => ⟨by omega, _, _, _, _, _, _, ⟨P54.1, by omega, by omega, by omega, Or.inl ⟨by omega, Z94, by omega, by omega, by omega⟩⟩, rfl, rfl, rfl, rfl, rfl, rfl, by omega⟩, fun q => absurd q (by omega)⟩) | exact ⟨K54, fun q => absurd q (by omega), fun _ => pot_0 O54 rfl (by omega)⟩)⟩
                · refine y_iconst rfl ?_
                  refine y_goto rfl rfl ?_
                  refine y_pfi rfl rfl (layClW (by omega) rfl) rfl ?_
                  obtain ⟨U10, eU10⟩ : ∃ T : sS, T = uI T6 (276 + cl) 0 (Int32.ofInt 4) := ⟨_, rfl⟩
                  rw [← eU10]
                  have hHU10 : RI U10 := by rw [eU10]; exact RI_w hHT6
                  have hFU10 : FR md_rr_propertyTest__p S U10 := by rw [eU10]; exact FR.wI hFT6 (mdf_i (r := (276, 876, 0, 1)) (List.mem_of_getElem? (i := 0) rfl) (inR_i (by omega) (by omega) (by omega) (by omega)))
                  have w109 : Xi U10 (276 + cl) 0 = 4 := by rw [eU10]; exact Xi_same (by unfold rg; omega)
                  have e171 := eU10
                  have Z171_ : Xi U10 (276 + cl) 0 = (if Xi S 9 (mnV S (from_ + 1) (re7 (ty7 S) (from_ + 1)) % 256).toNat = 1 then 4 else 1) := by rw [e171, Xi_same (by unfold rg; omega)]; first | (rw [if_pos (by omega)]) | (rw [if_neg (by omega)])
                  refine y_aload_n rfl rfl ?_
                  refine y_aload_n rfl rfl ?_
                  refine y_gfr rfl rfl rfl rfl rfl (hHU10.r 899 2 895 rfl) ?_
                  refine y_gfi rfl rfl rfl rfl rfl ?_
                  have w110 : -2147483648 ≤ (Xi U10 895 10) ∧ (Xi U10 895 10) ≤ 2147483647 := Xi_rgI
                  refine y_pfi rfl rfl (layClW (by omega) rfl) rfl ?_
                  obtain ⟨U11, eU11⟩ : ∃ T : sS, T = uI U10 (276 + cl) 4 (Int32.ofInt (Xi U10 895 10)) := ⟨_, rfl⟩
                  rw [← eU11]
                  have hHU11 : RI U11 := by rw [eU11]; exact RI_w hHU10
                  have hFU11 : FR md_rr_propertyTest__p S U11 := by rw [eU11]; exact FR.wI hFU10 (mdf_i (r := (276, 876, 4, 5)) (List.mem_of_getElem? (i := 4) rfl) (inR_i (by omega) (by omega) (by omega) (by omega)))
                  have w111 : Xi U11 (276 + cl) 4 = (Xi U10 895 10) := by rw [eU11]; exact Xi_same (by unfold rg; omega)
                  have e182 := eU11
                  refine y_aload_n rfl rfl ?_
                  refine y_aload_n rfl rfl ?_
                  refine y_gfr rfl rfl rfl rfl rfl (hHU11.r 899 2 895 rfl) ?_
                  refine y_gfi rfl rfl rfl rfl rfl ?_
                  have w112 : -2147483648 ≤ (Xi U11 895 11) ∧ (Xi U11 895 11) ≤ 2147483647 := Xi_rgI
                  refine y_pfi rfl rfl (layClW (by omega) rfl) rfl ?_
                  obtain ⟨U12, eU12⟩ : ∃ T : sS, T = uI U11 (276 + cl) 5 (Int32.ofInt (Xi U11 895 11)) := ⟨_, rfl⟩
                  rw [← eU12]
                  have hHU12 : RI U12 := by rw [eU12]; exact RI_w hHU11
                  have hFU12 : FR md_rr_propertyTest__p S U12 := by rw [eU12]; exact FR.wI hFU11 (mdf_i (r := (276, 876, 5, 6)) (List.mem_of_getElem? (i := 5) rfl) (inR_i (by omega) (by omega) (by omega) (by omega)))
                  have w113 : Xi U12 (276 + cl) 5 = (Xi U11 895 11) := by rw [eU12]; exact Xi_same (by unfold rg; omega)
                  have e193 := eU12
                  have a193 : Xi U12 (276 + cl) 4 = Xi T6 895 10 := by rw [e193, Xi_ne (by omega), e182, Xi_same (by unfold rg; omega), e171, Xi_ne (by omega)]
                  have b193 : Xi U12 (276 + cl) 5 = Xi T6 895 11 := by rw [e193, Xi_same (by unfold rg; omega), e182, Xi_ne (by omega), e171, Xi_ne (by omega)]
                  have Z193_ : WHR S (is_ + 1 + ntT S is_) (Xi S 9 (mnV S (from_ + 1) (re7 (ty7 S) (from_ + 1)) % 256).toNat) (Xi U12 (276 + cl) 4) (Xi U12 (276 + cl) 5) := by rw [a193, b193]; exact Y151 (by omega)
                  have h193 : Xi U12 (276 + cl) 3 = (mnV S (from_ + 1) (re7 (ty7 S) (from_ + 1)) % 256) := by rw [e193, Xi_ne (by omega), e182, Xi_ne (by omega), e171, Xi_ne (by omega), FR_clj F151 rfl hcl, e126, Xi_ne (by omega)]; exact q54.2.2.1
                  have Z193 : WHR S (is_ + 1 + ntT S is_) (Xi S 9 (Xi U12 (276 + cl) 3).toNat) (Xi U12 (276 + cl) 4) (Xi U12 (276 + cl) 5) := by rw [h193]; exact Z193_
                  have Z171 : Xi U12 (276 + cl) 0 = (if Xi S 9 (Xi U12 (276 + cl) 3).toNat = 1 then 4 else 1) := by rw [h193, e193, Xi_ne (by omega), e182, Xi_ne (by omega)]; exact Z171_
                  refine y_iconst rfl ?_
                  refine y_ireturn rfl rfl ?_
                  have w114 : Xi U12 (276 + cl) 0 = Xi U10 (276 + cl) 0 := (show Xi U12 (276 + cl) 0 = Xi U11 (276 + cl) 0 from by rw [eU12]; exact Xi_ne (by omega)).trans ((show Xi U11 (276 + cl) 0 = Xi U10 (276 + cl) 0 from by rw [eU11]; exact Xi_ne (by omega)))
                  have w115 : Xi U12 (276 + cl) 1 = Xi U5 (276 + cl) 1 := (show Xi U12 (276 + cl) 1 = Xi U11 (276 + cl) 1 from by rw [eU12]; exact Xi_ne (by omega)).trans ( (show Xi U11 (276 + cl) 1 = Xi U10 (276 + cl) 1 from by rw [eU11]; exact Xi_ne (by omega)).trans ( (show Xi U10 (276 + cl) 1 = Xi T6 (276 + cl) 1 from by rw [eU10]; exact Xi_ne (by omega)).trans ((show Xi T6 (276 + cl) 1 = Xi U5 (276 + cl) 1 from FR_cl w90 rfl (by omega)))))
                  have w116 : Xi U12 (276 + cl) 2 = Xi T4 (276 + cl) 2 := (show Xi U12 (276 + cl) 2 = Xi U11 (276 + cl) 2 from by rw [eU12]; exact Xi_ne (by omega)).trans ( (show Xi U11 (276 + cl) 2 = Xi U10 (276 + cl) 2 from by rw [eU11]; exact Xi_ne (by omega)).trans ( (show Xi U10 (276 + cl) 2 = Xi T6 (276 + cl) 2 from by rw [eU10]; exact Xi_ne (by omega)).trans ( (show Xi T6 (276 + cl) 2 = Xi U5 (276 + cl) 2 from FR_cl w90 rfl (by omega)).trans ((show Xi U5 (276 + cl) 2 = Xi T4 (276 + cl) 2 from by rw [eU5]; exact Xi_ne (by omega))))))
                  have w117 : Xi U12 (276 + cl) 3 = Xi T4 (276 + cl) 3 := (show Xi U12 (276 + cl) 3 = Xi U11 (276 + cl) 3 from by rw [eU12]; exact Xi_ne (by omega)).trans ( (show Xi U11 (276 + cl) 3 = Xi U10 (276 + cl) 3 from by rw [eU11]; exact Xi_ne (by omega)).trans ( (show Xi U10 (276 + cl) 3 = Xi T6 (276 + cl) 3 from by rw [eU10]; exact Xi_ne (by omega)).trans ( (show Xi T6 (276 + cl) 3 = Xi U5 (276 + cl) 3 from FR_cl w90 rfl (by omega)).trans ((show Xi U5 (276 + cl) 3 = Xi T4 (276 + cl) 3 from by rw [eU5]; exact Xi_ne (by omega))))))
                  have w118 : Xi U12 (276 + cl) 4 = Xi U11 (276 + cl) 4 := (show Xi U12 (276 + cl) 4 = Xi U11 (276 + cl) 4 from by rw [eU12]; exact Xi_ne (by omega))
                  have w119 : Xi U12 (276 + cl) 6 = Xi S (276 + cl) 6 := (show Xi U12 (276 + cl) 6 = Xi U11 (276 + cl) 6 from by rw [eU12]; exact Xi_ne (by omega)).trans ( (show Xi U11 (276 + cl) 6 = Xi U10 (276 + cl) 6 from by rw [eU11]; exact Xi_ne (by omega)).trans ( (show Xi U10 (276 + cl) 6 = Xi T6 (276 + cl) 6 from by rw [eU10]; exact Xi_ne (by omega)).trans ( (show Xi T6 (276 + cl) 6 = Xi U5 (276 + cl) 6 from FR_cl w90 rfl (by omega)).trans ( (show Xi U5 (276 + cl) 6 = Xi T4 (276 + cl) 6 from by rw [eU5]; exact Xi_ne (by omega)).trans ((show Xi T4 (276 + cl) 6 = Xi S (276 + cl) 6 from FR_clj w62 rfl (by omega)))))))
                  have w120 : Xi U12 876 8 = Xi T6 876 8 := (show Xi U12 876 8 = Xi U11 876 8 from by rw [eU12]; exact Xi_ne (by omega)).trans ( (show Xi U11 876 8 = Xi U10 876 8 from by rw [eU11]; exact Xi_ne (by omega)).trans ((show Xi U10 876 8 = Xi T6 876 8 from by rw [eU10]; exact Xi_ne (by omega))))
                  have w121 : Xi U12 895 10 = Xi T6 895 10 := (show Xi U12 895 10 = Xi U11 895 10 from by rw [eU12]; exact Xi_ne (by omega)).trans ( (show Xi U11 895 10 = Xi U10 895 10 from by rw [eU11]; exact Xi_ne (by omega)).trans ((show Xi U10 895 10 = Xi T6 895 10 from by rw [eU10]; exact Xi_ne (by omega))))
                  have w122 : Xi U12 895 11 = Xi T6 895 11 := (show Xi U12 895 11 = Xi U11 895 11 from by rw [eU12]; exact Xi_ne (by omega)).trans ( (show Xi U11 895 11 = Xi U10 895 11 from by rw [eU11]; exact Xi_ne (by omega)).trans ((show Xi U10 895 11 = Xi T6 895 11 from by rw [eU10]; exact Xi_ne (by omega))))
                  exact ⟨hHU12, hFU12, _, rfl, ⟨by omega, by omega⟩, (by first | (have u := e193; exact ⟨kcl_w e193 (kcl_w e182 (kcl_w e171 (kcl_f F151 rfl (kcl_w e126 K54)))), fun _ => ⟨by omega, _, _, _, _, _, _, ⟨P54.1, by omega, by omega, by omega, Or.inr ⟨by omega, by omega, Z193, Z171⟩⟩, rfl, rfl, rfl, rfl, rfl, rfl, by omega⟩, fun q => absurd q (by omega)⟩) | (have u := X151; exact ⟨kcl_f F151 rfl (kcl_w e126 K54), fun q => absurd q (by omega), fun _ => ⟨4, _, Or.inr (Or.inr ⟨P54.1, P54.2.1, by omega, X151.1, rfl, rfl⟩), X151.2⟩⟩) | (have u := e94; exact ⟨kcl_w e94 (kcl_w e80 K54), fun _ => ⟨by omega, _, _, _, _, _, _, ⟨P54.1, by omega, by omega, by omega, Or.inl ⟨by omega, Z94, by omega, by omega, by omega⟩⟩, rfl, rfl, rfl, rfl, rfl, rfl, by omega⟩, fun q => absurd q (by omega)⟩) | exact ⟨K54, fun q => absurd q (by omega), fun _ => pot_0 O54 rfl (by omega)⟩)⟩
              · refine y_iconst rfl ?_
                have X151 := X151_ (by omega)
                refine y_ireturn rfl rfl ?_
                have w123 : Xi T6 (276 + cl) 0 = Xi S (276 + cl) 0 := (show Xi T6 (276 + cl) 0 = Xi U5 (276 + cl) 0 from FR_cl w90 rfl (by omega)).trans ( (show Xi U5 (276 + cl) 0 = Xi T4 (276 + cl) 0 from by rw [eU5]; exact Xi_ne (by omega)).trans ((show Xi T4 (276 + cl) 0 = Xi S (276 + cl) 0 from FR_clj w62 rfl (by omega))))
                have w124 : Xi T6 (276 + cl) 1 = Xi U5 (276 + cl) 1 := (show Xi T6 (276 + cl) 1 = Xi U5 (276 + cl) 1 from FR_cl w90 rfl (by omega))
                have w125 : Xi T6 (276 + cl) 2 = Xi T4 (276 + cl) 2 := (show Xi T6 (276 + cl) 2 = Xi U5 (276 + cl) 2 from FR_cl w90 rfl (by omega)).trans ((show Xi U5 (276 + cl) 2 = Xi T4 (276 + cl) 2 from by rw [eU5]; exact Xi_ne (by omega)))
                have w126 : Xi T6 (276 + cl) 3 = Xi T4 (276 + cl) 3 := (show Xi T6 (276 + cl) 3 = Xi U5 (276 + cl) 3 from FR_cl w90 rfl (by omega)).trans ((show Xi U5 (276 + cl) 3 = Xi T4 (276 + cl) 3 from by rw [eU5]; exact Xi_ne (by omega)))
                have w127 : Xi T6 (276 + cl) 4 = Xi S (276 + cl) 4 := (show Xi T6 (276 + cl) 4 = Xi U5 (276 + cl) 4 from FR_cl w90 rfl (by omega)).trans ( (show Xi U5 (276 + cl) 4 = Xi T4 (276 + cl) 4 from by rw [eU5]; exact Xi_ne (by omega)).trans ((show Xi T4 (276 + cl) 4 = Xi S (276 + cl) 4 from FR_clj w62 rfl (by omega))))
                have w128 : Xi T6 (276 + cl) 5 = Xi S (276 + cl) 5 := (show Xi T6 (276 + cl) 5 = Xi U5 (276 + cl) 5 from FR_cl w90 rfl (by omega)).trans ( (show Xi U5 (276 + cl) 5 = Xi T4 (276 + cl) 5 from by rw [eU5]; exact Xi_ne (by omega)).trans ((show Xi T4 (276 + cl) 5 = Xi S (276 + cl) 5 from FR_clj w62 rfl (by omega))))
                have w129 : Xi T6 (276 + cl) 6 = Xi S (276 + cl) 6 := (show Xi T6 (276 + cl) 6 = Xi U5 (276 + cl) 6 from FR_cl w90 rfl (by omega)).trans ( (show Xi U5 (276 + cl) 6 = Xi T4 (276 + cl) 6 from by rw [eU5]; exact Xi_ne (by omega)).trans ((show Xi T4 (276 + cl) 6 = Xi S (276 + cl) 6 from FR_clj w62 rfl (by omega))))
                exact ⟨hHT6, hFT6, _, rfl, ⟨by omega, by omega⟩, (by first | (have u := e193; exact ⟨kcl_w e193 (kcl_w e182 (kcl_w e171 (kcl_f F151 rfl (kcl_w e126 K54)))), fun _ => ⟨by omega, _, _, _, _, _, _, ⟨P54.1, by omega, by omega, by omega, Or.inr ⟨by omega, by omega, Z193, Z171⟩⟩, rfl, rfl, rfl, rfl, rfl, rfl, by omega⟩, fun q => absurd q (by omega)⟩) | (have u := X151; exact ⟨kcl_f F151 rfl (kcl_w e126 K54), fun q => absurd q (by omega), fun _ => ⟨4, _, Or.inr (Or.inr ⟨P54.1, P54.2.1, by omega, X151.1, rfl, rfl⟩), X151.2⟩⟩) | (have u := e94; exact ⟨kcl_w e94 (kcl_w e80 K54), fun _ => ⟨by omega, _, _, _, _, _, _, ⟨P54.1, by omega, by omega, by omega, Or.inl ⟨by omega, Z94, by omega, by omega, by omega⟩⟩, rfl, rfl, rfl, rfl, rfl, rfl, by omega⟩, fun q => absurd q (by omega)⟩) | exact ⟨K54, fun q => absurd q (by omega), fun _ => pot_0 O54 rfl (by omega)⟩)⟩
            · exfalso; omega
          · refine y_iconst rfl ?_
            refine y_goto rfl rfl ?_
            refine y_pfz rfl rfl (layClW (by omega) rfl) rfl (by omega) ?_
            obtain ⟨U13, eU13⟩ : ∃ T : sS, T = uI T4 (276 + cl) 1 (Int32.ofInt 1) := ⟨_, rfl⟩
            rw [← eU13]
            have hHU13 : RI U13 := by rw [eU13]; exact RI_w hHT4
            have hFU13 : FR md_rr_propertyTest__p S U13 := by rw [eU13]; exact FR.wI hFT4 (mdf_i (r := (276, 876, 1, 2)) (List.mem_of_getElem? (i := 1) rfl) (inR_i (by omega) (by omega) (by omega) (by omega)))
            have w130 : Xi U13 (276 + cl) 1 = 1 := by rw [eU13]; exact Xi_same (by unfold rg; omega)
            have e126 := eU13
            have N126 : Xi U13 (276 + cl) 1 = ntT S is_ := by rw [e126, Xi_same (by unfold rg; omega)]; unfold ntT; rw [gq19]; first | (rw [if_pos (by omega)]) | (rw [if_neg (by omega)])
            refine y_aload_n rfl rfl ?_
            refine y_gfr rfl rfl rfl rfl rfl (hHU13.r 899 2 895 rfl) ?_
            refine y_aload_n rfl rfl ?_
            refine y_gfi rfl rfl rfl (layCl (by omega)) rfl ?_
            refine y_if_eq rfl rfl (by unfold rg; omega) (fun w131 => ?_) (fun w132 => ?_)
            · exfalso; omega
            · refine y_iload_n rfl rfl ?_
              refine y_iconst rfl ?_
              refine y_iadd rfl ?_
              refine y_goto rfl rfl ?_
              refine y_iload rfl rfl ?_
              have w133 : Xi U13 (276 + cl) 0 = Xi S (276 + cl) 0 := (show Xi U13 (276 + cl) 0 = Xi T4 (276 + cl) 0 from by rw [eU13]; exact Xi_ne (by omega)).trans ((show Xi T4 (276 + cl) 0 = Xi S (276 + cl) 0 from FR_clj w62 rfl (by omega)))
              have w134 : Xi U13 (276 + cl) 2 = Xi T4 (276 + cl) 2 := (show Xi U13 (276 + cl) 2 = Xi T4 (276 + cl) 2 from by rw [eU13]; exact Xi_ne (by omega))
              have w135 : Xi U13 (276 + cl) 3 = Xi T4 (276 + cl) 3 := (show Xi U13 (276 + cl) 3 = Xi T4 (276 + cl) 3 from by rw [eU13]; exact Xi_ne (by omega))
              have w136 : Xi U13 (276 + cl) 4 = Xi S (276 + cl) 4 := (show Xi U13 (276 + cl) 4 = Xi T4 (276 + cl) 4 from by rw [eU13]; exact Xi_ne (by omega)).trans ((show Xi T4 (276 + cl) 4 = Xi S (276 + cl) 4 from FR_clj w62 rfl (by omega)))
              have w137 : Xi U13 (276 + cl) 5 = Xi S (276 + cl) 5 := (show Xi U13 (276 + cl) 5 = Xi T4 (276 + cl) 5 from by rw [eU13]; exact Xi_ne (by omega)).trans ((show Xi T4 (276 + cl) 5 = Xi S (276 + cl) 5 from FR_clj w62 rfl (by omega)))
              have w138 : Xi U13 (276 + cl) 6 = Xi S (276 + cl) 6 := (show Xi U13 (276 + cl) 6 = Xi T4 (276 + cl) 6 from by rw [eU13]; exact Xi_ne (by omega)).trans ((show Xi T4 (276 + cl) 6 = Xi S (276 + cl) 6 from FR_clj w62 rfl (by omega)))
              have w139 : Xi U13 1 3 = Xi S 1 3 := (show Xi U13 1 3 = Xi T4 1 3 from by rw [eU13]; exact Xi_ne (by omega)).trans ((show Xi T4 1 3 = Xi S 1 3 from w62.x _ _ rfl))
              have w140 : Xi U13 876 5 = Xi S 876 5 := (show Xi U13 876 5 = Xi T4 876 5 from by rw [eU13]; exact Xi_ne (by omega)).trans ((show Xi T4 876 5 = Xi S 876 5 from w62.x _ _ rfl))
              have w141 : Xi U13 876 7 = Xi S 876 7 := (show Xi U13 876 7 = Xi T4 876 7 from by rw [eU13]; exact Xi_ne (by omega)).trans ((show Xi T4 876 7 = Xi S 876 7 from w62.x _ _ rfl))
              have w142 : Xi U13 876 8 = Xi T4 876 8 := (show Xi U13 876 8 = Xi T4 876 8 from by rw [eU13]; exact Xi_ne (by omega))
              have w143 : Xi U13 895 10 = Xi S 895 10 := (show Xi U13 895 10 = Xi T4 895 10 from by rw [eU13]; exact Xi_ne (by omega)).trans ((show Xi T4 895 10 = Xi S 895 10 from w62.x _ _ rfl))
              have w144 : Xi U13 895 11 = Xi S 895 11 := (show Xi U13 895 11 = Xi T4 895 11 from by rw [eU13]; exact Xi_ne (by omega)).trans ((show Xi T4 895 11 = Xi S 895 11 from w62.x _ _ rfl))
              refine y_callV rfl rfl rfl (t_me_readWhat__p hHU13 (is_ + 2) (Xi T4 9 (((Xi T4 (276 + cl) 3)).toNat)) ⟨by omega, by omega⟩ ⟨by omega, by omega⟩ (by first | assumption | omega) (by first | assumption | exact (CEN_FR hFU13 rfl rfl (by assumption : CEN S))) (by first | assumption | exact (TOK_FR hFU13 rfl rfl rfl (by assumption : TOK S))) (by first | assumption | exact (SRX_FR hFU13 rfl (by assumption : SRX S))) (NVL_F hFU13 rfl rfl rfl hnv.o) (by first | assumption | omega) (fun j => by rw [(hFU13.cx 878 rfl _).1]; exact hpl.o j) (by first | assumption | omega) _) ?_
              rintro _ T14 ⟨hHT14, w147, z146, rfl, w146, o151, w145, k151⟩
              have hFT14 : FR md_rr_propertyTest__p S T14 := FR.tr hFU13 w147 rfl
              show Pl _ _ _ _ _ _ [iv z146] _ _
              have F151 := (by assumption : FR md_me_readWhat__p U13 T14)
              have Y151 : z146 = 1 → WHR S (is_ + 1 + ntT S is_) (Xi S 9 (mnV S (from_ + 1) (re7 (ty7 S) (from_ + 1)) % 256).toNat) (Xi T14 895 10) (Xi T14 895 11) := fun q => by have u := o151.1 q; rw [WHR_F hFU13 rfl rfl rfl rfl rfl rfl, t110] at u; first | (rw [show is_ + 1 + ntT S is_ = is_ + 1 by omega]; exact u) | (rw [show is_ + 1 + ntT S is_ = is_ + 2 by omega]; exact u)
              have X151_ : z146 = 0 → (∀ v g : Int, ¬ WHR S (is_ + 1 + ntT S is_) (Xi S 9 (mnV S (from_ + 1) (re7 (ty7 S) (from_ + 1)) % 256).toNat) v g) ∧ (Xi S 876 8 = 0 → FTO S T14 4 (is_ + 1 + ntT S is_)) := fun q => by have u := o151.2 q; rw [t110] at u; (first | rw [show is_ + 1 + ntT S is_ = is_ + 1 by omega] | rw [show is_ + 1 + ntT S is_ = is_ + 2 by omega]); exact ⟨fun v g w => u.1 v g (by rw [WHR_F hFU13 rfl rfl rfl rfl rfl rfl]; exact w), fun w => by have y := u.2 (by omega); exact ⟨y.1, y.2.trans (pc7_FR hFU13 rfl rfl rfl _)⟩⟩
              clear o151
              refine y_if_ne rfl rfl (by unfold rg; omega) (fun w148 => ?_) (fun w149 => ?_)
              · refine y_aload_n rfl rfl ?_
                refine y_iload rfl rfl ?_
                refine y_iconst rfl ?_
                refine y_icmp_ne rfl rfl (by unfold rg; omega) (by unfold rg; omega) (fun w150 => ?_) (fun w151 => ?_)
                · refine y_iconst rfl ?_
                  refine y_pfi rfl rfl (layClW (by omega) rfl) rfl ?_
                  obtain ⟨U15, eU15⟩ : ∃ T : sS, T = uI T14 (276 + cl) 0 (Int32.ofInt 1) := ⟨_, rfl⟩
                  rw [← eU15]
                  have hHU15 : RI U15 := by rw [eU15]; exact RI_w hHT14
                  have hFU15 : FR md_rr_propertyTest__p S U15 := by rw [eU15]; exact FR.wI hFT14 (mdf_i (r := (276, 876, 0, 1)) (List.mem_of_getElem? (i := 0) rfl) (inR_i (by omega) (by omega) (by omega) (by omega)))
                  have w152 : Xi U15 (276 + cl) 0 = 1 := by rw [eU15]; exact Xi_same (by unfold rg; omega)
                  have e171 := eU15
                  have Z171_ : Xi U15 (276 + cl) 0 = (if Xi S 9 (mnV S (from_ + 1) (re7 (ty7 S) (from_ + 1)) % 256).toNat = 1 then 4 else 1) := by rw [e171, Xi_same (by unfold rg; omega)]; first | (rw [if_pos (by omega)]) | (rw [if_neg (by omega)])
                  refine y_aload_n rfl rfl ?_
                  refine y_aload_n rfl rfl ?_
                  refine y_gfr rfl rfl rfl rfl rfl (hHU15.r 899 2 895 rfl) ?_
                  refine y_gfi rfl rfl rfl rfl rfl ?_
                  have w153 : -2147483648 ≤ (Xi U15 895 10) ∧ (Xi U15 895 10) ≤ 2147483647 := Xi_rgI
                  refine y_pfi rfl rfl (layClW (by omega) rfl) rfl ?_
                  obtain ⟨U16, eU16⟩ : ∃ T : sS, T = uI U15 (276 + cl) 4 (Int32.ofInt (Xi U15 895 10)) := ⟨_, rfl⟩
                  rw [← eU16]
                  have hHU16 : RI U16 := by rw [eU16]; exact RI_w hHU15
                  have hFU16 : FR md_rr_propertyTest__p S U16 := by rw [eU16]; exact FR.wI hFU15 (mdf_i (r := (276, 876, 4, 5)) (List.mem_of_getElem? (i := 4) rfl) (inR_i (by omega) (by omega) (by omega) (by omega)))
                  have w154 : Xi U16 (276 + cl) 4 = (Xi U15 895 10) := by rw [eU16]; exact Xi_same (by unfold rg; omega)
                  have e182 := eU16
                  refine y_aload_n rfl rfl ?_
                  refine y_aload_n rfl rfl ?_
                  refine y_gfr rfl rfl rfl rfl rfl (hHU16.r 899 2 895 rfl) ?_
                  refine y_gfi rfl rfl rfl rfl rfl ?_
                  have w155 : -2147483648 ≤ (Xi U16 895 11) ∧ (Xi U16 895 11) ≤ 2147483647 := Xi_rgI
                  refine y_pfi rfl rfl (layClW (by omega) rfl) rfl ?_
                  obtain ⟨U17, eU17⟩ : ∃ T : sS, T = uI U16 (276 + cl) 5 (Int32.ofInt (Xi U16 895 11)) := ⟨_, rfl⟩
                  rw [← eU17]
                  have hHU17 : RI U17 := by rw [eU17]; exact RI_w hHU16
                  have hFU17 : FR md_rr_propertyTest__p S U17 := by rw [eU17]; exact FR.wI hFU16 (mdf_i (r := (276, 876, 5, 6)) (List.mem_of_getElem? (i := 5) rfl) (inR_i (by omega) (by omega) (by omega) (by omega)))
                  have w156 : Xi U17 (276 + cl) 5 = (Xi U16 895 11) := by rw [eU17]; exact Xi_same (by unfold rg; omega)
                  have e193 := eU17
                  have a193 : Xi U17 (276 + cl) 4 = Xi T14 895 10 := by rw [e193, Xi_ne (by omega), e182, Xi_same (by unfold rg; omega), e171, Xi_ne (by omega)]
                  have b193 : Xi U17 (276 + cl) 5 = Xi T14 895 11 := by rw [e193, Xi_same (by unfold rg; omega), e182, Xi_ne (by omega), e171, Xi_ne (by omega)]
                  have Z193_ : WHR S (is_ + 1 + ntT S is_) (Xi S 9 (mnV S (from_ + 1) (re7 (ty7 S) (from_ + 1)) % 256).toNat) (Xi U17 (276 + cl) 4) (Xi U17 (276 + cl) 5) := by rw [a193, b193]; exact Y151 (by omega)
                  have h193 : Xi U17 (276 + cl) 3 = (mnV S (from_ + 1) (re7 (ty7 S) (from_ + 1)) % 256) := by rw [e193, Xi_ne (by omega), e182, Xi_ne (by omega), e171, Xi_ne (by omega), FR_clj F151 rfl hcl, e126, Xi_ne (by omega)]; exact q54.2.2.1
                  have Z193 : WHR S (is_ + 1 + ntT S is_) (Xi S 9 (Xi U17 (276 + cl) 3).toNat) (Xi U17 (276 + cl) 4) (Xi U17 (276 + cl) 5) := by rw [h193]; exact Z193_
                  have Z171 : Xi U17 (276 + cl) 0 = (if Xi S 9 (Xi U17 (276 + cl) 3).toNat = 1 then 4 else 1) := by rw [h193, e193, Xi_ne (by omega), e182, Xi_ne (by omega)]; exact Z171_
                  refine y_iconst rfl ?_
                  refine y_ireturn rfl rfl ?_
                  have w157 : Xi U17 (276 + cl) 0 = Xi U15 (276 + cl) 0 := (show Xi U17 (276 + cl) 0 = Xi U16 (276 + cl) 0 from by rw [eU17]; exact Xi_ne (by omega)).trans ((show Xi U16 (276 + cl) 0 = Xi U15 (276 + cl) 0 from by rw [eU16]; exact Xi_ne (by omega)))
                  have w158 : Xi U17 (276 + cl) 1 = Xi U13 (276 + cl) 1 := (show Xi U17 (276 + cl) 1 = Xi U16 (276 + cl) 1 from by rw [eU17]; exact Xi_ne (by omega)).trans ( (show Xi U16 (276 + cl) 1 = Xi U15 (276 + cl) 1 from by rw [eU16]; exact Xi_ne (by omega)).trans ( (show Xi U15 (276 + cl) 1 = Xi T14 (276 + cl) 1 from by rw [eU15]; exact Xi_ne (by omega)).trans ((show Xi T14 (276 + cl) 1 = Xi U13 (276 + cl) 1 from FR_cl w147 rfl (by omega)))))
                  have w159 : Xi U17 (276 + cl) 2 = Xi T4 (276 + cl) 2 := (show Xi U17 (276 + cl) 2 = Xi U16 (276 + cl) 2 from by rw [eU17]; exact Xi_ne (by omega)).trans ( (show Xi U16 (276 + cl) 2 = Xi U15 (276 + cl) 2 from by rw [eU16]; exact Xi_ne (by omega)).trans ( (show Xi U15 (276 + cl) 2 = Xi T14 (276 + cl) 2 from by rw [eU15]; exact Xi_ne (by omega)).trans ( (show Xi T14 (276 + cl) 2 = Xi U13 (276 + cl) 2 from FR_cl w147 rfl (by omega)).trans ((show Xi U13 (276 + cl) 2 = Xi T4 (276 + cl) 2 from by rw [eU13]; exact Xi_ne (by omega))))))
                  have w160 : Xi U17 (276 + cl) 3 = Xi T4 (276 + cl) 3 := (show Xi U17 (276 + cl) 3 = Xi U16 (276 + cl) 3 from by rw [eU17]; exact Xi_ne (by omega)).trans ( (show Xi U16 (276 + cl) 3 = Xi U15 (276 + cl) 3 from by rw [eU16]; exact Xi_ne (by omega)).trans ( (show Xi U15 (276 + cl) 3 = Xi T14 (276 + cl) 3 from by rw [eU15]; exact Xi_ne (by omega)).trans ( (show Xi T14 (276 + cl) 3 = Xi U13 (276 + cl) 3 from FR_cl w147 rfl (by omega)).trans ((show Xi U13 (276 + cl) 3 = Xi T4 (276 + cl) 3 from by rw [eU13]; exact Xi_ne (by omega))))))
                  have w161 : Xi U17 (276 + cl) 4 = Xi U16 (276 + cl) 4 := (show Xi U17 (276 + cl) 4 = Xi U16 (276 + cl) 4 from by rw [eU17]; exact Xi_ne (by omega))
                  have w162 : Xi U17 (276 + cl) 6 = Xi S (276 + cl) 6 := (show Xi U17 (276 + cl) 6 = Xi U16 (276 + cl) 6 from by rw [eU17]; exact Xi_ne (by omega)).trans ( (show Xi U16 (276 + cl) 6 = Xi U15 (276 + cl) 6 from by rw [eU16]; exact Xi_ne (by omega)).trans ( (show Xi U15 (276 + cl) 6 = Xi T14 (276 + cl) 6 from by rw [eU15]; exact Xi_ne (by omega)).trans ( (show Xi T14 (276 + cl) 6 = Xi U13 (276 + cl) 6 from FR_cl w147 rfl (by omega)).trans ( (show Xi U13 (276 + cl) 6 = Xi T4 (276 + cl) 6 from by rw [eU13]; exact Xi_ne (by omega)).trans ((show Xi T4 (276 + cl) 6 = Xi S (276 + cl) 6 from FR_clj w62 rfl (by omega)))))))
                  have w163 : Xi U17 876 8 = Xi T14 876 8 := (show Xi U17 876 8 = Xi U16 876 8 from by rw [eU17]; exact Xi_ne (by omega)).trans ( (show Xi U16 876 8 = Xi U15 876 8 from by rw [eU16]; exact Xi_ne (by omega)).trans ((show Xi U15 876 8 = Xi T14 876 8 from by rw [eU15]; exact Xi_ne (by omega))))
                  have w164 : Xi U17 895 10 = Xi T14 895 10 := (show Xi U17 895 10 = Xi U16 895 10 from by rw [eU17]; exact Xi_ne (by omega)).trans ( (show Xi U16 895 10 = Xi U15 895 10 from by rw [eU16]; exact Xi_ne (by omega)).trans ((show Xi U15 895 10 = Xi T14 895 10 from by rw [eU15]; exact Xi_ne (by omega))))
                  have w165 : Xi U17 895 11 = Xi T14 895 11 := (show Xi U17 895 11 = Xi U16 895 11 from by rw [eU17]; exact Xi_ne (by omega)).trans ( (show Xi U16 895 11 = Xi U15 895 11 from by rw [eU16]; exact Xi_ne (by omega)).trans ((show Xi U15 895 11 = Xi T14 895 11 from by rw [eU15]; exact Xi_ne (by omega))))
                  exact ⟨hHU17, hFU17, _, rfl, ⟨by omega, by omega⟩, (by first | (have u := e193; exact ⟨kcl_w e193 (kcl_w e182 (kcl_w e171 (kcl_f F151 rfl (kcl_w e126 K54)))), fun _ => ⟨by omega, _, _, _, _, _, _, ⟨P54.1, by omega, by omega, by omega, Or.inr ⟨by omega, by omega, Z193, Z171⟩⟩, rfl, rfl, rfl, rfl, rfl, rfl, by omega⟩, fun q => absurd q (by omega)⟩) | (have u := X151; exact ⟨kcl_f F151 rfl (kcl_w e126 K54), fun q => absurd q (by omega), fun _ => ⟨4, _, Or.inr (Or.inr ⟨P54.1, P54.2.1, by omega, X151.1, rfl, rfl⟩), X151.2⟩⟩) | (have u := e94; exact ⟨kcl_w e94 (kcl_w e80 K54), fun _ => ⟨by omega, _, _, _, _, _, _, ⟨P54.1, by omega, by omega, by omega, Or.inl ⟨by omega, Z94, by omega, by omega, by omega⟩⟩, rfl, rfl, rfl, rfl, rfl, rfl, by omega⟩, fun q => absurd q (by omega)⟩) | exact ⟨K54, fun q => absurd q (by omega), fun _ => pot_0 O54 rfl (by omega)⟩)⟩
                · refine y_iconst rfl ?_
                  refine y_goto rfl rfl ?_
                  refine y_pfi rfl rfl (layClW (by omega) rfl) rfl ?_
                  obtain ⟨U18, eU18⟩ : ∃ T : sS, T = uI T14 (276 + cl) 0 (Int32.ofInt 4) := ⟨_, rfl⟩
                  rw [← eU18]
                  have hHU18 : RI U18 := by rw [eU18]; exact RI_w hHT14
                  have hFU18 : FR md_rr_propertyTest__p S U18 := by rw [eU18]; exact FR.wI hFT14 (mdf_i (r := (276, 876, 0, 1)) (List.mem_of_getElem? (i := 0) rfl) (inR_i (by omega) (by omega) (by omega) (by omega)))
                  have w166 : Xi U18 (276 + cl) 0 = 4 := by rw [eU18]; exact Xi_same (by unfold rg; omega)
                  have e171 := eU18
                  have Z171_ : Xi U18 (276 + cl) 0 = (if Xi S 9 (mnV S (from_ + 1) (re7 (ty7 S) (from_ + 1)) % 256).toNat = 1 then 4 else 1) := by rw [e171, Xi_same (by unfold rg; omega)]; first | (rw [if_pos (by omega)]) | (rw [if_neg (by omega)])
                  refine y_aload_n rfl rfl ?_
                  refine y_aload_n rfl rfl ?_
                  refine y_gfr rfl rfl rfl rfl rfl (hHU18.r 899 2 895 rfl) ?_
                  refine y_gfi rfl rfl rfl rfl rfl ?_
                  have w167 : -2147483648 ≤ (Xi U18 895 10) ∧ (Xi U18 895 10) ≤ 2147483647 := Xi_rgI
                  refine y_pfi rfl rfl (layClW (by omega) rfl) rfl ?_
                  obtain ⟨U19, eU19⟩ : ∃ T : sS, T = uI U18 (276 + cl) 4 (Int32.ofInt (Xi U18 895 10)) := ⟨_, rfl⟩
                  rw [← eU19]
                  have hHU19 : RI U19 := by rw [eU19]; exact RI_w hHU18
                  have hFU19 : FR md_rr_propertyTest__p S U19 := by rw [eU19]; exact FR.wI hFU18 (mdf_i (r := (276, 876, 4, 5)) (List.mem_of_getElem? (i := 4) rfl) (inR_i (by omega) (by omega) (by omega) (by omega)))
                  have w168 : Xi U19 (276 + cl) 4 = (Xi U18 895 10) := by rw [eU19]; exact Xi_same (by unfold rg; omega)
                  have e182 := eU19
                  refine y_aload_n rfl rfl ?_
                  refine y_aload_n rfl rfl ?_
                  refine y_gfr rfl rfl rfl rfl rfl (hHU19.r 899 2 895 rfl) ?_
                  refine y_gfi rfl rfl rfl rfl rfl ?_
                  have w169 : -2147483648 ≤ (Xi U19 895 11) ∧ (Xi U19 895 11) ≤ 2147483647 := Xi_rgI
                  refine y_pfi rfl rfl (layClW (by omega) rfl) rfl ?_
                  obtain ⟨U20, eU20⟩ : ∃ T : sS, T = uI U19 (276 + cl) 5 (Int32.ofInt (Xi U19 895 11)) := ⟨_, rfl⟩
                  rw [← eU20]
                  have hHU20 : RI U20 := by rw [eU20]; exact RI_w hHU19
                  have hFU20 : FR md_rr_propertyTest__p S U20 := by rw [eU20]; exact FR.wI hFU19 (mdf_i (r := (276, 876, 5, 6)) (List.mem_of_getElem? (i := 5) rfl) (inR_i (by omega) (by omega) (by omega) (by omega)))
                  have w170 : Xi U20 (276 + cl) 5 = (Xi U19 895 11) := by rw [eU20]; exact Xi_same (by unfold rg; omega)
                  have e193 := eU20
                  have a193 : Xi U20 (276 + cl) 4 = Xi T14 895 10 := by rw [e193, Xi_ne (by omega), e182, Xi_same (by unfold rg; omega), e171, Xi_ne (by omega)]
                  have b193 : Xi U20 (276 + cl) 5 = Xi T14 895 11 := by rw [e193, Xi_same (by unfold rg; omega), e182, Xi_ne (by omega), e171, Xi_ne (by omega)]
                  have Z193_ : WHR S (is_ + 1 + ntT S is_) (Xi S 9 (mnV S (from_ + 1) (re7 (ty7 S) (from_ + 1)) % 256).toNat) (Xi U20 (276 + cl) 4) (Xi U20 (276 + cl) 5) := by rw [a193, b193]; exact Y151 (by omega)
                  have h193 : Xi U20 (276 + cl) 3 = (mnV S (from_ + 1) (re7 (ty7 S) (from_ + 1)) % 256) := by rw [e193, Xi_ne (by omega), e182, Xi_ne (by omega), e171, Xi_ne (by omega), FR_clj F151 rfl hcl, e126, Xi_ne (by omega)]; exact q54.2.2.1
                  have Z193 : WHR S (is_ + 1 + ntT S is_) (Xi S 9 (Xi U20 (276 + cl) 3).toNat) (Xi U20 (276 + cl) 4) (Xi U20 (276 + cl) 5) := by rw [h193]; exact Z193_
                  have Z171 : Xi U20 (276 + cl) 0 = (if Xi S 9 (Xi U20 (276 + cl) 3).toNat = 1 then 4 else 1) := by rw [h193, e193, Xi_ne (by omega), e182, Xi_ne (by omega)]; exact Z171_
                  refine y_iconst rfl ?_
                  refine y_ireturn rfl rfl ?_
                  have w171 : Xi U20 (276 + cl) 0 = Xi U18 (276 + cl) 0 := (show Xi U20 (276 + cl) 0 = Xi U19 (276 + cl) 0 from by rw [eU20]; exact Xi_ne (by omega)).trans ((show Xi U19 (276 + cl) 0 = Xi U18 (276 + cl) 0 from by rw [eU19]; exact Xi_ne (by omega)))
                  have w172 : Xi U20 (276 + cl) 1 = Xi U13 (276 + cl) 1 := (show Xi U20 (276 + cl) 1 = Xi U19 (276 + cl) 1 from by rw [eU20]; exact Xi_ne (by omega)).trans ( (show Xi U19 (276 + cl) 1 = Xi U18 (276 + cl) 1 from by rw [eU19]; exact Xi_ne (by omega)).trans ( (show Xi U18 (276 + cl) 1 = Xi T14 (276 + cl) 1 from by rw [eU18]; exact Xi_ne (by omega)).trans ((show Xi T14 (276 + cl) 1 = Xi U13 (276 + cl) 1 from FR_cl w147 rfl (by omega)))))
                  have w173 : Xi U20 (276 + cl) 2 = Xi T4 (276 + cl) 2 := (show Xi U20 (276 + cl) 2 = Xi U19 (276 + cl) 2 from by rw [eU20]; exact Xi_ne (by omega)).trans ( (show Xi U19 (276 + cl) 2 = Xi U18 (276 + cl) 2 from by rw [eU19]; exact Xi_ne (by omega)).trans ( (show Xi U18 (276 + cl) 2 = Xi T14 (276 + cl) 2 from by rw [eU18]; exact Xi_ne (by omega)).trans ( (show Xi T14 (276 + cl) 2 = Xi U13 (276 + cl) 2 from FR_cl w147 rfl (by omega)).trans ((show Xi U13 (276 + cl) 2 = Xi T4 (276 + cl) 2 from by rw [eU13]; exact Xi_ne (by omega))))))
                  have w174 : Xi U20 (276 + cl) 3 = Xi T4 (276 + cl) 3 := (show Xi U20 (276 + cl) 3 = Xi U19 (276 + cl) 3 from by rw [eU20]; exact Xi_ne (by omega)).trans ( (show Xi U19 (276 + cl) 3 = Xi U18 (276 + cl) 3 from by rw [eU19]; exact Xi_ne (by omega)).trans ( (show Xi U18 (276 + cl) 3 = Xi T14 (276 + cl) 3 from by rw [eU18]; exact Xi_ne (by omega)).trans ( (show Xi T14 (276 + cl) 3 = Xi U13 (276 + cl) 3 from FR_cl w147 rfl (by omega)).trans ((show Xi U13 (276 + cl) 3 = Xi T4 (276 + cl) 3 from by rw [eU13]; exact Xi_ne (by omega))))))
                  have w175 : Xi U20 (276 + cl) 4 = Xi U19 (276 + cl) 4 := (show Xi U20 (276 + cl) 4 = Xi U19 (276 + cl) 4 from by rw [eU20]; exact Xi_ne (by omega))
                  have w176 : Xi U20 (276 + cl) 6 = Xi S (276 + cl) 6 := (show Xi U20 (276 + cl) 6 = Xi U19 (276 + cl) 6 from by rw [eU20]; exact Xi_ne (by omega)).trans ( (show Xi U19 (276 + cl) 6 = Xi U18 (276 + cl) 6 from by rw [eU19]; exact Xi_ne (by omega)).trans ( (show Xi U18 (276 + cl) 6 = Xi T14 (276 + cl) 6 from by rw [eU18]; exact Xi_ne (by omega)).trans ( (show Xi T14 (276 + cl) 6 = Xi U13 (276 + cl) 6 from FR_cl w147 rfl (by omega)).trans ( (show Xi U13 (276 + cl) 6 = Xi T4 (276 + cl) 6 from by rw [eU13]; exact Xi_ne (by omega)).trans ((show Xi T4 (276 + cl) 6 = Xi S (276 + cl) 6 from FR_clj w62 rfl (by omega)))))))
                  have w177 : Xi U20 876 8 = Xi T14 876 8 := (show Xi U20 876 8 = Xi U19 876 8 from by rw [eU20]; exact Xi_ne (by omega)).trans ( (show Xi U19 876 8 = Xi U18 876 8 from by rw [eU19]; exact Xi_ne (by omega)).trans ((show Xi U18 876 8 = Xi T14 876 8 from by rw [eU18]; exact Xi_ne (by omega))))
                  have w178 : Xi U20 895 10 = Xi T14 895 10 := (show Xi U20 895 10 = Xi U19 895 10 from by rw [eU20]; exact Xi_ne (by omega)).trans ( (show Xi U19 895 10 = Xi U18 895 10 from by rw [eU19]; exact Xi_ne (by omega)).trans ((show Xi U18 895 10 = Xi T14 895 10 from by rw [eU18]; exact Xi_ne (by omega))))
                  have w179 : Xi U20 895 11 = Xi T14 895 11 := (show Xi U20 895 11 = Xi U19 895 11 from by rw [eU20]; exact Xi_ne (by omega)).trans ( (show Xi U19 895 11 = Xi U18 895 11 from by rw [eU19]; exact Xi_ne (by omega)).trans ((show Xi U18 895 11 = Xi T14 895 11 from by rw [eU18]; exact Xi_ne (by omega))))
                  exact ⟨hHU20, hFU20, _, rfl, ⟨by omega, by omega⟩, (by first | (have u := e193; exact ⟨kcl_w e193 (kcl_w e182 (kcl_w e171 (kcl_f F151 rfl (kcl_w e126 K54)))), fun _ => ⟨by omega, _, _, _, _, _, _, ⟨P54.1, by omega, by omega, by omega, Or.inr ⟨by omega, by omega, Z193, Z171⟩⟩, rfl, rfl, rfl, rfl, rfl, rfl, by omega⟩, fun q => absurd q (by omega)⟩) | (have u := X151; exact ⟨kcl_f F151 rfl (kcl_w e126 K54), fun q => absurd q (by omega), fun _ => ⟨4, _, Or.inr (Or.inr ⟨P54.1, P54.2.1, by omega, X151.1, rfl, rfl⟩), X151.2⟩⟩) | (have u := e94; exact ⟨kcl_w e94 (kcl_w e80 K54), fun _ => ⟨by omega, _, _, _, _, _, _, ⟨P54.1, by omega, by omega, by omega, Or.inl ⟨by omega, Z94, by omega, by omega, by omega⟩⟩, rfl, rfl, rfl, rfl, rfl, rfl, by omega⟩, fun q => absurd q (by omega)⟩) | exact ⟨K54, fun q => absurd q (by omega), fun _ => pot_0 O54 rfl (by omega)⟩)⟩
              · refine y_iconst rfl ?_
                have X151 := X151_ (by omega)
                refine y_ireturn rfl rfl ?_
                have w180 : Xi T14 (276 + cl) 0 = Xi S (276 + cl) 0 := (show Xi T14 (276 + cl) 0 = Xi U13 (276 + cl) 0 from FR_cl w147 rfl (by omega)).trans ( (show Xi U13 (276 + cl) 0 = Xi T4 (276 + cl) 0 from by rw [eU13]; exact Xi_ne (by omega)).trans ((show Xi T4 (276 + cl) 0 = Xi S (276 + cl) 0 from FR_clj w62 rfl (by omega))))
                have w181 : Xi T14 (276 + cl) 1 = Xi U13 (276 + cl) 1 := (show Xi T14 (276 + cl) 1 = Xi U13 (276 + cl) 1 from FR_cl w147 rfl (by omega))
                have w182 : Xi T14 (276 + cl) 2 = Xi T4 (276 + cl) 2 := (show Xi T14 (276 + cl) 2 = Xi U13 (276 + cl) 2 from FR_cl w147 rfl (by omega)).trans ((show Xi U13 (276 + cl) 2 = Xi T4 (276 + cl) 2 from by rw [eU13]; exact Xi_ne (by omega)))
                have w183 : Xi T14 (276 + cl) 3 = Xi T4 (276 + cl) 3 := (show Xi T14 (276 + cl) 3 = Xi U13 (276 + cl) 3 from FR_cl w147 rfl (by omega)).trans ((show Xi U13 (276 + cl) 3 = Xi T4 (276 + cl) 3 from by rw [eU13]; exact Xi_ne (by omega)))
                have w184 : Xi T14 (276 + cl) 4 = Xi S (276 + cl) 4 := (show Xi T14 (276 + cl) 4 = Xi U13 (276 + cl) 4 from FR_cl w147 rfl (by omega)).trans ( (show Xi U13 (276 + cl) 4 = Xi T4 (276 + cl) 4 from by rw [eU13]; exact Xi_ne (by omega)).trans ((show Xi T4 (276 + cl) 4 = Xi S (276 + cl) 4 from FR_clj w62 rfl (by omega))))
                have w185 : Xi T14 (276 + cl) 5 = Xi S (276 + cl) 5 := (show Xi T14 (276 + cl) 5 = Xi U13 (276 + cl) 5 from FR_cl w147 rfl (by omega)).trans ( (show Xi U13 (276 + cl) 5 = Xi T4 (276 + cl) 5 from by rw [eU13]; exact Xi_ne (by omega)).trans ((show Xi T4 (276 + cl) 5 = Xi S (276 + cl) 5 from FR_clj w62 rfl (by omega))))
                have w186 : Xi T14 (276 + cl) 6 = Xi S (276 + cl) 6 := (show Xi T14 (276 + cl) 6 = Xi U13 (276 + cl) 6 from FR_cl w147 rfl (by omega)).trans ( (show Xi U13 (276 + cl) 6 = Xi T4 (276 + cl) 6 from by rw [eU13]; exact Xi_ne (by omega)).trans ((show Xi T4 (276 + cl) 6 = Xi S (276 + cl) 6 from FR_clj w62 rfl (by omega))))
                exact ⟨hHT14, hFT14, _, rfl, ⟨by omega, by omega⟩, (by first | (have u := e193; exact ⟨kcl_w e193 (kcl_w e182 (kcl_w e171 (kcl_f F151 rfl (kcl_w e126 K54)))), fun _ => ⟨by omega, _, _, _, _, _, _, ⟨P54.1, by omega, by omega, by omega, Or.inr ⟨by omega, by omega, Z193, Z171⟩⟩, rfl, rfl, rfl, rfl, rfl, rfl, by omega⟩, fun q => absurd q (by omega)⟩) | (have u := X151; exact ⟨kcl_f F151 rfl (kcl_w e126 K54), fun q => absurd q (by omega), fun _ => ⟨4, _, Or.inr (Or.inr ⟨P54.1, P54.2.1, by omega, X151.1, rfl, rfl⟩), X151.2⟩⟩) | (have u := e94; exact ⟨kcl_w e94 (kcl_w e80 K54), fun _ => ⟨by omega, _, _, _, _, _, _, ⟨P54.1, by omega, by omega, by omega, Or.inl ⟨by omega, Z94, by omega, by omega, by omega⟩⟩, rfl, rfl, rfl, rfl, rfl, rfl, by omega⟩, fun q => absurd q (by omega)⟩) | exact ⟨K54, fun q => absurd q (by omega), fun _ => pot_0 O54 rfl (by omega)⟩)⟩
      · refine y_iconst rfl ?_
        refine y_ireturn rfl rfl ?_
        have w187 : Xi T4 (276 + cl) 0 = Xi S (276 + cl) 0 := (show Xi T4 (276 + cl) 0 = Xi S (276 + cl) 0 from FR_clj w62 rfl (by omega))
        have w188 : Xi T4 (276 + cl) 1 = Xi S (276 + cl) 1 := (show Xi T4 (276 + cl) 1 = Xi S (276 + cl) 1 from FR_clj w62 rfl (by omega))
        have w189 : Xi T4 (276 + cl) 4 = Xi S (276 + cl) 4 := (show Xi T4 (276 + cl) 4 = Xi S (276 + cl) 4 from FR_clj w62 rfl (by omega))
        have w190 : Xi T4 (276 + cl) 5 = Xi S (276 + cl) 5 := (show Xi T4 (276 + cl) 5 = Xi S (276 + cl) 5 from FR_clj w62 rfl (by omega))
        have w191 : Xi T4 (276 + cl) 6 = Xi S (276 + cl) 6 := (show Xi T4 (276 + cl) 6 = Xi S (276 + cl) 6 from FR_clj w62 rfl (by omega))
        have w192 : Xi T4 895 10 = Xi S 895 10 := (show Xi T4 895 10 = Xi S 895 10 from w62.x _ _ rfl)
        have w193 : Xi T4 895 11 = Xi S 895 11 := (show Xi T4 895 11 = Xi S 895 11 from w62.x _ _ rfl)
        exact ⟨hHT4, hFT4, _, rfl, ⟨by omega, by omega⟩, (by first | (have u := e193; exact ⟨kcl_w e193 (kcl_w e182 (kcl_w e171 (kcl_f F151 rfl (kcl_w e126 K54)))), fun _ => ⟨by omega, _, _, _, _, _, _, ⟨P54.1, by omega, by omega, by omega, Or.inr ⟨by omega, by omega, Z193, Z171⟩⟩, rfl, rfl, rfl, rfl, rfl, rfl, by omega⟩, fun q => absurd q (by omega)⟩) | (have u := X151; exact ⟨kcl_f F151 rfl (kcl_w e126 K54), fun q => absurd q (by omega), fun _ => ⟨4, _, Or.inr (Or.inr ⟨P54.1, P54.2.1, by omega, X151.1, rfl, rfl⟩), X151.2⟩⟩) | (have u := e94; exact ⟨kcl_w e94 (kcl_w e80 K54), fun _ => ⟨by omega, _, _, _, _, _, _, ⟨P54.1, by omega, by omega, by omega, Or.inl ⟨by omega, Z94, by omega, by omega, by omega⟩⟩, rfl, rfl, rfl, rfl, rfl, rfl, by omega⟩, fun q => absurd q (by omega)⟩) | exact ⟨K54, fun q => absurd q (by omega), fun _ => pot_0 O54 rfl (by omega)⟩)⟩
    · refine y_iconst rfl ?_
      refine y_goto rfl rfl ?_
      refine y_istore rfl rfl rfl ?_
      have N43 : 1 = numT S is_ := by unfold numT; rw [gq19]; first | (rw [if_pos (by omega)]) | (rw [if_neg (by omega)])
      refine y_aload_n rfl rfl ?_
      refine y_iload_n rfl rfl ?_
      refine y_iconst rfl ?_
      refine y_iadd rfl ?_
      refine y_iload rfl rfl ?_
      refine y_iload rfl rfl ?_
      refine y_aload_n rfl rfl ?_
      refine y_callV rfl rfl rfl (t_rr_propertyOfThing__p hH (from_ + 1) z16 1 cl ⟨by omega, by omega⟩ ⟨by omega, by omega⟩ ⟨by omega, by omega⟩ (by omega) (by first | assumption | omega) (by first | assumption | exact (CEN_FR hF rfl rfl (by assumption : CEN S))) (by first | assumption | omega) (by first | assumption | omega) _) ?_
      rintro _ T21 ⟨hHT21, w195, z194, rfl, w194, o54⟩
      have hFT21 : FR md_rr_propertyTest__p S T21 := FR.tr hF w195 rfl
      show Pl _ _ _ _ _ _ [iv z194] _ _
      have O54 : POT S T21 cl (from_ + 1) (re7 (ty7 S) (from_ + 1)) (numT S is_) (Xi S 876 7 - 1) z194 := by have u := o54; rw [← gq7] at u; rw [← N43]; exact u
      clear o54
      have K54 : KCL S T21 cl := O54.1
      have F54 := (by assumption : FR md_rr_propertyOfThing__p S T21)
      refine y_if_ne rfl rfl (by unfold rg; omega) (fun w196 => ?_) (fun w197 => ?_)
      · refine y_iload rfl rfl ?_
        have P54 := pot_1 O54 (by omega)
        have q54 := P54.2
        clear O54
        refine y_if_eq rfl rfl (by unfold rg; omega) (fun w198 => absurd w198 (by omega)) (fun w199 => ?_)
        · refine y_aload_n rfl rfl ?_
          refine y_iload rfl rfl ?_
          refine y_bipush rfl rfl ?_
          refine y_icmp_ne rfl rfl (by unfold rg; omega) (by unfold rg; omega) (fun w200 => ?_) (fun w201 => ?_)
          · refine y_iconst rfl ?_
            refine y_pfi rfl rfl (layClW (by omega) rfl) rfl ?_
            obtain ⟨U22, eU22⟩ : ∃ T : sS, T = uI T21 (276 + cl) 0 (Int32.ofInt 3) := ⟨_, rfl⟩
            rw [← eU22]
            have hHU22 : RI U22 := by rw [eU22]; exact RI_w hHT21
            have hFU22 : FR md_rr_propertyTest__p S U22 := by rw [eU22]; exact FR.wI hFT21 (mdf_i (r := (276, 876, 0, 1)) (List.mem_of_getElem? (i := 0) rfl) (inR_i (by omega) (by omega) (by omega) (by omega)))
            have w202 : Xi U22 (276 + cl) 0 = 3 := by rw [eU22]; exact Xi_same (by unfold rg; omega)
            have e80 := eU22
            have Z80 : Xi U22 (276 + cl) 0 = (if ty7 S (is_ + 1) = 51 then 2 else 3) := by rw [e80, Xi_same (by unfold rg; omega), gq19]; first | (rw [if_pos (by omega)]) | (rw [if_neg (by omega)])
            refine y_aload_n rfl rfl ?_
            refine y_aload_n rfl rfl ?_
            refine y_gfr rfl rfl rfl rfl rfl (hHU22.r 899 0 876 rfl) ?_
            refine y_iload_n rfl rfl ?_
            refine y_iconst rfl ?_
            refine y_iadd rfl ?_
            have w203 : Xi U22 (276 + cl) 1 = Xi S (276 + cl) 1 := (show Xi U22 (276 + cl) 1 = Xi T21 (276 + cl) 1 from by rw [eU22]; exact Xi_ne (by omega)).trans ((show Xi T21 (276 + cl) 1 = Xi S (276 + cl) 1 from FR_clj w195 rfl (by omega)))
            have w204 : Xi U22 (276 + cl) 2 = Xi T21 (276 + cl) 2 := (show Xi U22 (276 + cl) 2 = Xi T21 (276 + cl) 2 from by rw [eU22]; exact Xi_ne (by omega))
            have w205 : Xi U22 (276 + cl) 3 = Xi T21 (276 + cl) 3 := (show Xi U22 (276 + cl) 3 = Xi T21 (276 + cl) 3 from by rw [eU22]; exact Xi_ne (by omega))
            have w206 : Xi U22 (276 + cl) 4 = Xi S (276 + cl) 4 := (show Xi U22 (276 + cl) 4 = Xi T21 (276 + cl) 4 from by rw [eU22]; exact Xi_ne (by omega)).trans ((show Xi T21 (276 + cl) 4 = Xi S (276 + cl) 4 from FR_clj w195 rfl (by omega)))
            have w207 : Xi U22 (276 + cl) 5 = Xi S (276 + cl) 5 := (show Xi U22 (276 + cl) 5 = Xi T21 (276 + cl) 5 from by rw [eU22]; exact Xi_ne (by omega)).trans ((show Xi T21 (276 + cl) 5 = Xi S (276 + cl) 5 from FR_clj w195 rfl (by omega)))
            have w208 : Xi U22 (276 + cl) 6 = Xi S (276 + cl) 6 := (show Xi U22 (276 + cl) 6 = Xi T21 (276 + cl) 6 from by rw [eU22]; exact Xi_ne (by omega)).trans ((show Xi T21 (276 + cl) 6 = Xi S (276 + cl) 6 from FR_clj w195 rfl (by omega)))
            have w209 : Xi U22 876 7 = Xi S 876 7 := (show Xi U22 876 7 = Xi T21 876 7 from by rw [eU22]; exact Xi_ne (by omega)).trans ((show Xi T21 876 7 = Xi S 876 7 from w195.x _ _ rfl))
            refine y_callV rfl rfl rfl (t_to_valueAt__p hHU22 (is_ + 3) ⟨by omega, by omega⟩ _) ?_
            rintro _ _ ⟨rfl, z213, rfl, w213, p91⟩
            show Pl _ _ _ _ _ _ [iv z213, .ref (276 + cl)] _ _
            have k91 : z213 = Xj S 879 (is_ + 3).toNat := by have m := hnm.o (by omega); have j : Xj U22 879 (is_ + 3).toNat = Xj S 879 (is_ + 3).toNat := (hFU22.cx 879 rfl _).2; have u := p91 (by omega) (by omega) (by rw [j]; exact m.2.1) (by rw [j]; exact m.2.2); rw [j] at u; exact u
            refine y_pfi rfl rfl (layClW (by omega) rfl) rfl ?_
            obtain ⟨U23, eU23⟩ : ∃ T : sS, T = uI U22 (276 + cl) 4 (Int32.ofInt z213) := ⟨_, rfl⟩
            rw [← eU23]
            have hHU23 : RI U23 := by rw [eU23]; exact RI_w hHU22
            have hFU23 : FR md_rr_propertyTest__p S U23 := by rw [eU23]; exact FR.wI hFU22 (mdf_i (r := (276, 876, 4, 5)) (List.mem_of_getElem? (i := 4) rfl) (inR_i (by omega) (by omega) (by omega) (by omega)))
            have w214 : Xi U23 (276 + cl) 4 = z213 := by rw [eU23]; exact Xi_same (by unfold rg; omega)
            have e94 := eU23
            have Z94 : Xi U23 (276 + cl) 0 = (if ty7 S (is_ + 1) = 51 then 2 else 3) := by rw [e94, Xi_ne (by omega)]; exact Z80
            refine y_iconst rfl ?_
            refine y_ireturn rfl rfl ?_
            have w215 : Xi U23 (276 + cl) 0 = Xi U22 (276 + cl) 0 := (show Xi U23 (276 + cl) 0 = Xi U22 (276 + cl) 0 from by rw [eU23]; exact Xi_ne (by omega))
            have w216 : Xi U23 (276 + cl) 1 = Xi S (276 + cl) 1 := (show Xi U23 (276 + cl) 1 = Xi U22 (276 + cl) 1 from by rw [eU23]; exact Xi_ne (by omega)).trans ( (show Xi U22 (276 + cl) 1 = Xi T21 (276 + cl) 1 from by rw [eU22]; exact Xi_ne (by omega)).trans ((show Xi T21 (276 + cl) 1 = Xi S (276 + cl) 1 from FR_clj w195 rfl (by omega))))
            have w217 : Xi U23 (276 + cl) 2 = Xi T21 (276 + cl) 2 := (show Xi U23 (276 + cl) 2 = Xi U22 (276 + cl) 2 from by rw [eU23]; exact Xi_ne (by omega)).trans ((show Xi U22 (276 + cl) 2 = Xi T21 (276 + cl) 2 from by rw [eU22]; exact Xi_ne (by omega)))
            have w218 : Xi U23 (276 + cl) 3 = Xi T21 (276 + cl) 3 := (show Xi U23 (276 + cl) 3 = Xi U22 (276 + cl) 3 from by rw [eU23]; exact Xi_ne (by omega)).trans ((show Xi U22 (276 + cl) 3 = Xi T21 (276 + cl) 3 from by rw [eU22]; exact Xi_ne (by omega)))
            have w219 : Xi U23 (276 + cl) 5 = Xi S (276 + cl) 5 := (show Xi U23 (276 + cl) 5 = Xi U22 (276 + cl) 5 from by rw [eU23]; exact Xi_ne (by omega)).trans ( (show Xi U22 (276 + cl) 5 = Xi T21 (276 + cl) 5 from by rw [eU22]; exact Xi_ne (by omega)).trans ((show Xi T21 (276 + cl) 5 = Xi S (276 + cl) 5 from FR_clj w195 rfl (by omega))))
            have w220 : Xi U23 (276 + cl) 6 = Xi S (276 + cl) 6 := (show Xi U23 (276 + cl) 6 = Xi U22 (276 + cl) 6 from by rw [eU23]; exact Xi_ne (by omega)).trans ( (show Xi U22 (276 + cl) 6 = Xi T21 (276 + cl) 6 from by rw [eU22]; exact Xi_ne (by omega)).trans ((show Xi T21 (276 + cl) 6 = Xi S (276 + cl) 6 from FR_clj w195 rfl (by omega))))
            have w221 : Xi U23 876 8 = Xi T21 876 8 := (show Xi U23 876 8 = Xi U22 876 8 from by rw [eU23]; exact Xi_ne (by omega)).trans ((show Xi U22 876 8 = Xi T21 876 8 from by rw [eU22]; exact Xi_ne (by omega)))
            have w222 : Xi U23 895 10 = Xi S 895 10 := (show Xi U23 895 10 = Xi U22 895 10 from by rw [eU23]; exact Xi_ne (by omega)).trans ( (show Xi U22 895 10 = Xi T21 895 10 from by rw [eU22]; exact Xi_ne (by omega)).trans ((show Xi T21 895 10 = Xi S 895 10 from w195.x _ _ rfl)))
            have w223 : Xi U23 895 11 = Xi S 895 11 := (show Xi U23 895 11 = Xi U22 895 11 from by rw [eU23]; exact Xi_ne (by omega)).trans ( (show Xi U22 895 11 = Xi T21 895 11 from by rw [eU22]; exact Xi_ne (by omega)).trans ((show Xi T21 895 11 = Xi S 895 11 from w195.x _ _ rfl)))
            exact ⟨hHU23, hFU23, _, rfl, ⟨by omega, by omega⟩, (by first | (have u := e193; exact ⟨kcl_w e193 (kcl_w e182 (kcl_w e171 (kcl_f F151 rfl (kcl_w e126 K54)))), fun _ => ⟨by omega, _, _, _, _, _, _, ⟨P54.1, by omega, by omega, by omega, Or.inr ⟨by omega, by omega, Z193, Z171⟩⟩, rfl, rfl, rfl, rfl, rfl, rfl, by omega⟩, fun q => absurd q (by omega)⟩) | (have u := X151; exact ⟨kcl_f F151 rfl (kcl_w e126 K54), fun q => absurd q (by omega), fun _ => ⟨4, _, Or.inr (Or.inr ⟨P54.1, P54.2.1, by omega, X151.1, rfl, rfl⟩), X151.2⟩⟩) | (have u := e94; exact ⟨kcl_w e94 (kcl_w e80 K54), fun _ => ⟨by omega, _, _, _, _, _, _, ⟨P54.1, by omega, by omega, by omega, Or.inl ⟨by omega, Z94, by omega, by omega, by omega⟩⟩, rfl, rfl, rfl, rfl, rfl, rfl, by omega⟩, fun q => absurd q (by omega)⟩) | exact ⟨K54, fun q => absurd q (by omega), fun _ => pot_0 O54 rfl (by omega)⟩)⟩
          · exfalso; omega
      · refine y_iconst rfl ?_
        refine y_ireturn rfl rfl ?_
        have w224 : Xi T21 (276 + cl) 0 = Xi S (276 + cl) 0 := (show Xi T21 (276 + cl) 0 = Xi S (276 + cl) 0 from FR_clj w195 rfl (by omega))
        have w225 : Xi T21 (276 + cl) 1 = Xi S (276 + cl) 1 := (show Xi T21 (276 + cl) 1 = Xi S (276 + cl) 1 from FR_clj w195 rfl (by omega))
        have w226 : Xi T21 (276 + cl) 4 = Xi S (276 + cl) 4 := (show Xi T21 (276 + cl) 4 = Xi S (276 + cl) 4 from FR_clj w195 rfl (by omega))
        have w227 : Xi T21 (276 + cl) 5 = Xi S (276 + cl) 5 := (show Xi T21 (276 + cl) 5 = Xi S (276 + cl) 5 from FR_clj w195 rfl (by omega))
        have w228 : Xi T21 (276 + cl) 6 = Xi S (276 + cl) 6 := (show Xi T21 (276 + cl) 6 = Xi S (276 + cl) 6 from FR_clj w195 rfl (by omega))
        have w229 : Xi T21 895 10 = Xi S 895 10 := (show Xi T21 895 10 = Xi S 895 10 from w195.x _ _ rfl)
        have w230 : Xi T21 895 11 = Xi S 895 11 := (show Xi T21 895 11 = Xi S 895 11 from w195.x _ _ rfl)
        exact ⟨hHT21, hFT21, _, rfl, ⟨by omega, by omega⟩, (by first | (have u := e193; exact ⟨kcl_w e193 (kcl_w e182 (kcl_w e171 (kcl_f F151 rfl (kcl_w e126 K54)))), fun _ => ⟨by omega, _, _, _, _, _, _, ⟨P54.1, by omega, by omega, by omega, Or.inr ⟨by omega, by omega, Z193, Z171⟩⟩, rfl, rfl, rfl, rfl, rfl, rfl, by omega⟩, fun q => absurd q (by omega)⟩) | (have u := X151; exact ⟨kcl_f F151 rfl (kcl_w e126 K54), fun q => absurd q (by omega), fun _ => ⟨4, _, Or.inr (Or.inr ⟨P54.1, P54.2.1, by omega, X151.1, rfl, rfl⟩), X151.2⟩⟩) | (have u := e94; exact ⟨kcl_w e94 (kcl_w e80 K54), fun _ => ⟨by omega, _, _, _, _, _, _, ⟨P54.1, by omega, by omega, by omega, Or.inl ⟨by omega, Z94, by omega, by omega, by omega⟩⟩, rfl, rfl, rfl, rfl, rfl, rfl, by omega⟩, fun q => absurd q (by omega)⟩) | exact ⟨K54, fun q => absurd q (by omega), fun _ => pot_0 O54 rfl (by omega)⟩)⟩
end
