/-! SAFETY of methods: printed by wip/safe (vc.py, decl.py) -/
def md_bo_addInsert__2 : List rec := [(246, 247, 8, 9), (274, 275, 0, 100000), (275, 276, 0, 100000)]
abbrev Q_bo_addInsert__2 (S : sS) (thing : Int) (prop : Int) : pst := fun r S1 => HI S1 ∧ FR md_bo_addInsert__2 S S1 ∧ (r = none ∧ (IAD S S1 thing prop) ∧ (Xi S1 246 8 = Xi S 246 8 + 1 ∨ 1666 ≤ Xi S1 246 8))
set_option maxRecDepth 100000 in
theorem t_bo_addInsert__2 {S : sS} (hH : HI S) (thing : Int) (prop : Int) (hthing : -2 ≤ thing ∧ thing ≤ 23) (hprop : -1 ≤ prop ∧ prop ≤ 11) (d : Nat) : Mt lay0 (d + 1) m_bo_addInsert [.ref 246, iv thing, iv prop] S (Q_bo_addInsert__2 S thing prop) := by
  refine Mt_R rfl rfl ?_
  have hF : FR md_bo_addInsert__2 S S := FR.rf
  have w1 : 0 ≤ Xi S 246 8 ∧ Xi S 246 8 ≤ 1666 := hH.c _ _
  refine l_aload_n rfl rfl ?_
  refine l_gfi rfl rfl rfl rfl rfl ?_
  refine l_sipush rfl rfl ?_
  refine l_icmp_ge rfl rfl (by unfold rg; omega) (by unfold rg; omega) (fun w2 => ?_) (fun w3 => ?_)
  · refine l_return rfl rfl ?_
    have w4 : 0 ≤ Xi S 246 8 ∧ Xi S 246 8 ≤ 1666 := hH.c _ _
    exact ⟨hH, hF, rfl, (by first | exact iad_0 hH | exact iad_1 eU1 eU2 eU3 rfl (by omega) (by omega) (by unfold rg; omega) (by unfold rg; omega)), (by omega)⟩
  · refine l_aload_n rfl rfl ?_
    refine l_gfr rfl rfl rfl rfl rfl (hH.r 246 6 274 rfl) ?_
    refine l_aload_n rfl rfl ?_
    refine l_gfi rfl rfl rfl rfl rfl ?_
    refine l_iload_n rfl rfl ?_
    refine l_iastore (n := 1666) rfl rfl (by omega) (by omega) (by unfold rg; omega) ?_
    obtain ⟨U1, eU1⟩ : ∃ T : sS, T = uI S 274 (((Xi S 246 8)).toNat) (Int32.ofInt thing) := ⟨_, rfl⟩
    rw [← eU1]
    have hHU1 : HI U1 := by rw [eU1]; exact HI_w hH (show -2 ≤ thing by omega) (show thing ≤ 23 by omega)
    have hFU1 : FR md_bo_addInsert__2 S U1 := by rw [eU1]; exact FR.wI hF (mdf_i (r := (274, 275, 0, 100000)) (List.mem_of_getElem? (i := 1) rfl) (inR_i (by omega) (by omega) (by omega) (by omega)))
    have w5 : Xi U1 274 (((Xi S 246 8)).toNat) = thing := by rw [eU1]; exact Xi_same (by unfold rg; omega)
    refine l_aload_n rfl rfl ?_
    refine l_gfr rfl rfl rfl rfl rfl (hHU1.r 246 7 275 rfl) ?_
    refine l_aload_n rfl rfl ?_
    refine l_gfi rfl rfl rfl rfl rfl ?_
    have w6 : (Xi U1 246 8) = (Xi S 246 8) := (show Xi U1 246 8 = Xi S 246 8 from by rw [eU1]; exact Xi_ne (by omega))
    rw [w6]
    refine l_iload_n rfl rfl ?_
    refine l_iastore (n := 1666) rfl rfl (by omega) (by omega) (by unfold rg; omega) ?_
    obtain ⟨U2, eU2⟩ : ∃ T : sS, T = uI U1 275 (((Xi S 246 8)).toNat) (Int32.ofInt prop) := ⟨_, rfl⟩
    rw [← eU2]
    have hHU2 : HI U2 := by rw [eU2]; exact HI_w hHU1 (show -1 ≤ prop by omega) (show prop ≤ 11 by omega)
    have hFU2 : FR md_bo_addInsert__2 S U2 := by rw [eU2]; exact FR.wI hFU1 (mdf_i (r := (275, 276, 0, 100000)) (List.mem_of_getElem? (i := 2) rfl) (inR_i (by omega) (by omega) (by omega) (by omega)))
    have w7 : Xi U2 275 (((Xi S 246 8)).toNat) = prop := by rw [eU2]; exact Xi_same (by unfold rg; omega)
    refine l_aload_n rfl rfl ?_
    refine l_dup rfl rfl ?_
    refine l_gfi rfl rfl rfl rfl rfl ?_
    have w8 : (Xi U2 246 8) = (Xi S 246 8) := (show Xi U2 246 8 = Xi U1 246 8 from by rw [eU2]; exact Xi_ne (by omega)).trans ((show Xi U1 246 8 = Xi S 246 8 from by rw [eU1]; exact Xi_ne (by omega)))
    rw [w8]
    refine l_iconst rfl ?_
    refine l_iadd rfl ?_
    refine l_pfi rfl rfl rfl rfl ?_
    obtain ⟨U3, eU3⟩ : ∃ T : sS, T = uI U2 246 8 (Int32.ofInt ((Xi S 246 8) + 1)) := ⟨_, rfl⟩
    rw [← eU3]
    have hHU3 : HI U3 := by rw [eU3]; exact HI_w hHU2 (show 0 ≤ ((Xi S 246 8) + 1) by omega) (show ((Xi S 246 8) + 1) ≤ 1666 by omega)
    have hFU3 : FR md_bo_addInsert__2 S U3 := by rw [eU3]; exact FR.wI hFU2 (mdf_i (r := (246, 247, 8, 9)) (List.mem_of_getElem? (i := 0) rfl) (inR_i (by omega) (by omega) (by omega) (by omega)))
    have w9 : Xi U3 246 8 = ((Xi S 246 8) + 1) := by rw [eU3]; exact Xi_same (by unfold rg; omega)
    refine l_return rfl rfl ?_
    have w10 : 0 ≤ Xi U3 246 8 ∧ Xi U3 246 8 ≤ 1666 := hHU3.c _ _
    exact ⟨hHU3, hFU3, rfl, (by first | exact iad_0 hH | exact iad_1 eU1 eU2 eU3 rfl (by omega) (by omega) (by unfold rg; omega) (by unfold rg; omega)), (by omega)⟩
def md_rr_tryAlone : List rec := [(276, 876, 2, 3), (276, 876, 3, 4), (876, 877, 8, 9), (876, 877, 9, 10)]
abbrev Q_rr_tryAlone (S : sS) (from_ : Int) (to : Int) (cl : Nat) : pst := fun r S1 => HI S1 ∧ FR md_rr_tryAlone S S1 ∧ (∃ z : Int, r = some (iv z) ∧ (0 ≤ z ∧ z ≤ 1) ∧ (KCL S S1 cl) ∧ (z = 1 → CLok S1 (0 ≤ Xi S 895 4) cl) ∧ (z = 0 → Xi S1 876 8 ≠ 0))
set_option maxRecDepth 100000 in
theorem t_rr_tryAlone {S : sS} (hH : HI S) (from_ : Int) (to : Int) (cl : Nat) (hfrom_ : 0 ≤ from_ ∧ from_ ≤ 5130) (hto : 0 ≤ to ∧ to ≤ 5130) (hcl : cl < 600) (hL : LEX S) (hf : Xi S (276 + cl) 0 = 10) (d : Nat) : Mt lay0 (d + 3) m_rr_tryAlone [.ref 899, iv from_, iv to, .ref (276 + cl)] S (Q_rr_tryAlone S from_ to cl) := by
  refine Mt_R rfl rfl ?_
  have hF : FR md_rr_tryAlone S S := FR.rf
  have w1 : -1 ≤ Xi S 895 4 ∧ Xi S 895 4 ≤ 15 := hH.c _ _
  have C50 : ∀ (n50 : Nat) (T1 : sS) (_ : HI T1) (_ : FR md_rr_tryAlone S T1) (v4 : Int) (v6 : Int), (0 ≤ v4 ∧ v4 ≤ 5132) → (1 ≤ v6 ∧ v6 ≤ 5131) → (KCL S T1 cl) → (Xi T1 (276 + cl) 0 = 10) → (v4 ≤ v6 + 1) → (v4 ≠ 0 → CLok T1 (0 ≤ Xi S 895 4) cl) → n50 = (5132 - v6).toNat → Rl lay0 (d + 2) m_rr_tryAlone 50 [(0, .ref 899), (1, iv from_), (2, iv to), (3, .ref (276 + cl)), (4, iv v4), (6, iv v6)] [] T1 (Q_rr_tryAlone S from_ to cl) := by
    intro n50
    induction n50 using Nat.strongRecOn with
    | ind n50 ih50 =>
      intro T1 hHT1 hFT1 v4 v6 w2 w3 hk50 w4 w5 ho50 hm50
      have w6 : Xi T1 895 4 = Xi S 895 4 := hFT1.x _ _ rfl
      refine l_iload rfl rfl ?_
      refine l_iload_n rfl rfl ?_
      refine l_icmp_ge rfl rfl (by unfold rg; omega) (by unfold rg; omega) (fun w7 => ?_) (fun w8 => ?_)
      · refine l_iload rfl rfl ?_
        refine l_iconst rfl ?_
        refine l_icmp_eq rfl rfl (by unfold rg; omega) (by unfold rg; omega) (fun w9 => ?_) (fun w10 => ?_)
        · refine l_iconst rfl ?_
          refine l_goto rfl rfl ?_
          refine l_ireturn rfl rfl ?_
          have w11 : 0 ≤ Xi T1 876 8 ∧ Xi T1 876 8 ≤ 9 := hHT1.c _ _
          exact ⟨hHT1, hFT1, _, rfl, ⟨by omega, by omega⟩, (hk50), (fun q => by first | (exfalso; omega) | exact ho50 (by omega)), (fun q => by first | omega | (exfalso; omega))⟩
        · refine l_aload_n rfl rfl ?_
          refine l_gfr rfl rfl rfl rfl rfl (hHT1.r 899 0 876 rfl) ?_
          refine l_iload rfl rfl ?_
          refine l_if_ne rfl rfl (by unfold rg; omega) (fun w12 => ?_) (fun w13 => ?_)
          · refine l_bipush rfl rfl ?_
            refine l_iload_n rfl rfl ?_
            refine l_callV rfl rfl rfl (t_to_wrong hHT1 7 from_ ⟨by omega, by omega⟩ ⟨by omega, by omega⟩ _) ?_
            rintro _ T2 ⟨hHT2, w17, z16, rfl, w16, w14, w15⟩
            have hFT2 : FR md_rr_tryAlone S T2 := FR.tr hFT1 w17 rfl
            show Rl _ _ _ _ _ [iv z16] _ _
            refine l_if_eq rfl rfl (by unfold rg; omega) (fun w18 => ?_) (fun w19 => ?_)
            · refine l_iconst rfl ?_
              refine l_ireturn rfl rfl ?_
              have w20 : Xi T2 (276 + cl) 0 = Xi T1 (276 + cl) 0 := (show Xi T2 (276 + cl) 0 = Xi T1 (276 + cl) 0 from FR_cl w17 rfl (by omega))
              have w21 : 0 ≤ Xi T2 876 8 ∧ Xi T2 876 8 ≤ 9 := hHT2.c _ _
              exact ⟨hHT2, hFT2, _, rfl, ⟨by omega, by omega⟩, ((kcl_f w17 rfl hk50)), (fun q => by first | (exfalso; omega) | exact ho50 (by omega)), (fun q => by first | omega | (exfalso; omega))⟩
            · refine l_iconst rfl ?_
              refine l_goto rfl rfl ?_
              refine l_ireturn rfl rfl ?_
              have w22 : Xi T2 (276 + cl) 0 = Xi T1 (276 + cl) 0 := (show Xi T2 (276 + cl) 0 = Xi T1 (276 + cl) 0 from FR_cl w17 rfl (by omega))
              have w23 : 0 ≤ Xi T2 876 8 ∧ Xi T2 876 8 ≤ 9 := hHT2.c _ _
              exact ⟨hHT2, hFT2, _, rfl, ⟨by omega, by omega⟩, ((kcl_f w17 rfl hk50)), (fun q => by first | (exfalso; omega) | exact ho50 (by omega)), (fun q => by first | omega | (exfalso; omega))⟩
          · refine l_iconst rfl ?_
            refine l_goto rfl rfl ?_
            refine l_iload_n rfl rfl ?_
            refine l_callV rfl rfl rfl (t_to_wrong hHT1 4 from_ ⟨by omega, by omega⟩ ⟨by omega, by omega⟩ _) ?_
            rintro _ T3 ⟨hHT3, w27, z26, rfl, w26, w24, w25⟩
            have hFT3 : FR md_rr_tryAlone S T3 := FR.tr hFT1 w27 rfl
            show Rl _ _ _ _ _ [iv z26] _ _
            refine l_if_eq rfl rfl (by unfold rg; omega) (fun w28 => ?_) (fun w29 => ?_)
            · refine l_iconst rfl ?_
              refine l_ireturn rfl rfl ?_
              have w30 : Xi T3 (276 + cl) 0 = Xi T1 (276 + cl) 0 := (show Xi T3 (276 + cl) 0 = Xi T1 (276 + cl) 0 from FR_cl w27 rfl (by omega))
              have w31 : 0 ≤ Xi T3 876 8 ∧ Xi T3 876 8 ≤ 9 := hHT3.c _ _
              exact ⟨hHT3, hFT3, _, rfl, ⟨by omega, by omega⟩, ((kcl_f w27 rfl hk50)), (fun q => by first | (exfalso; omega) | exact ho50 (by omega)), (fun q => by first | omega | (exfalso; omega))⟩
            · refine l_iconst rfl ?_
              refine l_goto rfl rfl ?_
              refine l_ireturn rfl rfl ?_
              have w32 : Xi T3 (276 + cl) 0 = Xi T1 (276 + cl) 0 := (show Xi T3 (276 + cl) 0 = Xi T1 (276 + cl) 0 from FR_cl w27 rfl (by omega))
              have w33 : 0 ≤ Xi T3 876 8 ∧ Xi T3 876 8 ≤ 9 := hHT3.c _ _
              exact ⟨hHT3, hFT3, _, rfl, ⟨by omega, by omega⟩, ((kcl_f w27 rfl hk50)), (fun q => by first | (exfalso; omega) | exact ho50 (by omega)), (fun q => by first | omega | (exfalso; omega))⟩
      · refine l_aload_n rfl rfl ?_
        refine l_gfr rfl rfl rfl rfl rfl (hHT1.r 899 2 895 rfl) ?_
        refine l_bipush rfl rfl ?_
        refine l_iload_n rfl rfl ?_
        refine l_iload rfl rfl ?_
        refine l_callV rfl rfl rfl (t_me_find hHT1 8 from_ v6 ⟨by omega, by omega⟩ ⟨by omega, by omega⟩ ⟨by omega, by omega⟩ (by first | assumption | exact (LEX_FR hFT1 rfl rfl (by assumption : LEX S))) _) ?_
        rintro _ _ ⟨rfl, z37, rfl, w37, w34, w35, w36⟩
        have w38 : z37 ≠ -1 → _ := fun h => fb8 hHT1 (w34 h)
        clear w35
        show Rl _ _ _ _ _ [iv z37] _ _
        refine l_istore rfl rfl rfl ?_
        refine l_aload_n rfl rfl ?_
        refine l_gfr rfl rfl rfl rfl rfl (hHT1.r 899 2 895 rfl) ?_
        refine l_iconst rfl ?_
        refine l_iload rfl rfl ?_
        refine l_iload_n rfl rfl ?_
        refine l_callV rfl rfl rfl (t_me_find hHT1 2 v6 to ⟨by omega, by omega⟩ ⟨by omega, by omega⟩ ⟨by omega, by omega⟩ (by first | assumption | exact (LEX_FR hFT1 rfl rfl (by assumption : LEX S))) _) ?_
        rintro _ _ ⟨rfl, z42, rfl, w42, w39, w40, w41⟩
        have w43 : z42 ≠ -1 → _ := fun h => fb2 hHT1 (w39 h)
        clear w40
        show Rl _ _ _ _ _ [iv z42] _ _
        refine l_istore rfl rfl rfl ?_
        refine l_iload rfl rfl ?_
        refine l_iconst rfl ?_
        refine l_icmp_eq rfl rfl (by unfold rg; omega) (by unfold rg; omega) (fun w44 => ?_) (fun w45 => ?_)
        · refine l_iinc rfl rfl rfl rfl ?_
          refine l_goto rfl rfl ?_
          exact Rl_weak (ih50 _ (by omega) T1 hHT1 hFT1 (v4) ((v6 + 1)) (by omega) (by omega) (hk50) (by omega) (by omega) (by first | (intro q; exfalso; omega) | exact fun _ => c117 | exact fun _ => c39 | exact ho50) rfl) (And.intro rfl (And.intro rfl (And.intro rfl (And.intro rfl (And.intro rfl (And.intro rfl (True.intro)))))))
        · refine l_iload rfl rfl ?_
          refine l_iconst rfl ?_
          refine l_icmp_eq rfl rfl (by unfold rg; omega) (by unfold rg; omega) (fun w46 => ?_) (fun w47 => ?_)
          · refine l_iinc rfl rfl rfl rfl ?_
            refine l_goto rfl rfl ?_
            exact Rl_weak (ih50 _ (by omega) T1 hHT1 hFT1 (v4) ((v6 + 1)) (by omega) (by omega) (hk50) (by omega) (by omega) (by first | (intro q; exfalso; omega) | exact fun _ => c117 | exact fun _ => c39 | exact ho50) rfl) (And.intro rfl (And.intro rfl (And.intro rfl (And.intro rfl (And.intro rfl (And.intro rfl (True.intro)))))))
          · refine l_aload_n rfl rfl ?_
            refine l_gfr rfl rfl rfl rfl rfl (hHT1.r 899 1 1 rfl) ?_
            refine l_gfr rfl rfl rfl rfl rfl (hHT1.r 1 18 19 rfl) ?_
            refine l_iload rfl rfl ?_
            refine l_iaload (n := 12) rfl rfl (by omega) (by omega) (by unfold rg; omega) ?_
            have w48 : -2 ≤ (Xi T1 19 ((z37).toNat)) ∧ (Xi T1 19 ((z37).toNat)) ≤ 15 := hHT1.c _ _
            have a104 : (Xi T1 19 ((z37).toNat)) = Xi S 19 (z37).toNat := (hFT1.cx 19 rfl _).1
            have e104 : Xi T1 5 8 = Xi S 5 8 := hFT1.x 5 8 rfl
            refine l_if_lt rfl rfl (by unfold rg; omega) (fun w49 => ?_) (fun w50 => ?_)
            · refine l_iinc rfl rfl rfl rfl ?_
              refine l_goto rfl rfl ?_
              exact Rl_weak (ih50 _ (by omega) T1 hHT1 hFT1 (v4) ((v6 + 1)) (by omega) (by omega) (hk50) (by omega) (by omega) (by first | (intro q; exfalso; omega) | exact fun _ => c117 | exact fun _ => c39 | exact ho50) rfl) (And.intro rfl (And.intro rfl (And.intro rfl (And.intro rfl (And.intro rfl (And.intro rfl (True.intro)))))))
            · refine l_aload_n rfl rfl ?_
              refine l_iload rfl rfl ?_
              refine l_pfi rfl rfl (layClW (by omega) rfl) rfl ?_
              obtain ⟨U4, eU4⟩ : ∃ T : sS, T = uI T1 (276 + cl) 3 (Int32.ofInt z37) := ⟨_, rfl⟩
              rw [← eU4]
              have hHU4 : HI U4 := by rw [eU4]; exact HI_w hHT1 (by rw [lh_cl3 (by omega)]; omega) (by rw [lh_cl3 (by omega)]; omega)
              have hFU4 : FR md_rr_tryAlone S U4 := by rw [eU4]; exact FR.wI hFT1 (mdf_i (r := (276, 876, 3, 4)) (List.mem_of_getElem? (i := 1) rfl) (inR_i (by omega) (by omega) (by omega) (by omega)))
              have w51 : Xi U4 (276 + cl) 3 = z37 := by rw [eU4]; exact Xi_same (by unfold rg; omega)
              have f111_0 : Xi U4 (276 + cl) 0 = Xi T1 (276 + cl) 0 := by rw [eU4, Xi_ne (by omega)]
              refine l_aload_n rfl rfl ?_
              refine l_iload rfl rfl ?_
              refine l_pfi rfl rfl (layClW (by omega) rfl) rfl ?_
              obtain ⟨U5, eU5⟩ : ∃ T : sS, T = uI U4 (276 + cl) 2 (Int32.ofInt z42) := ⟨_, rfl⟩
              rw [← eU5]
              have hHU5 : HI U5 := by rw [eU5]; exact HI_w hHU4 (by rw [lh_cl2 (by omega)]; omega) (by rw [lh_cl2 (by omega)]; omega)
              have hFU5 : FR md_rr_tryAlone S U5 := by rw [eU5]; exact FR.wI hFU4 (mdf_i (r := (276, 876, 2, 3)) (List.mem_of_getElem? (i := 0) rfl) (inR_i (by omega) (by omega) (by omega) (by omega)))
              have w52 : Xi U5 (276 + cl) 2 = z42 := by rw [eU5]; exact Xi_same (by unfold rg; omega)
              have f117_0 : Xi U5 (276 + cl) 0 = Xi U4 (276 + cl) 0 := by rw [eU5, Xi_ne (by omega)]
              have f117_3 : Xi U5 (276 + cl) 3 = Xi U4 (276 + cl) 3 := by rw [eU5, Xi_ne (by omega)]
              have b117 : ∀ j, Xi U5 19 j = Xi S 19 j := fun j => (hFU5.cx 19 rfl j).1
              have c117 : CLok U5 (0 ≤ Xi S 895 4) cl := cl_10 (by omega) (x := z42) (by omega) (y := z37) (by omega) ⟨by omega, (by have e58 : Xi U5 5 8 = Xi S 5 8 := hFU5.x 5 8 rfl; omega)⟩ (fun _ => Or.inl (by omega)) (by rw [b117]; omega)
              refine l_iinc rfl rfl rfl rfl ?_
              refine l_iinc rfl rfl rfl rfl ?_
              refine l_goto rfl rfl ?_
              have w53 : Xi U5 (276 + cl) 0 = Xi T1 (276 + cl) 0 := (show Xi U5 (276 + cl) 0 = Xi U4 (276 + cl) 0 from by rw [eU5]; exact Xi_ne (by omega)).trans ((show Xi U4 (276 + cl) 0 = Xi T1 (276 + cl) 0 from by rw [eU4]; exact Xi_ne (by omega)))
              exact Rl_weak (ih50 _ (by omega) U5 hHU5 hFU5 ((v4 + 1)) ((v6 + 1)) (by omega) (by omega) ((kcl_w eU5 (kcl_w eU4 hk50))) (by omega) (by omega) (by first | (intro q; exfalso; omega) | exact fun _ => c117 | exact fun _ => c39 | exact ho50) rfl) (And.intro rfl (And.intro rfl (And.intro rfl (And.intro rfl (And.intro rfl (And.intro rfl (True.intro)))))))
  refine l_iconst rfl ?_
  refine l_istore rfl rfl rfl ?_
  refine l_aload_n rfl rfl ?_
  refine l_gfr rfl rfl rfl rfl rfl (hH.r 899 2 895 rfl) ?_
  refine l_bipush rfl rfl ?_
  refine l_iload_n rfl rfl ?_
  refine l_iload_n rfl rfl ?_
  refine l_callV rfl rfl rfl (t_me_find hH 8 from_ to ⟨by omega, by omega⟩ ⟨by omega, by omega⟩ ⟨by omega, by omega⟩ (by first | assumption | exact (LEX_FR hF rfl rfl (by assumption : LEX S))) _) ?_
  rintro _ _ ⟨rfl, z57, rfl, w57, w54, w55, w56⟩
  have w58 : z57 ≠ -1 → _ := fun h => fb8 hH (w54 h)
  clear w55
  show Rl _ _ _ _ _ [iv z57] _ _
  refine l_istore rfl rfl rfl ?_
  refine l_iload rfl rfl ?_
  refine l_iconst rfl ?_
  refine l_icmp_eq rfl rfl (by unfold rg; omega) (by unfold rg; omega) (fun w59 => ?_) (fun w60 => ?_)
  · refine l_iload_n rfl rfl ?_
    refine l_iconst rfl ?_
    refine l_iadd rfl ?_
    refine l_istore rfl rfl rfl ?_
    exact Rl_weak (C50 _ S hH hF (0) ((from_ + 1)) (by omega) (by omega) (KCL.rf) (by omega) (by omega) (by first | (intro q; exfalso; omega) | exact fun _ => c117 | exact fun _ => c39 | exact ho50) rfl) (And.intro rfl (And.intro rfl (And.intro rfl (And.intro rfl (And.intro rfl (And.intro rfl (True.intro)))))))
  · refine l_aload_n rfl rfl ?_
    refine l_gfr rfl rfl rfl rfl rfl (hH.r 899 1 1 rfl) ?_
    refine l_gfr rfl rfl rfl rfl rfl (hH.r 1 18 19 rfl) ?_
    refine l_iload rfl rfl ?_
    refine l_iaload (n := 12) rfl rfl (by omega) (by omega) (by unfold rg; omega) ?_
    have w61 : -2 ≤ (Xi S 19 ((z57).toNat)) ∧ (Xi S 19 ((z57).toNat)) ≤ 15 := hH.c _ _
    have a31 : (Xi S 19 ((z57).toNat)) = Xi S 19 (z57).toNat := rfl
    refine l_iconst rfl ?_
    refine l_icmp_ne rfl rfl (by unfold rg; omega) (by unfold rg; omega) (fun w62 => ?_) (fun w63 => ?_)
    · refine l_iload_n rfl rfl ?_
      refine l_iconst rfl ?_
      refine l_iadd rfl ?_
      refine l_istore rfl rfl rfl ?_
      exact Rl_weak (C50 _ S hH hF (0) ((from_ + 1)) (by omega) (by omega) (KCL.rf) (by omega) (by omega) (by first | (intro q; exfalso; omega) | exact fun _ => c117 | exact fun _ => c39 | exact ho50) rfl) (And.intro rfl (And.intro rfl (And.intro rfl (And.intro rfl (And.intro rfl (And.intro rfl (True.intro)))))))
    · refine l_aload_n rfl rfl ?_
      refine l_iload rfl rfl ?_
      refine l_pfi rfl rfl (layClW (by omega) rfl) rfl ?_
      obtain ⟨U6, eU6⟩ : ∃ T : sS, T = uI S (276 + cl) 3 (Int32.ofInt z57) := ⟨_, rfl⟩
      rw [← eU6]
      have hHU6 : HI U6 := by rw [eU6]; exact HI_w hH (by rw [lh_cl3 (by omega)]; omega) (by rw [lh_cl3 (by omega)]; omega)
      have hFU6 : FR md_rr_tryAlone S U6 := by rw [eU6]; exact FR.wI hF (mdf_i (r := (276, 876, 3, 4)) (List.mem_of_getElem? (i := 1) rfl) (inR_i (by omega) (by omega) (by omega) (by omega)))
      have w64 : Xi U6 (276 + cl) 3 = z57 := by rw [eU6]; exact Xi_same (by unfold rg; omega)
      have f39_0 : Xi U6 (276 + cl) 0 = Xi S (276 + cl) 0 := by rw [eU6, Xi_ne (by omega)]
      have b39 : ∀ j, Xi U6 19 j = Xi S 19 j := fun j => (hFU6.cx 19 rfl j).1
      have c39 : CLok U6 (0 ≤ Xi S 895 4) cl := cl_10 (by omega) (x := Xi U6 (276 + cl) 2) rfl (y := z57) (by omega) ⟨by omega, (by have e58 : Xi U6 5 8 = Xi S 5 8 := hFU6.x 5 8 rfl; omega)⟩ (by rw [b39]; intro q; omega) (by rw [b39]; omega)
      refine l_iinc rfl rfl rfl rfl ?_
      refine l_iload_n rfl rfl ?_
      refine l_iconst rfl ?_
      refine l_iadd rfl ?_
      refine l_istore rfl rfl rfl ?_
      have w65 : Xi U6 (276 + cl) 0 = Xi S (276 + cl) 0 := (show Xi U6 (276 + cl) 0 = Xi S (276 + cl) 0 from by rw [eU6]; exact Xi_ne (by omega))
      exact Rl_weak (C50 _ U6 hHU6 hFU6 ((0 + 1)) ((from_ + 1)) (by omega) (by omega) ((kcl_w eU6 KCL.rf)) (by omega) (by omega) (by first | (intro q; exfalso; omega) | exact fun _ => c117 | exact fun _ => c39 | exact ho50) rfl) (And.intro rfl (And.intro rfl (And.intro rfl (And.intro rfl (And.intro rfl (And.intro rfl (True.intro)))))))
def md_rr_tryOn : List rec := [(276, 876, 2, 3), (276, 876, 3, 4), (876, 877, 8, 9), (876, 877, 9, 10), (895, 896, 5, 6), (895, 896, 6, 7), (895, 896, 7, 8)]
abbrev Q_rr_tryOn (S : sS) (from_ : Int) (behind : Int) (to : Int) (cl : Nat) : pst := fun r S1 => HI S1 ∧ FR md_rr_tryOn S S1 ∧ (∃ z : Int, r = some (iv z) ∧ (0 ≤ z ∧ z ≤ 1) ∧ (KCL S S1 cl) ∧ (z = 1 → CLok S1 (0 ≤ Xi S 895 4) cl) ∧ (z = 0 → Xi S1 876 8 ≠ 0))
set_option maxRecDepth 100000 in
theorem t_rr_tryOn {S : sS} (hH : HI S) (from_ : Int) (behind : Int) (to : Int) (cl : Nat) (hfrom_ : 0 ≤ from_ ∧ from_ ≤ 5130) (hbehind : 0 ≤ behind ∧ behind ≤ 5140) (hto : 0 ≤ to ∧ to ≤ 5140) (hcl : cl < 600) (hL : LEX S) (hf : Xi S (276 + cl) 0 = 10) (d : Nat) : Mt lay0 (d + 3) m_rr_tryOn [.ref 899, iv from_, iv behind, iv to, .ref (276 + cl)] S (Q_rr_tryOn S from_ behind to cl) := by
  refine Mt_R rfl rfl ?_
  have hF : FR md_rr_tryOn S S := FR.rf
  have w1 : -1 ≤ Xi S 895 4 ∧ Xi S 895 4 ≤ 15 := hH.c _ _
  refine l_aload rfl rfl ?_
  refine l_aload_n rfl rfl ?_
  refine l_gfr rfl rfl rfl rfl rfl (hH.r 899 2 895 rfl) ?_
  refine l_bipush rfl rfl ?_
  refine l_iload_n rfl rfl ?_
  refine l_iload_n rfl rfl ?_
  have w2 : -1 ≤ Xi S 895 4 ∧ Xi S 895 4 ≤ 15 := hH.c _ _
  refine l_callV rfl rfl rfl (t_me_find hH 8 from_ behind ⟨by omega, by omega⟩ ⟨by omega, by omega⟩ ⟨by omega, by omega⟩ (by first | assumption | exact (LEX_FR hF rfl rfl (by assumption : LEX S))) _) ?_
  rintro _ _ ⟨rfl, z6, rfl, w6, w3, w4, w5⟩
  have w7 : z6 ≠ -1 → _ := fun h => fb8 hH (w3 h)
  clear w4
  show Rl _ _ _ _ _ [iv z6, .ref (276 + cl)] _ _
  refine l_pfi rfl rfl (layClW (by omega) rfl) rfl ?_
  obtain ⟨U1, eU1⟩ : ∃ T : sS, T = uI S (276 + cl) 3 (Int32.ofInt z6) := ⟨_, rfl⟩
  rw [← eU1]
  have hHU1 : HI U1 := by rw [eU1]; exact HI_w hH (by rw [lh_cl3 (by omega)]; omega) (by rw [lh_cl3 (by omega)]; omega)
  have hFU1 : FR md_rr_tryOn S U1 := by rw [eU1]; exact FR.wI hF (mdf_i (r := (276, 876, 3, 4)) (List.mem_of_getElem? (i := 1) rfl) (inR_i (by omega) (by omega) (by omega) (by omega)))
  have w8 : Xi U1 (276 + cl) 3 = z6 := by rw [eU1]; exact Xi_same (by unfold rg; omega)
  have f13_0 : Xi U1 (276 + cl) 0 = Xi S (276 + cl) 0 := by rw [eU1, Xi_ne (by omega)]
  refine l_aload rfl rfl ?_
  refine l_gfi rfl rfl rfl (layCl (by omega)) rfl ?_
  refine l_iconst rfl ?_
  refine l_icmp_eq rfl rfl (by unfold rg; omega) (by unfold rg; omega) (fun w9 => ?_) (fun w10 => ?_)
  · refine l_aload_n rfl rfl ?_
    refine l_gfr rfl rfl rfl rfl rfl (hHU1.r 899 0 876 rfl) ?_
    refine l_iconst rfl ?_
    refine l_iload_n rfl rfl ?_
    have w11 : Xi U1 (276 + cl) 0 = Xi S (276 + cl) 0 := (show Xi U1 (276 + cl) 0 = Xi S (276 + cl) 0 from by rw [eU1]; exact Xi_ne (by omega))
    have w12 : Xi U1 (276 + cl) 2 = Xi S (276 + cl) 2 := (show Xi U1 (276 + cl) 2 = Xi S (276 + cl) 2 from by rw [eU1]; exact Xi_ne (by omega))
    have w13 : Xi U1 895 4 = Xi S 895 4 := (show Xi U1 895 4 = Xi S 895 4 from by rw [eU1]; exact Xi_ne (by omega))
    have w14 : -1 ≤ Xi S 895 4 ∧ Xi S 895 4 ≤ 15 := hH.c _ _
    refine l_callV rfl rfl rfl (t_to_wrong hHU1 4 from_ ⟨by omega, by omega⟩ ⟨by omega, by omega⟩ _) ?_
    rintro _ T2 ⟨hHT2, w18, z17, rfl, w17, w15, w16⟩
    have hFT2 : FR md_rr_tryOn S T2 := FR.tr hFU1 w18 rfl
    show Rl _ _ _ _ _ [iv z17] _ _
    refine l_ireturn rfl (retI_z (by omega)) ?_
    have w19 : Xi T2 (276 + cl) 0 = Xi S (276 + cl) 0 := (show Xi T2 (276 + cl) 0 = Xi U1 (276 + cl) 0 from FR_cl w18 rfl (by omega)).trans ((show Xi U1 (276 + cl) 0 = Xi S (276 + cl) 0 from by rw [eU1]; exact Xi_ne (by omega)))
    have w20 : Xi T2 (276 + cl) 2 = Xi S (276 + cl) 2 := (show Xi T2 (276 + cl) 2 = Xi U1 (276 + cl) 2 from FR_cl w18 rfl (by omega)).trans ((show Xi U1 (276 + cl) 2 = Xi S (276 + cl) 2 from by rw [eU1]; exact Xi_ne (by omega)))
    have w21 : Xi T2 (276 + cl) 3 = Xi U1 (276 + cl) 3 := (show Xi T2 (276 + cl) 3 = Xi U1 (276 + cl) 3 from FR_cl w18 rfl (by omega))
    have w22 : 0 ≤ Xi T2 876 8 ∧ Xi T2 876 8 ≤ 9 := hHT2.c _ _
    have w23 : Xi T2 895 4 = Xi S 895 4 := (show Xi T2 895 4 = Xi U1 895 4 from w18.x _ _ rfl).trans ((show Xi U1 895 4 = Xi S 895 4 from by rw [eU1]; exact Xi_ne (by omega)))
    have w24 : -1 ≤ Xi S 895 4 ∧ Xi S 895 4 ≤ 15 := hH.c _ _
    exact ⟨hHT2, hFT2, _, rfl, ⟨by omega, by omega⟩, ((kcl_f w18 rfl (kcl_w eU1 KCL.rf))), (fun q => by first | (exfalso; omega) | exact cl_10 (by omega) (x := Xi _ 895 5) (by omega) (y := Xi T2 (276 + cl) 3) rfl ⟨by omega, (by have e58 : Xi T2 5 8 = Xi S 5 8 := hFT2.x 5 8 rfl; omega)⟩ (fun _ => w57 (by omega)) (by rw [b70]; omega)), (fun q => by first | omega | (exfalso; omega))⟩
  · refine l_aload_n rfl rfl ?_
    refine l_gfr rfl rfl rfl rfl rfl (hHU1.r 899 1 1 rfl) ?_
    refine l_gfr rfl rfl rfl rfl rfl (hHU1.r 1 18 19 rfl) ?_
    refine l_aload rfl rfl ?_
    refine l_gfi rfl rfl rfl (layCl (by omega)) rfl ?_
    refine l_iaload (n := 12) rfl rfl (by omega) (by omega) (by unfold rg; omega) ?_
    have w25 : -2 ≤ (Xi U1 19 (((Xi U1 (276 + cl) 3)).toNat)) ∧ (Xi U1 19 (((Xi U1 (276 + cl) 3)).toNat)) ≤ 15 := hHU1.c _ _
    have a37 : (Xi U1 19 (((Xi U1 (276 + cl) 3)).toNat)) = Xi S 19 (Xi U1 (276 + cl) 3).toNat := (hFU1.cx 19 rfl _).1
    have e37 : Xi U1 5 8 = Xi S 5 8 := hFU1.x 5 8 rfl
    refine l_if_ge rfl rfl (by unfold rg; omega) (fun w26 => ?_) (fun w27 => ?_)
    · refine l_aload_n rfl rfl ?_
      refine l_gfr rfl rfl rfl rfl rfl (hHU1.r 899 2 895 rfl) ?_
      refine l_iload_n rfl rfl ?_
      refine l_iload_n rfl rfl ?_
      have w28 : Xi U1 (276 + cl) 0 = Xi S (276 + cl) 0 := (show Xi U1 (276 + cl) 0 = Xi S (276 + cl) 0 from by rw [eU1]; exact Xi_ne (by omega))
      have w29 : Xi U1 (276 + cl) 2 = Xi S (276 + cl) 2 := (show Xi U1 (276 + cl) 2 = Xi S (276 + cl) 2 from by rw [eU1]; exact Xi_ne (by omega))
      have w30 : Xi U1 895 4 = Xi S 895 4 := (show Xi U1 895 4 = Xi S 895 4 from by rw [eU1]; exact Xi_ne (by omega))
      have w31 : -1 ≤ Xi S 895 4 ∧ Xi S 895 4 ≤ 15 := hH.c _ _
      refine l_callV rfl rfl rfl (t_me_readThing hHU1 behind to ⟨by omega, by omega⟩ ⟨by omega, by omega⟩ (by first | assumption | exact (LEX_FR hFU1 rfl rfl (by assumption : LEX S))) _) ?_
      rintro _ T3 ⟨hHT3, w37, z36, rfl, w36, w32, w33, w34, w35⟩
      have hFT3 : FR md_rr_tryOn S T3 := FR.tr hFU1 w37 rfl
      show Rl _ _ _ _ _ [iv z36] _ _
      have w57 : Xi T3 895 5 ≠ -1 → WHO (0 ≤ Xi S 895 4) (Xi T3 895 5) := fun q => who_of q (hHT3.c 895 5).1 (fun e => by have t := (by assumption : Xi T3 895 5 = -2 → 0 ≤ Xi U1 895 4) e; omega)
      have f57_3 : Xi T3 (276 + cl) 3 = Xi U1 (276 + cl) 3 := cl_keep (by assumption : FR md_me_readThing U1 T3) rfl (by omega) 3
      have f57_0 : Xi T3 (276 + cl) 0 = Xi U1 (276 + cl) 0 := cl_keep (by assumption : FR md_me_readThing U1 T3) rfl (by omega) 0
      have a57 : 0 ≤ Xi S 19 (Xi T3 (276 + cl) 3).toNat := by rw [f57_3]; omega
      refine l_pop rfl rfl ?_
      refine l_aload rfl rfl ?_
      refine l_aload_n rfl rfl ?_
      refine l_gfr rfl rfl rfl rfl rfl (hHT3.r 899 2 895 rfl) ?_
      refine l_gfi rfl rfl rfl rfl rfl ?_
      have w38 : -2 ≤ (Xi T3 895 5) ∧ (Xi T3 895 5) ≤ 23 := hHT3.c _ _
      refine l_pfi rfl rfl (layClW (by omega) rfl) rfl ?_
      obtain ⟨U4, eU4⟩ : ∃ T : sS, T = uI T3 (276 + cl) 2 (Int32.ofInt (Xi T3 895 5)) := ⟨_, rfl⟩
      rw [← eU4]
      have hHU4 : HI U4 := by rw [eU4]; exact HI_w hHT3 (by rw [lh_cl2 (by omega)]; omega) (by rw [lh_cl2 (by omega)]; omega)
      have hFU4 : FR md_rr_tryOn S U4 := by rw [eU4]; exact FR.wI hFT3 (mdf_i (r := (276, 876, 2, 3)) (List.mem_of_getElem? (i := 0) rfl) (inR_i (by omega) (by omega) (by omega) (by omega)))
      have w39 : Xi U4 (276 + cl) 2 = (Xi T3 895 5) := by rw [eU4]; exact Xi_same (by unfold rg; omega)
      have f70_0 : Xi U4 (276 + cl) 0 = Xi T3 (276 + cl) 0 := by rw [eU4, Xi_ne (by omega)]
      have f70_3 : Xi U4 (276 + cl) 3 = Xi T3 (276 + cl) 3 := by rw [eU4, Xi_ne (by omega)]
      have y70 : Xi U4 895 5 = Xi T3 895 5 := by rw [eU4, Xi_ne (by omega)]
      have a70 : 0 ≤ Xi S 19 (Xi U4 (276 + cl) 3).toNat := by rw [f70_3]; exact a57
      have b70 : ∀ j, Xi U4 19 j = Xi S 19 j := fun j => (hFU4.cx 19 rfl j).1
      refine l_aload_n rfl rfl ?_
      refine l_gfr rfl rfl rfl rfl rfl (hHU4.r 899 2 895 rfl) ?_
      refine l_gfi rfl rfl rfl rfl rfl ?_
      have w40 : (Xi U4 895 5) = (Xi T3 895 5) := (show Xi U4 895 5 = Xi T3 895 5 from by rw [eU4]; exact Xi_ne (by omega))
      rw [w40]
      refine l_iconst rfl ?_
      refine l_icmp_ne rfl rfl (by unfold rg; omega) (by unfold rg; omega) (fun w41 => ?_) (fun w42 => ?_)
      · refine l_iconst rfl ?_
        refine l_goto rfl rfl ?_
        refine l_ireturn rfl rfl ?_
        have w43 : Xi U4 (276 + cl) 0 = Xi S (276 + cl) 0 := (show Xi U4 (276 + cl) 0 = Xi T3 (276 + cl) 0 from by rw [eU4]; exact Xi_ne (by omega)).trans ( (show Xi T3 (276 + cl) 0 = Xi U1 (276 + cl) 0 from FR_cl w37 rfl (by omega)).trans ((show Xi U1 (276 + cl) 0 = Xi S (276 + cl) 0 from by rw [eU1]; exact Xi_ne (by omega))))
        have w44 : Xi U4 (276 + cl) 3 = Xi U1 (276 + cl) 3 := (show Xi U4 (276 + cl) 3 = Xi T3 (276 + cl) 3 from by rw [eU4]; exact Xi_ne (by omega)).trans ((show Xi T3 (276 + cl) 3 = Xi U1 (276 + cl) 3 from FR_cl w37 rfl (by omega)))
        have w45 : Xi U4 876 8 = Xi S 876 8 := (show Xi U4 876 8 = Xi T3 876 8 from by rw [eU4]; exact Xi_ne (by omega)).trans ( (show Xi T3 876 8 = Xi U1 876 8 from w37.x _ _ rfl).trans ((show Xi U1 876 8 = Xi S 876 8 from by rw [eU1]; exact Xi_ne (by omega))))
        have w46 : 0 ≤ Xi S 876 8 ∧ Xi S 876 8 ≤ 9 := hH.c _ _
        have w47 : Xi U4 895 4 = Xi S 895 4 := (show Xi U4 895 4 = Xi T3 895 4 from by rw [eU4]; exact Xi_ne (by omega)).trans ( (show Xi T3 895 4 = Xi U1 895 4 from w37.x _ _ rfl).trans ((show Xi U1 895 4 = Xi S 895 4 from by rw [eU1]; exact Xi_ne (by omega))))
        have w48 : -1 ≤ Xi S 895 4 ∧ Xi S 895 4 ≤ 15 := hH.c _ _
        exact ⟨hHU4, hFU4, _, rfl, ⟨by omega, by omega⟩, ((kcl_w eU4 (kcl_f w37 rfl (kcl_w eU1 KCL.rf)))), (fun q => by first | (exfalso; omega) | exact cl_10 (by omega) (x := Xi _ 895 5) (by omega) (y := Xi U4 (276 + cl) 3) rfl ⟨by omega, (by have e58 : Xi U4 5 8 = Xi S 5 8 := hFU4.x 5 8 rfl; omega)⟩ (fun _ => w57 (by omega)) (by rw [b70]; omega)), (fun q => by first | omega | (exfalso; omega))⟩
      · refine l_aload_n rfl rfl ?_
        refine l_gfr rfl rfl rfl rfl rfl (hHU4.r 899 0 876 rfl) ?_
        refine l_iconst rfl ?_
        refine l_aload_n rfl rfl ?_
        refine l_gfr rfl rfl rfl rfl rfl (hHU4.r 899 2 895 rfl) ?_
        refine l_gfi rfl rfl rfl rfl rfl ?_
        have w49 : -2147483648 ≤ (Xi U4 895 7) ∧ (Xi U4 895 7) ≤ 2147483647 := Xi_rgI
        have w50 : Xi U4 (276 + cl) 0 = Xi S (276 + cl) 0 := (show Xi U4 (276 + cl) 0 = Xi T3 (276 + cl) 0 from by rw [eU4]; exact Xi_ne (by omega)).trans ( (show Xi T3 (276 + cl) 0 = Xi U1 (276 + cl) 0 from FR_cl w37 rfl (by omega)).trans ((show Xi U1 (276 + cl) 0 = Xi S (276 + cl) 0 from by rw [eU1]; exact Xi_ne (by omega))))
        have w51 : Xi U4 (276 + cl) 3 = Xi U1 (276 + cl) 3 := (show Xi U4 (276 + cl) 3 = Xi T3 (276 + cl) 3 from by rw [eU4]; exact Xi_ne (by omega)).trans ((show Xi T3 (276 + cl) 3 = Xi U1 (276 + cl) 3 from FR_cl w37 rfl (by omega)))
        have w52 : Xi U4 895 4 = Xi S 895 4 := (show Xi U4 895 4 = Xi T3 895 4 from by rw [eU4]; exact Xi_ne (by omega)).trans ( (show Xi T3 895 4 = Xi U1 895 4 from w37.x _ _ rfl).trans ((show Xi U1 895 4 = Xi S 895 4 from by rw [eU1]; exact Xi_ne (by omega))))
        have w53 : -1 ≤ Xi S 895 4 ∧ Xi S 895 4 ≤ 15 := hH.c _ _
        refine l_callV rfl rfl rfl (t_to_wrong hHU4 4 (Xi U4 895 7) ⟨by omega, by omega⟩ ⟨by omega, by omega⟩ _) ?_
        rintro _ T5 ⟨hHT5, w57, z56, rfl, w56, w54, w55⟩
        have hFT5 : FR md_rr_tryOn S T5 := FR.tr hFU4 w57 rfl
        show Rl _ _ _ _ _ [iv z56] _ _
        refine l_if_eq rfl rfl (by unfold rg; omega) (fun w58 => ?_) (fun w59 => ?_)
        · refine l_iconst rfl ?_
          refine l_ireturn rfl rfl ?_
          have w60 : Xi T5 (276 + cl) 0 = Xi S (276 + cl) 0 := (show Xi T5 (276 + cl) 0 = Xi U4 (276 + cl) 0 from FR_cl w57 rfl (by omega)).trans ( (show Xi U4 (276 + cl) 0 = Xi T3 (276 + cl) 0 from by rw [eU4]; exact Xi_ne (by omega)).trans ( (show Xi T3 (276 + cl) 0 = Xi U1 (276 + cl) 0 from FR_cl w37 rfl (by omega)).trans ((show Xi U1 (276 + cl) 0 = Xi S (276 + cl) 0 from by rw [eU1]; exact Xi_ne (by omega)))))
          have w61 : Xi T5 (276 + cl) 2 = Xi U4 (276 + cl) 2 := (show Xi T5 (276 + cl) 2 = Xi U4 (276 + cl) 2 from FR_cl w57 rfl (by omega))
          have w62 : Xi T5 (276 + cl) 3 = Xi U1 (276 + cl) 3 := (show Xi T5 (276 + cl) 3 = Xi U4 (276 + cl) 3 from FR_cl w57 rfl (by omega)).trans ( (show Xi U4 (276 + cl) 3 = Xi T3 (276 + cl) 3 from by rw [eU4]; exact Xi_ne (by omega)).trans ((show Xi T3 (276 + cl) 3 = Xi U1 (276 + cl) 3 from FR_cl w37 rfl (by omega))))
          have w63 : 0 ≤ Xi T5 876 8 ∧ Xi T5 876 8 ≤ 9 := hHT5.c _ _
          have w64 : Xi T5 895 4 = Xi S 895 4 := (show Xi T5 895 4 = Xi U4 895 4 from w57.x _ _ rfl).trans ( (show Xi U4 895 4 = Xi T3 895 4 from by rw [eU4]; exact Xi_ne (by omega)).trans ( (show Xi T3 895 4 = Xi U1 895 4 from w37.x _ _ rfl).trans ((show Xi U1 895 4 = Xi S 895 4 from by rw [eU1]; exact Xi_ne (by omega)))))
          have w65 : -1 ≤ Xi S 895 4 ∧ Xi S 895 4 ≤ 15 := hH.c _ _
          exact ⟨hHT5, hFT5, _, rfl, ⟨by omega, by omega⟩, ((kcl_f w57 rfl (kcl_w eU4 (kcl_f w37 rfl (kcl_w eU1 KCL.rf))))), (fun q => by first | (exfalso; omega) | exact cl_10 (by omega) (x := Xi _ 895 5) (by omega) (y := Xi T5 (276 + cl) 3) rfl ⟨by omega, (by have e58 : Xi T5 5 8 = Xi S 5 8 := hFT5.x 5 8 rfl; omega)⟩ (fun _ => w57 (by omega)) (by rw [b70]; omega)), (fun q => by first | omega | (exfalso; omega))⟩
        · refine l_iconst rfl ?_
          refine l_goto rfl rfl ?_
          refine l_ireturn rfl rfl ?_
          have w66 : Xi T5 (276 + cl) 0 = Xi S (276 + cl) 0 := (show Xi T5 (276 + cl) 0 = Xi U4 (276 + cl) 0 from FR_cl w57 rfl (by omega)).trans ( (show Xi U4 (276 + cl) 0 = Xi T3 (276 + cl) 0 from by rw [eU4]; exact Xi_ne (by omega)).trans ( (show Xi T3 (276 + cl) 0 = Xi U1 (276 + cl) 0 from FR_cl w37 rfl (by omega)).trans ((show Xi U1 (276 + cl) 0 = Xi S (276 + cl) 0 from by rw [eU1]; exact Xi_ne (by omega)))))
          have w67 : Xi T5 (276 + cl) 2 = Xi U4 (276 + cl) 2 := (show Xi T5 (276 + cl) 2 = Xi U4 (276 + cl) 2 from FR_cl w57 rfl (by omega))
          have w68 : Xi T5 (276 + cl) 3 = Xi U1 (276 + cl) 3 := (show Xi T5 (276 + cl) 3 = Xi U4 (276 + cl) 3 from FR_cl w57 rfl (by omega)).trans ( (show Xi U4 (276 + cl) 3 = Xi T3 (276 + cl) 3 from by rw [eU4]; exact Xi_ne (by omega)).trans ((show Xi T3 (276 + cl) 3 = Xi U1 (276 + cl) 3 from FR_cl w37 rfl (by omega))))
          have w69 : 0 ≤ Xi T5 876 8 ∧ Xi T5 876 8 ≤ 9 := hHT5.c _ _
          have w70 : Xi T5 895 4 = Xi S 895 4 := (show Xi T5 895 4 = Xi U4 895 4 from w57.x _ _ rfl).trans ( (show Xi U4 895 4 = Xi T3 895 4 from by rw [eU4]; exact Xi_ne (by omega)).trans ( (show Xi T3 895 4 = Xi U1 895 4 from w37.x _ _ rfl).trans ((show Xi U1 895 4 = Xi S 895 4 from by rw [eU1]; exact Xi_ne (by omega)))))
          have w71 : -1 ≤ Xi S 895 4 ∧ Xi S 895 4 ≤ 15 := hH.c _ _
          exact ⟨hHT5, hFT5, _, rfl, ⟨by omega, by omega⟩, ((kcl_f w57 rfl (kcl_w eU4 (kcl_f w37 rfl (kcl_w eU1 KCL.rf))))), (fun q => by first | (exfalso; omega) | exact cl_10 (by omega) (x := Xi _ 895 5) (by omega) (y := Xi T5 (276 + cl) 3) rfl ⟨by omega, (by have e58 : Xi T5 5 8 = Xi S 5 8 := hFT5.x 5 8 rfl; omega)⟩ (fun _ => w57 (by omega)) (by rw [b70]; omega)), (fun q => by first | omega | (exfalso; omega))⟩
    · refine l_aload_n rfl rfl ?_
      refine l_gfr rfl rfl rfl rfl rfl (hHU1.r 899 0 876 rfl) ?_
      refine l_iconst rfl ?_
      refine l_iload_n rfl rfl ?_
      have w72 : Xi U1 (276 + cl) 0 = Xi S (276 + cl) 0 := (show Xi U1 (276 + cl) 0 = Xi S (276 + cl) 0 from by rw [eU1]; exact Xi_ne (by omega))
      have w73 : Xi U1 (276 + cl) 2 = Xi S (276 + cl) 2 := (show Xi U1 (276 + cl) 2 = Xi S (276 + cl) 2 from by rw [eU1]; exact Xi_ne (by omega))
      have w74 : Xi U1 895 4 = Xi S 895 4 := (show Xi U1 895 4 = Xi S 895 4 from by rw [eU1]; exact Xi_ne (by omega))
      have w75 : -1 ≤ Xi S 895 4 ∧ Xi S 895 4 ≤ 15 := hH.c _ _
      refine l_callV rfl rfl rfl (t_to_wrong hHU1 4 from_ ⟨by omega, by omega⟩ ⟨by omega, by omega⟩ _) ?_
      rintro _ T6 ⟨hHT6, w79, z78, rfl, w78, w76, w77⟩
      have hFT6 : FR md_rr_tryOn S T6 := FR.tr hFU1 w79 rfl
      show Rl _ _ _ _ _ [iv z78] _ _
      refine l_ireturn rfl (retI_z (by omega)) ?_
      have w80 : Xi T6 (276 + cl) 0 = Xi S (276 + cl) 0 := (show Xi T6 (276 + cl) 0 = Xi U1 (276 + cl) 0 from FR_cl w79 rfl (by omega)).trans ((show Xi U1 (276 + cl) 0 = Xi S (276 + cl) 0 from by rw [eU1]; exact Xi_ne (by omega)))
      have w81 : Xi T6 (276 + cl) 2 = Xi S (276 + cl) 2 := (show Xi T6 (276 + cl) 2 = Xi U1 (276 + cl) 2 from FR_cl w79 rfl (by omega)).trans ((show Xi U1 (276 + cl) 2 = Xi S (276 + cl) 2 from by rw [eU1]; exact Xi_ne (by omega)))
      have w82 : Xi T6 (276 + cl) 3 = Xi U1 (276 + cl) 3 := (show Xi T6 (276 + cl) 3 = Xi U1 (276 + cl) 3 from FR_cl w79 rfl (by omega))
      have w83 : 0 ≤ Xi T6 876 8 ∧ Xi T6 876 8 ≤ 9 := hHT6.c _ _
      have w84 : Xi T6 895 4 = Xi S 895 4 := (show Xi T6 895 4 = Xi U1 895 4 from w79.x _ _ rfl).trans ((show Xi U1 895 4 = Xi S 895 4 from by rw [eU1]; exact Xi_ne (by omega)))
      have w85 : -1 ≤ Xi S 895 4 ∧ Xi S 895 4 ≤ 15 := hH.c _ _
      exact ⟨hHT6, hFT6, _, rfl, ⟨by omega, by omega⟩, ((kcl_f w79 rfl (kcl_w eU1 KCL.rf))), (fun q => by first | (exfalso; omega) | exact cl_10 (by omega) (x := Xi _ 895 5) (by omega) (y := Xi T6 (276 + cl) 3) rfl ⟨by omega, (by have e58 : Xi T6 5 8 = Xi S 5 8 := hFT6.x 5 8 rfl; omega)⟩ (fun _ => w57 (by omega)) (by rw [b70]; omega)), (fun q => by first | omega | (exfalso; omega))⟩

