/-! SAFETY of methods: printed by wip/safe (vc.py, decl.py) -/
def md_to_takeInside : List rec := [(876, 877, 7, 8), (877, 878, 0, 100000), (878, 879, 0, 100000), (879, 880, 0, 100000)]
abbrev Q_to_takeInside (S : sS) (ts : Nat) (from_ : Int) (to : Int) : pst := fun r S1 => HI S1 ∧ FR md_to_takeInside S S1 ∧ (∃ z : Int, r = some (iv z) ∧ (-1 ≤ z ∧ z ≤ 5002) ∧ (TOK S1) ∧ (z = -1 ∨ z = Xi S 876 6) ∧ (Xi S 876 6 ≤ Xi S1 876 7 ∧ Xi S1 876 7 ≤ 5125))
set_option maxRecDepth 100000 in
theorem t_to_takeInside {S : sS} (hH : HI S) (ts : Nat) (from_ : Int) (to : Int) (hfrom_ : 0 ≤ from_ ∧ from_ ≤ 5000) (hto : 0 ≤ to ∧ to ≤ 5000) (hts : S.2.2 876 4 = some ts) (htp : tp ts) (hT : TOK S) (hcr : Xi S 876 6 ≤ Xi S 876 7) (hft : to ≤ from_ + 121) (d : Nat) : Mt lay0 (d + 3) m_to_takeInside [.ref 876, iv from_, iv to] S (Q_to_takeInside S ts from_ to) := by
  refine Mt_R rfl rfl ?_
  have hF : FR md_to_takeInside S S := FR.rf
  have w1 : 0 ≤ Xi S 876 6 ∧ Xi S 876 6 ≤ 5002 := hH.c _ _
  have w2 : 0 ≤ Xi S 876 7 ∧ Xi S 876 7 ≤ 5125 := hH.c _ _
  have C10 : ∀ (n10 : Nat) (T1 : sS) (_ : HI T1) (_ : FR md_to_takeInside S T1) (v3 : Int), (0 ≤ v3 ∧ v3 ≤ 5000) → (TOK T1) → (from_ ≤ v3 ∧ (v3 ≤ to ∨ v3 = from_)) → (Xi S 876 6 ≤ Xi T1 876 7 ∧ Xi T1 876 7 ≤ Xi S 876 6 + (v3 - from_)) → n10 = (5001 - v3).toNat → Rl lay0 (d + 2) m_to_takeInside 10 [(0, .ref 876), (2, iv to), (3, iv v3)] [] T1 (Q_to_takeInside S ts from_ to) := by
    intro n10
    induction n10 using Nat.strongRecOn with
    | ind n10 ih10 =>
      intro T1 hHT1 hFT1 v3 w3 hT10 w4 w5 hm10
      have w6 : Xi T1 876 5 = Xi S 876 5 := hFT1.x _ _ rfl
      have w7 : Xi T1 876 6 = Xi S 876 6 := hFT1.x _ _ rfl
      have w8 : 0 ≤ Xi T1 876 7 ∧ Xi T1 876 7 ≤ 5125 := hHT1.c _ _
      refine l_iload_n rfl rfl ?_
      refine l_iload_n rfl rfl ?_
      refine l_icmp_ge rfl rfl (by unfold rg; omega) (by unfold rg; omega) (fun w9 => ?_) (fun w10 => ?_)
      · refine l_aload_n rfl rfl ?_
        refine l_bipush rfl rfl ?_
        refine l_iload_n rfl rfl ?_
        refine l_lconst (z := 0) rfl rfl ?_
        have w11 : 0 ≤ Xi T1 876 5 ∧ Xi T1 876 5 ≤ 5000 := hHT1.c _ _
        have w12 : 0 ≤ Xi T1 876 7 ∧ Xi T1 876 7 ≤ 5125 := hHT1.c _ _
        refine l_callV rfl rfl rfl (t_to_note hHT1 107 to 0 ⟨by omega, by omega⟩ ⟨by omega, by omega⟩ (by first | assumption | exact (by assumption : TOK T1)) (by first | assumption | omega) (by first | assumption | omega) _) ?_
        rintro _ T2 ⟨hHT2, w16, rfl, w13, w14⟩
        have hFT2 : FR md_to_takeInside S T2 := FR.tr hFT1 w16 rfl
        show Rl _ _ _ _ _ [] _ _
        refine l_aload_n rfl rfl ?_
        refine l_gfi rfl rfl rfl rfl rfl ?_
        have w17 : (Xi T2 876 6) = (Xi T1 876 6) := (show Xi T2 876 6 = Xi T1 876 6 from w16.x _ _ rfl)
        rw [w17]
        refine l_ireturn rfl rfl ?_
        have w18 : 0 ≤ Xi T2 876 7 ∧ Xi T2 876 7 ≤ 5125 := hHT2.c _ _
        exact ⟨hHT2, hFT2, _, rfl, ⟨by omega, by omega⟩, (by first | assumption | exact (by assumption : TOK T2)), (by first | assumption | omega), (by first | assumption | omega)⟩
      · refine l_aload_n rfl rfl ?_
        refine l_gfr rfl rfl rfl rfl rfl ((hFT1 876 4 rfl).2.2.trans hts) ?_
        refine l_iload_n rfl rfl ?_
        refine l_baload (n := 5000) rfl (tp_sv (by assumption)) (lay_tp (by assumption)) (by decide) (by omega) (by omega) (by unfold rg; omega) ?_
        have w20 : -128 ≤ (Xi T1 ts ((v3).toNat)) ∧ (Xi T1 ts ((v3).toNat)) ≤ 127 := tpc hHT1 (by assumption)
        refine l_bipush rfl rfl ?_
        refine l_icmp_ne rfl rfl (by unfold rg; omega) (by unfold rg; omega) (fun w21 => ?_) (fun w22 => ?_)
        · refine l_aload_n rfl rfl ?_
          refine l_iload_n rfl rfl ?_
          refine l_iload_n rfl rfl ?_
          have w23 : 0 ≤ Xi T1 876 7 ∧ Xi T1 876 7 ≤ 5125 := hHT1.c _ _
          refine l_callV rfl rfl rfl (t_to_scanWord hHT1 ts v3 to ⟨by omega, by omega⟩ ⟨by omega, by omega⟩ ((hFT1 876 4 rfl).2.2.trans hts) htp (by first | assumption | exact (by assumption : TOK T1)) (by first | assumption | omega) _) ?_
          rintro _ T3 ⟨hHT3, w29, z28, rfl, w28, w24, w25, w26, w27⟩
          have hFT3 : FR md_to_takeInside S T3 := FR.tr hFT1 w29 rfl
          show Rl _ _ _ _ _ [iv z28] _ _
          refine l_istore rfl rfl rfl ?_
          refine l_iload rfl rfl ?_
          refine l_iconst rfl ?_
          refine l_icmp_ne rfl rfl (by unfold rg; omega) (by unfold rg; omega) (fun w30 => ?_) (fun w31 => ?_)
          · refine l_iload rfl rfl ?_
            refine l_istore_n rfl rfl rfl ?_
            refine l_goto rfl rfl ?_
            have w32 : 0 ≤ Xi T3 876 7 ∧ Xi T3 876 7 ≤ 5125 := hHT3.c _ _
            exact Rl_weak (ih10 _ (by omega) T3 hHT3 hFT3 (z28) (by omega) (by first | assumption | exact (by assumption : TOK T3)) (by omega) (by omega) rfl) (And.intro rfl (And.intro rfl (And.intro rfl (True.intro))))
          · refine l_iconst rfl ?_
            refine l_ireturn rfl rfl ?_
            have w33 : 0 ≤ Xi T3 876 7 ∧ Xi T3 876 7 ≤ 5125 := hHT3.c _ _
            exact ⟨hHT3, hFT3, _, rfl, ⟨by omega, by omega⟩, (by first | assumption | exact (by assumption : TOK T3)), (by first | assumption | omega), (by first | assumption | omega)⟩
        · refine l_iload_n rfl rfl ?_
          refine l_iconst rfl ?_
          refine l_iadd rfl ?_
          refine l_goto rfl rfl ?_
          refine l_istore rfl rfl rfl ?_
          refine l_iload rfl rfl ?_
          refine l_iconst rfl ?_
          refine l_icmp_ne rfl rfl (by unfold rg; omega) (by unfold rg; omega) (fun w34 => ?_) (fun w35 => ?_)
          · refine l_iload rfl rfl ?_
            refine l_istore_n rfl rfl rfl ?_
            refine l_goto rfl rfl ?_
            have w36 : 0 ≤ Xi T1 876 7 ∧ Xi T1 876 7 ≤ 5125 := hHT1.c _ _
            exact Rl_weak (ih10 _ (by omega) T1 hHT1 hFT1 ((v3 + 1)) (by omega) (by first | assumption | exact (by assumption : TOK T1)) (by omega) (by omega) rfl) (And.intro rfl (And.intro rfl (And.intro rfl (True.intro))))
          · refine l_iconst rfl ?_
            refine l_ireturn rfl rfl ?_
            have w37 : 0 ≤ Xi T1 876 7 ∧ Xi T1 876 7 ≤ 5125 := hHT1.c _ _
            exact ⟨hHT1, hFT1, _, rfl, ⟨by omega, by omega⟩, (by first | assumption | exact (by assumption : TOK T1)), (by first | assumption | omega), (by first | assumption | omega)⟩
  refine l_iload_n rfl rfl ?_
  refine l_istore_n rfl rfl rfl ?_
  refine l_aload_n rfl rfl ?_
  refine l_aload_n rfl rfl ?_
  refine l_gfi rfl rfl rfl rfl rfl ?_
  refine l_pfi rfl rfl rfl rfl ?_
  obtain ⟨U4, eU4⟩ : ∃ T : sS, T = uI S 876 7 (Int32.ofInt (Xi S 876 6)) := ⟨_, rfl⟩
  rw [← eU4]
  have hHU4 : HI U4 := by rw [eU4]; exact HI_w hH (show 0 ≤ (Xi S 876 6) by omega) (show (Xi S 876 6) ≤ 5125 by omega)
  have hFU4 : FR md_to_takeInside S U4 := by rw [eU4]; exact FR.wI hF (mdf_i (r := (876, 877, 7, 8)) (List.mem_of_getElem? (i := 0) rfl) (inR_i (by omega) (by omega) (by omega) (by omega)))
  have w38 : Xi U4 876 7 = (Xi S 876 6) := by rw [eU4]; exact Xi_same (by unfold rg; omega)
  have hT0 : TOK U4 := TOK_set7 eU4 hT (by omega) (by omega)
  have w39 : 0 ≤ Xi U4 876 7 ∧ Xi U4 876 7 ≤ 5125 := hHU4.c _ _
  exact Rl_weak (C10 _ U4 hHU4 hFU4 (from_) (by omega) (by first | assumption | exact (by assumption : TOK U4)) (by omega) (by omega) rfl) (And.intro rfl (And.intro rfl (And.intro rfl (True.intro))))
def md_vo_makeContrary : List rec := [(10, 11, 0, 100000), (11, 12, 0, 100000)]
abbrev Q_vo_makeContrary (S : sS) (first : Int) (kind : Int) : pst := fun r S1 => HI S1 ∧ FR md_vo_makeContrary S S1 ∧ (r = none)
set_option maxRecDepth 100000 in
theorem t_vo_makeContrary {S : sS} (hH : HI S) (first : Int) (kind : Int) (hfirst : 0 ≤ first ∧ first ≤ 22) (hkind : 0 ≤ kind ∧ kind ≤ 15) (d : Nat) : Mt lay0 (d + 1) m_vo_makeContrary [.ref 1, iv first, iv kind] S (Q_vo_makeContrary S first kind) := by
  refine Mt_R rfl rfl ?_
  have hF : FR md_vo_makeContrary S S := FR.rf
  refine l_aload_n rfl rfl ?_
  refine l_gfr rfl rfl rfl rfl rfl (hH.r 1 9 10 rfl) ?_
  refine l_iload_n rfl rfl ?_
  refine l_iload_n rfl rfl ?_
  refine l_iastore (n := 24) rfl rfl (by omega) (by omega) (by unfold rg; omega) ?_
  obtain ⟨U1, eU1⟩ : ∃ T : sS, T = uI S 10 ((first).toNat) (Int32.ofInt kind) := ⟨_, rfl⟩
  rw [← eU1]
  have hHU1 : HI U1 := by rw [eU1]; exact HI_w hH (show 0 ≤ kind by omega) (show kind ≤ 15 by omega)
  have hFU1 : FR md_vo_makeContrary S U1 := by rw [eU1]; exact FR.wI hF (mdf_i (r := (10, 11, 0, 100000)) (List.mem_of_getElem? (i := 0) rfl) (inR_i (by omega) (by omega) (by omega) (by omega)))
  have w1 : Xi U1 10 ((first).toNat) = kind := by rw [eU1]; exact Xi_same (by unfold rg; omega)
  refine l_aload_n rfl rfl ?_
  refine l_gfr rfl rfl rfl rfl rfl (hHU1.r 1 9 10 rfl) ?_
  refine l_iload_n rfl rfl ?_
  refine l_iconst rfl ?_
  refine l_iadd rfl ?_
  refine l_iload_n rfl rfl ?_
  refine l_iastore (n := 24) rfl rfl (by omega) (by omega) (by unfold rg; omega) ?_
  obtain ⟨U2, eU2⟩ : ∃ T : sS, T = uI U1 10 (((first + 1)).toNat) (Int32.ofInt kind) := ⟨_, rfl⟩
  rw [← eU2]
  have hHU2 : HI U2 := by rw [eU2]; exact HI_w hHU1 (show 0 ≤ kind by omega) (show kind ≤ 15 by omega)
  have hFU2 : FR md_vo_makeContrary S U2 := by rw [eU2]; exact FR.wI hFU1 (mdf_i (r := (10, 11, 0, 100000)) (List.mem_of_getElem? (i := 0) rfl) (inR_i (by omega) (by omega) (by omega) (by omega)))
  have w2 : Xi U2 10 (((first + 1)).toNat) = kind := by rw [eU2]; exact Xi_same (by unfold rg; omega)
  refine l_aload_n rfl rfl ?_
  refine l_gfr rfl rfl rfl rfl rfl (hHU2.r 1 10 11 rfl) ?_
  refine l_iload_n rfl rfl ?_
  refine l_iload_n rfl rfl ?_
  refine l_iconst rfl ?_
  refine l_iadd rfl ?_
  refine l_iastore (n := 24) rfl rfl (by omega) (by omega) (by unfold rg; omega) ?_
  obtain ⟨U3, eU3⟩ : ∃ T : sS, T = uI U2 11 ((first).toNat) (Int32.ofInt (first + 1)) := ⟨_, rfl⟩
  rw [← eU3]
  have hHU3 : HI U3 := by rw [eU3]; exact HI_w hHU2 (show -1 ≤ (first + 1) by omega) (show (first + 1) ≤ 23 by omega)
  have hFU3 : FR md_vo_makeContrary S U3 := by rw [eU3]; exact FR.wI hFU2 (mdf_i (r := (11, 12, 0, 100000)) (List.mem_of_getElem? (i := 1) rfl) (inR_i (by omega) (by omega) (by omega) (by omega)))
  have w3 : Xi U3 11 ((first).toNat) = (first + 1) := by rw [eU3]; exact Xi_same (by unfold rg; omega)
  refine l_aload_n rfl rfl ?_
  refine l_gfr rfl rfl rfl rfl rfl (hHU3.r 1 10 11 rfl) ?_
  refine l_iload_n rfl rfl ?_
  refine l_iconst rfl ?_
  refine l_iadd rfl ?_
  refine l_iload_n rfl rfl ?_
  refine l_iastore (n := 24) rfl rfl (by omega) (by omega) (by unfold rg; omega) ?_
  obtain ⟨U4, eU4⟩ : ∃ T : sS, T = uI U3 11 (((first + 1)).toNat) (Int32.ofInt first) := ⟨_, rfl⟩
  rw [← eU4]
  have hHU4 : HI U4 := by rw [eU4]; exact HI_w hHU3 (show -1 ≤ first by omega) (show first ≤ 23 by omega)
  have hFU4 : FR md_vo_makeContrary S U4 := by rw [eU4]; exact FR.wI hFU3 (mdf_i (r := (11, 12, 0, 100000)) (List.mem_of_getElem? (i := 1) rfl) (inR_i (by omega) (by omega) (by omega) (by omega)))
  have w4 : Xi U4 11 (((first + 1)).toNat) = first := by rw [eU4]; exact Xi_same (by unfold rg; omega)
  refine l_return rfl rfl ?_
  exact ⟨hHU4, hFU4, rfl⟩
def md_rr_nameAdjective : List rec := [(276, 876, 0, 1), (276, 876, 3, 4), (276, 876, 4, 5)]
abbrev Q_rr_nameAdjective (S : sS) (c : Nat) (met : Int) (prop : Int) : pst := fun r S1 => HI S1 ∧ FR md_rr_nameAdjective S S1 ∧ (r = none)
set_option maxRecDepth 100000 in
theorem t_rr_nameAdjective {S : sS} (hH : HI S) (c : Nat) (met : Int) (prop : Int) (hc : c < 600) (hmet : 0 ≤ met ∧ met ≤ 255) (hprop : -1 ≤ prop ∧ prop ≤ 11) (d : Nat) : Mt lay0 (d + 1) m_rr_nameAdjective [.ref (276 + c), iv met, iv prop] S (Q_rr_nameAdjective S c met prop) := by
  refine Mt_R rfl rfl ?_
  have hF : FR md_rr_nameAdjective S S := FR.rf
  refine l_aload_n rfl rfl ?_
  refine l_iload_n rfl rfl ?_
  refine l_iconst rfl ?_
  refine l_icmp_ne rfl rfl (by unfold rg; omega) (by unfold rg; omega) (fun w1 => ?_) (fun w2 => ?_)
  · refine l_iconst rfl ?_
    refine l_pfi rfl rfl (layClW (by omega) rfl) rfl ?_
    obtain ⟨U1, eU1⟩ : ∃ T : sS, T = uI S (276 + c) 0 (Int32.ofInt 1) := ⟨_, rfl⟩
    rw [← eU1]
    have hHU1 : HI U1 := by rw [eU1]; exact HI_w hH (by rw [lh_cl0 (by omega)]; omega) (by rw [lh_cl0 (by omega)]; omega)
    have hFU1 : FR md_rr_nameAdjective S U1 := by rw [eU1]; exact FR.wI hF (mdf_i (r := (276, 876, 0, 1)) (List.mem_of_getElem? (i := 0) rfl) (inR_i (by omega) (by omega) (by omega) (by omega)))
    have w3 : Xi U1 (276 + c) 0 = 1 := by rw [eU1]; exact Xi_same (by unfold rg; omega)
    refine l_aload_n rfl rfl ?_
    refine l_iload_n rfl rfl ?_
    refine l_iconst rfl ?_
    refine l_icmp_ne rfl rfl (by unfold rg; omega) (by unfold rg; omega) (fun w4 => ?_) (fun w5 => ?_)
    · refine l_iload_n rfl rfl ?_
      refine l_pfi rfl rfl (layClW (by omega) rfl) rfl ?_
      obtain ⟨U2, eU2⟩ : ∃ T : sS, T = uI U1 (276 + c) 3 (Int32.ofInt prop) := ⟨_, rfl⟩
      rw [← eU2]
      have hHU2 : HI U2 := by rw [eU2]; exact HI_w hHU1 (by rw [lh_cl3 (by omega)]; omega) (by rw [lh_cl3 (by omega)]; omega)
      have hFU2 : FR md_rr_nameAdjective S U2 := by rw [eU2]; exact FR.wI hFU1 (mdf_i (r := (276, 876, 3, 4)) (List.mem_of_getElem? (i := 1) rfl) (inR_i (by omega) (by omega) (by omega) (by omega)))
      have w6 : Xi U2 (276 + c) 3 = prop := by rw [eU2]; exact Xi_same (by unfold rg; omega)
      refine l_aload_n rfl rfl ?_
      refine l_iload_n rfl rfl ?_
      refine l_pfi rfl rfl (layClW (by omega) rfl) rfl ?_
      obtain ⟨U3, eU3⟩ : ∃ T : sS, T = uI U2 (276 + c) 4 (Int32.ofInt met) := ⟨_, rfl⟩
      rw [← eU3]
      have hHU3 : HI U3 := by rw [eU3]; exact HI_any hHU2 (lh_cl4 (by omega))
      have hFU3 : FR md_rr_nameAdjective S U3 := by rw [eU3]; exact FR.wI hFU2 (mdf_i (r := (276, 876, 4, 5)) (List.mem_of_getElem? (i := 2) rfl) (inR_i (by omega) (by omega) (by omega) (by omega)))
      have w7 : Xi U3 (276 + c) 4 = met := by rw [eU3]; exact Xi_same (by unfold rg; omega)
      refine l_return rfl rfl ?_
      exact ⟨hHU3, hFU3, rfl⟩
    · refine l_iload_n rfl rfl ?_
      refine l_goto rfl rfl ?_
      refine l_pfi rfl rfl (layClW (by omega) rfl) rfl ?_
      obtain ⟨U4, eU4⟩ : ∃ T : sS, T = uI U1 (276 + c) 3 (Int32.ofInt met) := ⟨_, rfl⟩
      rw [← eU4]
      have hHU4 : HI U4 := by rw [eU4]; exact HI_w hHU1 (by rw [lh_cl3 (by omega)]; omega) (by rw [lh_cl3 (by omega)]; omega)
      have hFU4 : FR md_rr_nameAdjective S U4 := by rw [eU4]; exact FR.wI hFU1 (mdf_i (r := (276, 876, 3, 4)) (List.mem_of_getElem? (i := 1) rfl) (inR_i (by omega) (by omega) (by omega) (by omega)))
      have w8 : Xi U4 (276 + c) 3 = met := by rw [eU4]; exact Xi_same (by unfold rg; omega)
      refine l_aload_n rfl rfl ?_
      refine l_iload_n rfl rfl ?_
      refine l_pfi rfl rfl (layClW (by omega) rfl) rfl ?_
      obtain ⟨U5, eU5⟩ : ∃ T : sS, T = uI U4 (276 + c) 4 (Int32.ofInt met) := ⟨_, rfl⟩
      rw [← eU5]
      have hHU5 : HI U5 := by rw [eU5]; exact HI_any hHU4 (lh_cl4 (by omega))
      have hFU5 : FR md_rr_nameAdjective S U5 := by rw [eU5]; exact FR.wI hFU4 (mdf_i (r := (276, 876, 4, 5)) (List.mem_of_getElem? (i := 2) rfl) (inR_i (by omega) (by omega) (by omega) (by omega)))
      have w9 : Xi U5 (276 + c) 4 = met := by rw [eU5]; exact Xi_same (by unfold rg; omega)
      refine l_return rfl rfl ?_
      exact ⟨hHU5, hFU5, rfl⟩
  · refine l_iconst rfl ?_
    refine l_goto rfl rfl ?_
    refine l_pfi rfl rfl (layClW (by omega) rfl) rfl ?_
    obtain ⟨U6, eU6⟩ : ∃ T : sS, T = uI S (276 + c) 0 (Int32.ofInt 0) := ⟨_, rfl⟩
    rw [← eU6]
    have hHU6 : HI U6 := by rw [eU6]; exact HI_w hH (by rw [lh_cl0 (by omega)]; omega) (by rw [lh_cl0 (by omega)]; omega)
    have hFU6 : FR md_rr_nameAdjective S U6 := by rw [eU6]; exact FR.wI hF (mdf_i (r := (276, 876, 0, 1)) (List.mem_of_getElem? (i := 0) rfl) (inR_i (by omega) (by omega) (by omega) (by omega)))
    have w10 : Xi U6 (276 + c) 0 = 0 := by rw [eU6]; exact Xi_same (by unfold rg; omega)
    refine l_aload_n rfl rfl ?_
    refine l_iload_n rfl rfl ?_
    refine l_iconst rfl ?_
    refine l_icmp_ne rfl rfl (by unfold rg; omega) (by unfold rg; omega) (fun w11 => ?_) (fun w12 => ?_)
    · refine l_iload_n rfl rfl ?_
      refine l_pfi rfl rfl (layClW (by omega) rfl) rfl ?_
      obtain ⟨U7, eU7⟩ : ∃ T : sS, T = uI U6 (276 + c) 3 (Int32.ofInt prop) := ⟨_, rfl⟩
      rw [← eU7]
      have hHU7 : HI U7 := by rw [eU7]; exact HI_w hHU6 (by rw [lh_cl3 (by omega)]; omega) (by rw [lh_cl3 (by omega)]; omega)
      have hFU7 : FR md_rr_nameAdjective S U7 := by rw [eU7]; exact FR.wI hFU6 (mdf_i (r := (276, 876, 3, 4)) (List.mem_of_getElem? (i := 1) rfl) (inR_i (by omega) (by omega) (by omega) (by omega)))
      have w13 : Xi U7 (276 + c) 3 = prop := by rw [eU7]; exact Xi_same (by unfold rg; omega)
      refine l_aload_n rfl rfl ?_
      refine l_iload_n rfl rfl ?_
      refine l_pfi rfl rfl (layClW (by omega) rfl) rfl ?_
      obtain ⟨U8, eU8⟩ : ∃ T : sS, T = uI U7 (276 + c) 4 (Int32.ofInt met) := ⟨_, rfl⟩
      rw [← eU8]
      have hHU8 : HI U8 := by rw [eU8]; exact HI_any hHU7 (lh_cl4 (by omega))
      have hFU8 : FR md_rr_nameAdjective S U8 := by rw [eU8]; exact FR.wI hFU7 (mdf_i (r := (276, 876, 4, 5)) (List.mem_of_getElem? (i := 2) rfl) (inR_i (by omega) (by omega) (by omega) (by omega)))
      have w14 : Xi U8 (276 + c) 4 = met := by rw [eU8]; exact Xi_same (by unfold rg; omega)
      refine l_return rfl rfl ?_
      exact ⟨hHU8, hFU8, rfl⟩
    · refine l_iload_n rfl rfl ?_
      refine l_goto rfl rfl ?_
      refine l_pfi rfl rfl (layClW (by omega) rfl) rfl ?_
      obtain ⟨U9, eU9⟩ : ∃ T : sS, T = uI U6 (276 + c) 3 (Int32.ofInt met) := ⟨_, rfl⟩
      rw [← eU9]
      have hHU9 : HI U9 := by rw [eU9]; exact HI_w hHU6 (by rw [lh_cl3 (by omega)]; omega) (by rw [lh_cl3 (by omega)]; omega)
      have hFU9 : FR md_rr_nameAdjective S U9 := by rw [eU9]; exact FR.wI hFU6 (mdf_i (r := (276, 876, 3, 4)) (List.mem_of_getElem? (i := 1) rfl) (inR_i (by omega) (by omega) (by omega) (by omega)))
      have w15 : Xi U9 (276 + c) 3 = met := by rw [eU9]; exact Xi_same (by unfold rg; omega)
      refine l_aload_n rfl rfl ?_
      refine l_iload_n rfl rfl ?_
      refine l_pfi rfl rfl (layClW (by omega) rfl) rfl ?_
      obtain ⟨U10, eU10⟩ : ∃ T : sS, T = uI U9 (276 + c) 4 (Int32.ofInt met) := ⟨_, rfl⟩
      rw [← eU10]
      have hHU10 : HI U10 := by rw [eU10]; exact HI_any hHU9 (lh_cl4 (by omega))
      have hFU10 : FR md_rr_nameAdjective S U10 := by rw [eU10]; exact FR.wI hFU9 (mdf_i (r := (276, 876, 4, 5)) (List.mem_of_getElem? (i := 2) rfl) (inR_i (by omega) (by omega) (by omega) (by omega)))
      have w16 : Xi U10 (276 + c) 4 = met := by rw [eU10]; exact Xi_same (by unfold rg; omega)
      refine l_return rfl rfl ?_
      exact ⟨hHU10, hFU10, rfl⟩
def md_tu_move : List rec := [(22, 23, 0, 100000), (23, 24, 0, 100000)]
abbrev Q_tu_move (S : sS) (who : Int) (to : Int) : pst := fun r S1 => HI S1 ∧ FR md_tu_move S S1 ∧ (r = none)
set_option maxRecDepth 100000 in
theorem t_tu_move {S : sS} (hH : HI S) (who : Int) (to : Int) (hwho : 0 ≤ who ∧ who ≤ 23) (hto : 0 ≤ to ∧ to ≤ 23) (d : Nat) : Mt lay0 (d + 3) m_tu_move [.ref 900, iv who, iv to] S (Q_tu_move S who to) := by
  refine Mt_R rfl rfl ?_
  have hF : FR md_tu_move S S := FR.rf
  have C87 : ∀  (v3 : Int), (1 ≤ v3 ∧ v3 ≤ 4) → Rl lay0 (d + 2) m_tu_move 87 [(0, .ref 900), (1, iv who), (2, iv to), (3, iv v3)] [] S (Q_tu_move S who to) := by
    intro v3 w1
    refine l_aload_n rfl rfl ?_
    refine l_gfr rfl rfl rfl rfl rfl (hH.r 900 1 20 rfl) ?_
    refine l_iload_n rfl rfl ?_
    refine l_iload_n rfl rfl ?_
    refine l_iload_n rfl rfl ?_
    refine l_callV rfl rfl rfl (t_wo_place hH who v3 to ⟨by omega, by omega⟩ ⟨by omega, by omega⟩ ⟨by omega, by omega⟩ _) ?_
    rintro _ T1 ⟨hHT1, w3, rfl⟩
    have hFT1 : FR md_tu_move S T1 := FR.tr hF w3 rfl
    show Rl _ _ _ _ _ [] _ _
    refine l_return rfl rfl ?_
    exact ⟨hHT1, hFT1, rfl⟩
  have C51 : Rl lay0 (d + 2) m_tu_move 51 [(0, .ref 900), (1, iv who), (2, iv to)] [] S (Q_tu_move S who to) := by
    refine l_iconst rfl ?_
    refine l_istore_n rfl rfl rfl ?_
    refine l_goto rfl rfl ?_
    exact Rl_weak (C87 (1) (by omega)) (And.intro rfl (And.intro rfl (And.intro rfl (And.intro rfl (True.intro)))))
  refine l_aload_n rfl rfl ?_
  refine l_gfr rfl rfl rfl rfl rfl (hH.r 900 1 20 rfl) ?_
  refine l_iload_n rfl rfl ?_
  refine l_iconst rfl ?_
  refine l_callV rfl rfl rfl (t_wo_isA hH who 0 ⟨by omega, by omega⟩ ⟨by omega, by omega⟩ _) ?_
  rintro _ _ ⟨rfl, z5, rfl, w5, w4⟩
  show Rl _ _ _ _ _ [iv z5] _ _
  refine l_if_eq rfl rfl (by unfold rg; omega) (fun w6 => ?_) (fun w7 => ?_)
  · refine l_return rfl rfl ?_
    exact ⟨hH, hF, rfl⟩
  · refine l_aload_n rfl rfl ?_
    refine l_gfr rfl rfl rfl rfl rfl (hH.r 900 1 20 rfl) ?_
    refine l_iload_n rfl rfl ?_
    refine l_iload_n rfl rfl ?_
    refine l_callV rfl rfl rfl (t_wo_isWithin hH to who ⟨by omega, by omega⟩ ⟨by omega, by omega⟩ _) ?_
    rintro _ _ ⟨rfl, z9, rfl, w9, w8⟩
    show Rl _ _ _ _ _ [iv z9] _ _
    refine l_if_eq rfl rfl (by unfold rg; omega) (fun w10 => ?_) (fun w11 => ?_)
    · refine l_iconst rfl ?_
      refine l_istore_n rfl rfl rfl ?_
      refine l_aload_n rfl rfl ?_
      refine l_gfr rfl rfl rfl rfl rfl (hH.r 900 1 20 rfl) ?_
      refine l_iload_n rfl rfl ?_
      refine l_iconst rfl ?_
      refine l_callV rfl rfl rfl (t_wo_isA hH to 1 ⟨by omega, by omega⟩ ⟨by omega, by omega⟩ _) ?_
      rintro _ _ ⟨rfl, z13, rfl, w13, w12⟩
      show Rl _ _ _ _ _ [iv z13] _ _
      refine l_if_ne rfl rfl (by unfold rg; omega) (fun w14 => ?_) (fun w15 => ?_)
      · exact Rl_weak (C51  ) (And.intro rfl (And.intro rfl (And.intro rfl (True.intro))))
      · refine l_aload_n rfl rfl ?_
        refine l_gfr rfl rfl rfl rfl rfl (hH.r 900 1 20 rfl) ?_
        refine l_iload_n rfl rfl ?_
        refine l_iconst rfl ?_
        refine l_callV rfl rfl rfl (t_wo_isA hH to 2 ⟨by omega, by omega⟩ ⟨by omega, by omega⟩ _) ?_
        rintro _ _ ⟨rfl, z17, rfl, w17, w16⟩
        show Rl _ _ _ _ _ [iv z17] _ _
        refine l_if_eq rfl rfl (by unfold rg; omega) (fun w18 => ?_) (fun w19 => ?_)
        · refine l_aload_n rfl rfl ?_
          refine l_gfr rfl rfl rfl rfl rfl (hH.r 900 1 20 rfl) ?_
          refine l_iload_n rfl rfl ?_
          refine l_iconst rfl ?_
          refine l_callV rfl rfl rfl (t_wo_isA hH to 3 ⟨by omega, by omega⟩ ⟨by omega, by omega⟩ _) ?_
          rintro _ _ ⟨rfl, z21, rfl, w21, w20⟩
          show Rl _ _ _ _ _ [iv z21] _ _
          refine l_if_eq rfl rfl (by unfold rg; omega) (fun w22 => ?_) (fun w23 => ?_)
          · refine l_aload_n rfl rfl ?_
            refine l_gfr rfl rfl rfl rfl rfl (hH.r 900 1 20 rfl) ?_
            refine l_iload_n rfl rfl ?_
            refine l_iconst rfl ?_
            refine l_callV rfl rfl rfl (t_wo_isA hH to 4 ⟨by omega, by omega⟩ ⟨by omega, by omega⟩ _) ?_
            rintro _ _ ⟨rfl, z25, rfl, w25, w24⟩
            show Rl _ _ _ _ _ [iv z25] _ _
            refine l_if_eq rfl rfl (by unfold rg; omega) (fun w26 => ?_) (fun w27 => ?_)
            · exact Rl_weak (C87 (3) (by omega)) (And.intro rfl (And.intro rfl (And.intro rfl (And.intro rfl (True.intro)))))
            · refine l_iconst rfl ?_
              refine l_istore_n rfl rfl rfl ?_
              exact Rl_weak (C87 (4) (by omega)) (And.intro rfl (And.intro rfl (And.intro rfl (And.intro rfl (True.intro)))))
          · refine l_iconst rfl ?_
            refine l_istore_n rfl rfl rfl ?_
            refine l_goto rfl rfl ?_
            exact Rl_weak (C87 (2) (by omega)) (And.intro rfl (And.intro rfl (And.intro rfl (And.intro rfl (True.intro)))))
        · exact Rl_weak (C51  ) (And.intro rfl (And.intro rfl (And.intro rfl (True.intro))))
    · refine l_return rfl rfl ?_
      exact ⟨hH, hF, rfl⟩
def md_tu_take : List rec := [(22, 23, 0, 100000), (23, 24, 0, 100000)]
abbrev Q_tu_take (S : sS) (o : Int) : pst := fun r S1 => HI S1 ∧ FR md_tu_take S S1 ∧ (∃ z : Int, r = some (iv z) ∧ (0 ≤ z ∧ z ≤ 1))
set_option maxRecDepth 100000 in
theorem t_tu_take {S : sS} (hH : HI S) (o : Int) (ho : 0 ≤ o ∧ o ≤ 23) (d : Nat) : Mt lay0 (d + 2) m_tu_take [.ref 900, iv o] S (Q_tu_take S o) := by
  refine Mt_R rfl rfl ?_
  have hF : FR md_tu_take S S := FR.rf
  refine l_aload_n rfl rfl ?_
  refine l_gfr rfl rfl rfl rfl rfl (hH.r 900 1 20 rfl) ?_
  refine l_iload_n rfl rfl ?_
  refine l_iconst rfl ?_
  refine l_callV rfl rfl rfl (t_wo_hasAdjective hH o 0 ⟨by omega, by omega⟩ ⟨by omega, by omega⟩ _) ?_
  rintro _ _ ⟨rfl, z2, rfl, w2, w1⟩
  show Rl _ _ _ _ _ [iv z2] _ _
  refine l_if_ne rfl rfl (by unfold rg; omega) (fun w3 => ?_) (fun w4 => ?_)
  · refine l_iconst rfl ?_
    refine l_ireturn rfl rfl ?_
    exact ⟨hH, hF, _, rfl, ⟨by omega, by omega⟩⟩
  · refine l_aload_n rfl rfl ?_
    refine l_iload_n rfl rfl ?_
    refine l_callV rfl rfl rfl (t_tu_playerHas hH o ⟨by omega, by omega⟩ _) ?_
    rintro _ _ ⟨rfl, z5, rfl, w5⟩
    show Rl _ _ _ _ _ [iv z5] _ _
    refine l_if_ne rfl rfl (by unfold rg; omega) (fun w6 => ?_) (fun w7 => ?_)
    · refine l_iconst rfl ?_
      refine l_ireturn rfl rfl ?_
      exact ⟨hH, hF, _, rfl, ⟨by omega, by omega⟩⟩
    · refine l_aload_n rfl rfl ?_
      refine l_gfr rfl rfl rfl rfl rfl (hH.r 900 1 20 rfl) ?_
      refine l_iconst rfl ?_
      refine l_iload_n rfl rfl ?_
      refine l_callV rfl rfl rfl (t_wo_isWithin hH 0 o ⟨by omega, by omega⟩ ⟨by omega, by omega⟩ _) ?_
      rintro _ _ ⟨rfl, z9, rfl, w9, w8⟩
      show Rl _ _ _ _ _ [iv z9] _ _
      refine l_if_eq rfl rfl (by unfold rg; omega) (fun w10 => ?_) (fun w11 => ?_)
      · refine l_aload_n rfl rfl ?_
        refine l_gfr rfl rfl rfl rfl rfl (hH.r 900 1 20 rfl) ?_
        refine l_iload_n rfl rfl ?_
        refine l_iconst rfl ?_
        refine l_iconst rfl ?_
        refine l_callV rfl rfl rfl (t_wo_place hH o 4 0 ⟨by omega, by omega⟩ ⟨by omega, by omega⟩ ⟨by omega, by omega⟩ _) ?_
        rintro _ T1 ⟨hHT1, w13, rfl⟩
        have hFT1 : FR md_tu_take S T1 := FR.tr hF w13 rfl
        show Rl _ _ _ _ _ [] _ _
        refine l_iconst rfl ?_
        refine l_ireturn rfl rfl ?_
        exact ⟨hHT1, hFT1, _, rfl, ⟨by omega, by omega⟩⟩
      · refine l_iconst rfl ?_
        refine l_ireturn rfl rfl ?_
        exact ⟨hH, hF, _, rfl, ⟨by omega, by omega⟩⟩
def md_tu_go : List rec := [(22, 23, 0, 100000), (23, 24, 0, 100000)]
abbrev Q_tu_go (S : sS) (dir : Int) : pst := fun r S1 => HI S1 ∧ FR md_tu_go S S1 ∧ (∃ z : Int, r = some (iv z) ∧ (0 ≤ z ∧ z ≤ 1))
set_option maxRecDepth 100000 in
theorem t_tu_go {S : sS} (hH : HI S) (dir : Int) (hdir : 0 ≤ dir ∧ dir ≤ 5) (d : Nat) : Mt lay0 (d + 2) m_tu_go [.ref 900, iv dir] S (Q_tu_go S dir) := by
  refine Mt_R rfl rfl ?_
  have hF : FR md_tu_go S S := FR.rf
  refine l_aload_n rfl rfl ?_
  refine l_gfr rfl rfl rfl rfl rfl (hH.r 900 1 20 rfl) ?_
  refine l_gfr rfl rfl rfl rfl rfl (hH.r 20 4 23 rfl) ?_
  refine l_iconst rfl ?_
  refine l_iaload (n := 24) rfl rfl (by omega) (by omega) (by unfold rg; omega) ?_
  have w1 : -1 ≤ (Xi S 23 ((0 : Int).toNat)) ∧ (Xi S 23 ((0 : Int).toNat)) ≤ 23 := hH.c _ _
  have w2 : (Xi S 23 ((0 : Int).toNat)) = Xi S 23 0 := rfl
  refine l_istore_n rfl rfl rfl ?_
  refine l_aload_n rfl rfl ?_
  refine l_gfr rfl rfl rfl rfl rfl (hH.r 900 1 20 rfl) ?_
  refine l_gfr rfl rfl rfl rfl rfl (hH.r 20 3 22 rfl) ?_
  refine l_iconst rfl ?_
  refine l_iaload (n := 24) rfl rfl (by omega) (by omega) (by unfold rg; omega) ?_
  have w3 : 0 ≤ (Xi S 22 ((0 : Int).toNat)) ∧ (Xi S 22 ((0 : Int).toNat)) ≤ 5 := hH.c _ _
  have w4 : (Xi S 22 ((0 : Int).toNat)) = Xi S 22 0 := rfl
  refine l_iconst rfl ?_
  refine l_icmp_ne rfl rfl (by unfold rg; omega) (by unfold rg; omega) (fun w5 => ?_) (fun w6 => ?_)
  · refine l_iconst rfl ?_
    refine l_ireturn rfl rfl ?_
    exact ⟨hH, hF, _, rfl, ⟨by omega, by omega⟩⟩
  · refine l_iload_n rfl rfl ?_
    refine l_if_lt rfl rfl (by unfold rg; omega) (fun w7 => ?_) (fun w8 => ?_)
    · refine l_iconst rfl ?_
      refine l_ireturn rfl rfl ?_
      exact ⟨hH, hF, _, rfl, ⟨by omega, by omega⟩⟩
    · refine l_aload_n rfl rfl ?_
      refine l_gfr rfl rfl rfl rfl rfl (hH.r 900 0 1 rfl) ?_
      refine l_aload_n rfl rfl ?_
      refine l_gfr rfl rfl rfl rfl rfl (hH.r 900 1 20 rfl) ?_
      refine l_gfr rfl rfl rfl rfl rfl (hH.r 20 2 21 rfl) ?_
      refine l_iload_n rfl rfl ?_
      refine l_iaload (n := 24) rfl rfl (by omega) (by omega) (by unfold rg; omega) ?_
      have w9 : 0 ≤ (Xi S 21 (((Xi S 23 ((0 : Int).toNat))).toNat)) ∧ (Xi S 21 (((Xi S 23 ((0 : Int).toNat))).toNat)) ≤ 15 := hH.c _ _
      refine l_iconst rfl ?_
      refine l_callV rfl rfl rfl (t_vo_isKind hH (Xi S 21 (((Xi S 23 ((0 : Int).toNat))).toNat)) 1 ⟨by omega, by omega⟩ ⟨by omega, by omega⟩ _) ?_
      rintro _ _ ⟨rfl, z11, rfl, w11, w10⟩
      show Rl _ _ _ _ _ [iv z11] _ _
      refine l_if_ne rfl rfl (by unfold rg; omega) (fun w12 => ?_) (fun w13 => ?_)
      · refine l_aload_n rfl rfl ?_
        refine l_gfr rfl rfl rfl rfl rfl (hH.r 900 1 20 rfl) ?_
        refine l_iload_n rfl rfl ?_
        refine l_iload_n rfl rfl ?_
        refine l_callV rfl rfl rfl (t_wo_roomBehind hH (Xi S 23 ((0 : Int).toNat)) dir ⟨by omega, by omega⟩ ⟨by omega, by omega⟩ _) ?_
        rintro _ _ ⟨rfl, z15, rfl, w15, w14⟩
        show Rl _ _ _ _ _ [iv z15] _ _
        refine l_istore_n rfl rfl rfl ?_
        refine l_iload_n rfl rfl ?_
        refine l_iconst rfl ?_
        refine l_icmp_ne rfl rfl (by unfold rg; omega) (by unfold rg; omega) (fun w16 => ?_) (fun w17 => ?_)
        · refine l_aload_n rfl rfl ?_
          refine l_gfr rfl rfl rfl rfl rfl (hH.r 900 1 20 rfl) ?_
          refine l_iconst rfl ?_
          refine l_iconst rfl ?_
          refine l_iload_n rfl rfl ?_
          refine l_callV rfl rfl rfl (t_wo_place hH 0 1 z15 ⟨by omega, by omega⟩ ⟨by omega, by omega⟩ ⟨by omega, by omega⟩ _) ?_
          rintro _ T1 ⟨hHT1, w19, rfl⟩
          have hFT1 : FR md_tu_go S T1 := FR.tr hF w19 rfl
          show Rl _ _ _ _ _ [] _ _
          refine l_iconst rfl ?_
          refine l_ireturn rfl rfl ?_
          exact ⟨hHT1, hFT1, _, rfl, ⟨by omega, by omega⟩⟩
        · refine l_iconst rfl ?_
          refine l_ireturn rfl rfl ?_
          exact ⟨hH, hF, _, rfl, ⟨by omega, by omega⟩⟩
      · refine l_iconst rfl ?_
        refine l_ireturn rfl rfl ?_
        exact ⟨hH, hF, _, rfl, ⟨by omega, by omega⟩⟩
def md_re_nameWithS : List rec := [(1, 2, 3, 4), (2, 3, 0, 100000), (3, 4, 0, 100000), (4, 5, 0, 100000), (894, 895, 0, 100000)]
abbrev Q_re_nameWithS (S : sS) (sort : Int) (which : Int) (from_ : Int) (to : Int) : pst := fun r S1 => HI S1 ∧ FR md_re_nameWithS S S1 ∧ (r = none ∧ (LEX S1) ∧ (∀ j, Xi S1 5 j = Xi S 5 j))
set_option maxRecDepth 100000 in
theorem t_re_nameWithS {S : sS} (hH : HI S) (sort : Int) (which : Int) (from_ : Int) (to : Int) (hsort : 11 ≤ sort ∧ sort ≤ 12) (hwhich : 0 ≤ which ∧ which ≤ 63) (hfrom_ : 0 ≤ from_ ∧ from_ ≤ 5130) (hto : 0 ≤ to ∧ to ≤ 5130) (hL : LEX S) (hb : lexB S sort which) (hn : 1 ≤ to - from_ ∧ to - from_ ≤ 3) (d : Nat) : Mt lay0 (d + 3) m_re_nameWithS [.ref 891, iv sort, iv which, iv from_, iv to] S (Q_re_nameWithS S sort which from_ to) := by
  refine Mt_R rfl rfl ?_
  have hF : FR md_re_nameWithS S S := FR.rf
  have C9 : ∀ (n9 : Nat) (T1 : sS) (_ : HI T1) (_ : FR md_re_nameWithS S T1) (v5 : Int) (v6 : Int), (1 ≤ v5 ∧ v5 ≤ 3) → (0 ≤ v6 ∧ v6 ≤ 3) → (LEX T1) → (v5 = to - from_) → n9 = (4 - v6).toNat → Rl lay0 (d + 2) m_re_nameWithS 9 [(0, .ref 891), (1, iv sort), (2, iv which), (3, iv from_), (5, iv v5), (6, iv v6)] [] T1 (Q_re_nameWithS S sort which from_ to) := by
    intro n9
    induction n9 using Nat.strongRecOn with
    | ind n9 ih9 =>
      intro T1 hHT1 hFT1 v5 v6 w1 w2 hl9 w3 hm9
      refine l_iload rfl rfl ?_
      refine l_iload rfl rfl ?_
      refine l_icmp_ge rfl rfl (by unfold rg; omega) (by unfold rg; omega) (fun w4 => ?_) (fun w5 => ?_)
      · refine l_aload_n rfl rfl ?_
        refine l_gfr rfl rfl rfl rfl rfl (hHT1.r 891 13 894 rfl) ?_
        refine l_iload rfl rfl ?_
        refine l_iconst rfl ?_
        refine l_isub rfl ?_
        refine l_aload_n rfl rfl ?_
        refine l_gfr rfl rfl rfl rfl rfl (hHT1.r 891 13 894 rfl) ?_
        refine l_iload rfl rfl ?_
        refine l_iconst rfl ?_
        refine l_isub rfl ?_
        refine l_laload (n := 3) rfl rfl (by omega) (by omega) (by unfold rg; omega) ?_
        have w6 : -9223372036854775808 ≤ (Xj T1 894 (((v5 - 1)).toNat)) ∧ (Xj T1 894 (((v5 - 1)).toNat)) < 9223372036854775808 := Xj_rg
        refine l_ldc2 (z := 27) rfl rfl ?_
        refine l_lmul rfl ?_
        refine l_ldc2 (z := 19) rfl rfl ?_
        refine l_ladd rfl ?_
        refine l_lastore (n := 3) rfl rfl (by omega) (by omega) (by unfold rg; omega) ?_
        obtain ⟨U2, eU2⟩ : ∃ T : sS, T = uJ T1 894 (((v5 - 1)).toNat) (Int64.ofInt (((Xj T1 894 (((v5 - 1)).toNat)) * 27) + 19)) := ⟨_, rfl⟩
        rw [← eU2]
        have hHU2 : HI U2 := by rw [eU2]; exact HI_J hHT1
        have hFU2 : FR md_re_nameWithS S U2 := by rw [eU2]; exact FR.wJ hFT1 (mdf_i (r := (894, 895, 0, 100000)) (List.mem_of_getElem? (i := 4) rfl) (inR_i (by omega) (by omega) (by omega) (by omega)))
        have hl66 : LEX U2 := LEX_J eU2 (by assumption)
        refine l_aload_n rfl rfl ?_
        refine l_gfr rfl rfl rfl rfl rfl (hHU2.r 891 2 1 rfl) ?_
        refine l_aload_n rfl rfl ?_
        refine l_gfr rfl rfl rfl rfl rfl (hHU2.r 891 13 894 rfl) ?_
        refine l_iconst rfl ?_
        refine l_iload rfl rfl ?_
        refine l_callV rfl rfl rfl (t_vo_meaning hHU2 894 3 0 v5 rfl ⟨by omega, by omega⟩ ⟨by omega, by omega⟩ ⟨by omega, by omega⟩ (by assumption) _) ?_
        rintro _ _ ⟨rfl, z10, rfl, w10, w7, w8, w9⟩
        show Rl _ _ _ _ _ [iv z10] _ _
        have hmnz10 := mOK_n (z := z10) (by assumption)
        refine l_iconst rfl ?_
        refine l_icmp_ne rfl rfl (by unfold rg; omega) (by unfold rg; omega) (fun w11 => ?_) (fun w12 => ?_)
        · refine l_return rfl rfl ?_
          exact ⟨hHU2, hFU2, rfl, (by assumption), (fun j => (hFU2.cx 5 rfl j).1)⟩
        · refine l_aload_n rfl rfl ?_
          refine l_gfr rfl rfl rfl rfl rfl (hHU2.r 891 2 1 rfl) ?_
          refine l_iload_n rfl rfl ?_
          refine l_iload_n rfl rfl ?_
          refine l_aload_n rfl rfl ?_
          refine l_gfr rfl rfl rfl rfl rfl (hHU2.r 891 13 894 rfl) ?_
          refine l_iconst rfl ?_
          refine l_iload rfl rfl ?_
          have w13 : Xi U2 1 3 = Xi T1 1 3 := (show Xi U2 1 3 = Xi T1 1 3 from by rw [eU2]; rfl)
          have w14 : 0 ≤ Xi T1 1 3 ∧ Xi T1 1 3 ≤ 200 := hHT1.c _ _
          refine l_callV rfl rfl rfl (t_vo_nameIt hHU2 sort which 894 3 0 v5 ⟨by omega, by omega⟩ ⟨by omega, by omega⟩ rfl ⟨by omega, by omega⟩ ⟨by omega, by omega⟩ ⟨by omega, by omega⟩ (by assumption) (lexB_fr (fun j => (hFU2.cx 5 rfl j).1) hb) (by first | assumption | omega) _) ?_
          rintro _ T3 ⟨hHT3, w19, rfl, w15, w16, w17⟩
          have hFT3 : FR md_re_nameWithS S T3 := FR.tr hFU2 w19 rfl
          show Rl _ _ _ _ _ [] _ _
          refine l_return rfl rfl ?_
          exact ⟨hHT3, hFT3, rfl, (by assumption), (fun j => (hFT3.cx 5 rfl j).1)⟩
      · refine l_aload_n rfl rfl ?_
        refine l_gfr rfl rfl rfl rfl rfl (hHT1.r 891 13 894 rfl) ?_
        refine l_iload rfl rfl ?_
        refine l_aload_n rfl rfl ?_
        refine l_gfr rfl rfl rfl rfl rfl (hHT1.r 891 0 876 rfl) ?_
        refine l_gfr rfl rfl rfl rfl rfl (hHT1.r 876 2 879 rfl) ?_
        refine l_iload_n rfl rfl ?_
        refine l_iload rfl rfl ?_
        refine l_iadd rfl ?_
        refine l_laload (n := 5130) rfl rfl (by omega) (by omega) (by unfold rg; omega) ?_
        have w20 : -9223372036854775808 ≤ (Xj T1 879 (((from_ + v6)).toNat)) ∧ (Xj T1 879 (((from_ + v6)).toNat)) < 9223372036854775808 := Xj_rg
        refine l_lastore (n := 3) rfl rfl (by omega) (by omega) (by unfold rg; omega) ?_
        obtain ⟨U4, eU4⟩ : ∃ T : sS, T = uJ T1 894 ((v6).toNat) (Int64.ofInt (Xj T1 879 (((from_ + v6)).toNat))) := ⟨_, rfl⟩
        rw [← eU4]
        have hHU4 : HI U4 := by rw [eU4]; exact HI_J hHT1
        have hFU4 : FR md_re_nameWithS S U4 := by rw [eU4]; exact FR.wJ hFT1 (mdf_i (r := (894, 895, 0, 100000)) (List.mem_of_getElem? (i := 4) rfl) (inR_i (by omega) (by omega) (by omega) (by omega)))
        refine l_iinc rfl rfl rfl rfl ?_
        refine l_goto rfl rfl ?_
        exact Rl_weak (ih9 _ (by omega) U4 hHU4 hFU4 (v5) ((v6 + 1)) (by omega) (by omega) (by first | assumption | exact LEX_J eU4 (by assumption)) (by omega) rfl) (And.intro rfl (And.intro rfl (And.intro rfl (And.intro rfl (And.intro rfl (And.intro rfl (True.intro)))))))
  refine l_iload rfl rfl ?_
  refine l_iload_n rfl rfl ?_
  refine l_isub rfl ?_
  refine l_istore rfl rfl rfl ?_
  refine l_iconst rfl ?_
  refine l_istore rfl rfl rfl ?_
  exact Rl_weak (C9 _ S hH hF ((to - from_)) (0) (by omega) (by omega) (by first | assumption | exact LEX_J rfl (by assumption)) (by omega) rfl) (And.intro rfl (And.intro rfl (And.intro rfl (And.intro rfl (And.intro rfl (And.intro rfl (True.intro)))))))
abbrev Q_vo_codeOf (S : sS) (i : Nat) (xi : String × Nat × String × List Int32) : pst := fun r S1 => S = S1 ∧ (∃ z : Int, r = some (jw z))
set_option maxRecDepth 100000 in
theorem t_vo_codeOf {S : sS} (hH : HI S) (i : Nat) (xi : String × Nat × String × List Int32) (hi : strT[i]? = some xi) (d : Nat) : Mt lay0 (d + 4) m_vo_codeOf [.ref (SB + i)] S (Q_vo_codeOf S i xi) := by
  refine Mt_R rfl rfl ?_
  have hsli := str_sm hi
  have C4 : ∀ (n4 : Nat) (v1 : Int) (v3 : Int), (0 ≤ v3 ∧ v3 ≤ 400) → n4 = (400 - v3).toNat → Rl lay0 (d + 3) m_vo_codeOf 4 [(0, .ref (SB + i)), (1, jw v1), (3, iv v3)] [] S (Q_vo_codeOf S i xi) := by
    intro n4
    induction n4 using Nat.strongRecOn with
    | ind n4 ih4 =>
      intro v1 v3 w1 hm4
      refine l_iload_n rfl rfl ?_
      refine l_aload_n rfl rfl ?_
      refine l_callT rfl rfl (cOkT0 (str_is hi) rfl) (t_js_length hi _) ?_
      rintro _ _ ⟨rfl, rfl⟩
      show Rl _ _ _ _ _ [iv (xi.2.2.2.length : Int), iv v3] _ _
      refine l_icmp_ge rfl rfl (by unfold rg; omega) (by unfold rg; omega) (fun w3 => ?_) (fun w4 => ?_)
      · refine l_lload_n rfl rfl ?_
        refine l_lreturn rfl rfl ?_
        exact ⟨rfl, _, rfl⟩
      · refine l_lload_n rfl rfl ?_
        refine l_ldc2 (z := 27) rfl rfl ?_
        refine l_lmul rfl ?_
        refine l_aload_n rfl rfl ?_
        refine l_iload_n rfl rfl ?_
        refine l_callT rfl rfl (cOkT1 (str_is hi) rfl) (t_js_charAt hi (by omega) (by omega) _) ?_
        rintro _ _ ⟨rfl, c5, rfl, w5⟩
        show Rl _ _ _ _ _ [iv c5, jw (v1 * 27)] _ _
        refine l_callS rfl rfl (by decide) rfl (t_rs_letterOf hH c5 ⟨by omega, by omega⟩ _) ?_
        rintro _ _ ⟨rfl, z6, rfl, w6⟩
        show Rl _ _ _ _ _ [iv z6, jw (v1 * 27)] _ _
        refine l_i2l rfl (by unfold rg; omega) ?_
        refine l_ladd rfl ?_
        refine l_lstore_n rfl rfl rfl rfl ?_
        refine l_iinc rfl rfl rfl rfl ?_
        refine l_goto rfl rfl ?_
        exact Rl_weak (ih4 _ (by omega) (((v1 * 27) + z6)) ((v3 + 1)) (by omega) rfl) (And.intro rfl (And.intro rfl (And.intro rfl (True.intro))))
  refine l_lconst (z := 0) rfl rfl ?_
  refine l_lstore_n rfl rfl rfl rfl ?_
  refine l_iconst rfl ?_
  refine l_istore_n rfl rfl rfl ?_
  exact Rl_weak (C4 _ (0) (0) (by omega) rfl) (And.intro rfl (And.intro rfl (And.intro rfl (True.intro))))
def md_vo_addFirst : List rec := [(1, 2, 3, 4), (2, 3, 0, 100000), (3, 4, 0, 100000), (4, 5, 0, 100000), (5, 6, 0, 100000)]
abbrev Q_vo_addFirst (S : sS) (sort : Int) (i : Nat) (xi : String × Nat × String × List Int32) : pst := fun r S1 => HI S1 ∧ FR md_vo_addFirst S S1 ∧ (∃ z : Int, r = some (iv z) ∧ (0 ≤ z ∧ z ≤ 63) ∧ (z = Xi S 5 sort.toNat) ∧ (LEX S1) ∧ (Xi S1 5 sort.toNat = Xi S 5 sort.toNat + 1) ∧ (∀ j, j ≠ sort.toNat → Xi S1 5 j = Xi S 5 j) ∧ (Xi S1 1 3 ≤ Xi S 1 3 + 1))
set_option maxRecDepth 100000 in
theorem t_vo_addFirst {S : sS} (hH : HI S) (sort : Int) (i : Nat) (xi : String × Nat × String × List Int32) (hsort : 0 ≤ sort ∧ sort ≤ 8) (hi : strT[i]? = some xi) (hL : LEX S) (hc : Xi S 5 sort.toNat + 1 ≤ (lh 5 sort.toNat).2) (d : Nat) : Mt lay0 (d + 5) m_vo_addFirst [.ref 1, iv sort, .ref (SB + i)] S (Q_vo_addFirst S sort i xi) := by
  refine Mt_R rfl rfl ?_
  have hF : FR md_vo_addFirst S S := FR.rf
  have hsli := str_sm hi
  have w1 : 0 ≤ Xi S 1 3 ∧ Xi S 1 3 ≤ 200 := hH.c _ _
  refine l_aload_n rfl rfl ?_
  refine l_gfr rfl rfl rfl rfl rfl (hH.r 1 4 5 rfl) ?_
  refine l_iload_n rfl rfl ?_
  refine l_iaload (n := 9) rfl rfl (by omega) (by omega) (by unfold rg; omega) ?_
  have w2 : -2147483648 ≤ (Xi S 5 ((sort).toNat)) ∧ (Xi S 5 ((sort).toNat)) ≤ 2147483647 := Xi_rgI
  have hcr := cnt_rg hH (by omega) (by omega) _ (Eq.refl (Xi S 5 sort.toNat))
  have h64 := lh5hi (s := sort) (by omega) (by omega)
  refine l_istore_n rfl rfl rfl ?_
  refine l_aload_n rfl rfl ?_
  refine l_gfr rfl rfl rfl rfl rfl (hH.r 1 4 5 rfl) ?_
  refine l_iload_n rfl rfl ?_
  refine l_dup2 rfl rfl ?_
  refine l_iaload (n := 9) rfl rfl (by omega) (by omega) (by unfold rg; omega) ?_
  refine l_iconst rfl ?_
  refine l_iadd rfl ?_
  refine l_iastore (n := 9) rfl rfl (by omega) (by omega) (by unfold rg; omega) ?_
  obtain ⟨U1, eU1⟩ : ∃ T : sS, T = uI S 5 ((sort).toNat) (Int32.ofInt ((Xi S 5 ((sort).toNat)) + 1)) := ⟨_, rfl⟩
  rw [← eU1]
  have hHU1 : HI U1 := by rw [eU1]; exact HI_w hH (Int.le_trans lh5 (by omega)) hc
  have hFU1 : FR md_vo_addFirst S U1 := by rw [eU1]; exact FR.wI hF (mdf_i (r := (5, 6, 0, 100000)) (List.mem_of_getElem? (i := 4) rfl) (inR_i (by omega) (by omega) (by omega) (by omega)))
  have w3 : Xi U1 5 ((sort).toNat) = ((Xi S 5 ((sort).toNat)) + 1) := by rw [eU1]; exact Xi_same (by unfold rg; omega)
  have hL1 : LEX U1 := LEX_cnt eU1 (by omega) hL
  have hb1 := lexB_new eU1 (by omega) (by omega) (by omega) (by omega)
  refine l_aload_n rfl rfl ?_
  refine l_iload_n rfl rfl ?_
  refine l_iload_n rfl rfl ?_
  refine l_aload_n rfl rfl ?_
  refine l_callS rfl rfl (by decide) rfl (t_vo_codeOf hHU1 i xi hi _) ?_
  rintro _ _ ⟨rfl, z4, rfl⟩
  show Rl _ _ _ _ _ [jw z4, iv (Xi S 5 ((sort).toNat)), iv sort, .ref 1] _ _
  have w5 : Xi U1 1 3 = Xi S 1 3 := (show Xi U1 1 3 = Xi S 1 3 from by rw [eU1]; exact Xi_ne (by omega))
  have w6 : 0 ≤ Xi S 1 3 ∧ Xi S 1 3 ≤ 200 := hH.c _ _
  refine l_callV rfl rfl rfl (t_vo_addEntry hHU1 sort (Xi S 5 ((sort).toNat)) z4 ⟨by omega, by omega⟩ ⟨by omega, by omega⟩ (by first | assumption | exact (by assumption : LEX U1)) (by first | assumption | omega) _) ?_
  rintro _ T2 ⟨hHT2, w11, rfl, w7, w8, w9⟩
  have hFT2 : FR md_vo_addFirst S T2 := FR.tr hFU1 w11 rfl
  show Rl _ _ _ _ _ [] _ _
  refine l_iload_n rfl rfl ?_
  refine l_ireturn rfl rfl ?_
  have w12 : 0 ≤ Xi T2 1 3 ∧ Xi T2 1 3 ≤ 200 := hHT2.c _ _
  exact ⟨hHT2, hFT2, _, rfl, ⟨by omega, by omega⟩, (by omega), (by assumption), (tn_c (fun j => ((by assumption : FR md_vo_addEntry U1 T2).cx 5 rfl j).1) eU1 (by unfold rg; omega)), (tn_o (fun j => ((by assumption : FR md_vo_addEntry U1 T2).cx 5 rfl j).1) eU1), (by omega)⟩
def md_vo_addDirection : List rec := [(1, 2, 3, 4), (2, 3, 0, 100000), (3, 4, 0, 100000), (4, 5, 0, 100000)]
abbrev Q_vo_addDirection (S : sS) (i : Nat) (xi : String × Nat × String × List Int32) (n : Int) : pst := fun r S1 => HI S1 ∧ FR md_vo_addDirection S S1 ∧ (r = none ∧ (LEX S1) ∧ (∀ j, Xi S1 5 j = Xi S 5 j))
set_option maxRecDepth 100000 in
theorem t_vo_addDirection {S : sS} (hH : HI S) (i : Nat) (xi : String × Nat × String × List Int32) (n : Int) (hi : strT[i]? = some xi) (hn : 0 ≤ n ∧ n ≤ 5) (hL : LEX S) (d : Nat) : Mt lay0 (d + 5) m_vo_addDirection [.ref 1, .ref (SB + i), iv n] S (Q_vo_addDirection S i xi n) := by
  refine Mt_R rfl rfl ?_
  have hF : FR md_vo_addDirection S S := FR.rf
  have hsli := str_sm hi
  refine l_aload_n rfl rfl ?_
  refine l_bipush rfl rfl ?_
  refine l_iload_n rfl rfl ?_
  refine l_aload_n rfl rfl ?_
  refine l_callS rfl rfl (by decide) rfl (t_vo_codeOf hH i xi hi _) ?_
  rintro _ _ ⟨rfl, z1, rfl⟩
  show Rl _ _ _ _ _ [jw z1, iv n, iv 14, .ref 1] _ _
  have w2 : 0 ≤ Xi S 1 3 ∧ Xi S 1 3 ≤ 200 := hH.c _ _
  refine l_callV rfl rfl rfl (t_vo_addEntry hH 14 n z1 ⟨by omega, by omega⟩ ⟨by omega, by omega⟩ (by first | assumption | exact (by assumption : LEX S)) (lexB14 (by omega) (by omega)) _) ?_
  rintro _ T1 ⟨hHT1, w7, rfl, w3, w4, w5⟩
  have hFT1 : FR md_vo_addDirection S T1 := FR.tr hF w7 rfl
  show Rl _ _ _ _ _ [] _ _
  refine l_return rfl rfl ?_
  exact ⟨hHT1, hFT1, rfl, (by assumption), (fun j => (hFT1.cx 5 rfl j).1)⟩
def md_co_addFirst : List rec := [(882, 883, 3, 4), (883, 884, 0, 100000), (884, 885, 0, 100000), (885, 886, 0, 100000), (886, 887, 0, 100000), (887, 888, 0, 100000)]
abbrev Q_co_addFirst (S : sS) (i : Nat) (xi : String × Nat × String × List Int32) (kind : Int) (act : Int) : pst := fun r S1 => HI S1 ∧ FR md_co_addFirst S S1 ∧ (r = none ∧ (Xi S1 882 3 = Xi S 882 3 + 1))
set_option maxRecDepth 100000 in
theorem t_co_addFirst {S : sS} (hH : HI S) (i : Nat) (xi : String × Nat × String × List Int32) (kind : Int) (act : Int) (hi : strT[i]? = some xi) (hkind : -2 ≤ kind ∧ kind ≤ 15) (hact : 0 ≤ act ∧ act ≤ 11) (hc : Xi S 882 3 < 20) (d : Nat) : Mt lay0 (d + 5) m_co_addFirst [.ref 882, .ref (SB + i), iv kind, iv act] S (Q_co_addFirst S i xi kind act) := by
  refine Mt_R rfl rfl ?_
  have hF : FR md_co_addFirst S S := FR.rf
  have hsli := str_sm hi
  have w1 : 0 ≤ Xi S 882 3 ∧ Xi S 882 3 ≤ 20 := hH.c _ _
  refine l_iconst rfl ?_
  refine l_istore rfl rfl rfl ?_
  refine l_aload_n rfl rfl ?_
  refine l_callT rfl rfl (cOkT0 (str_is hi) rfl) (t_js_length hi _) ?_
  rintro _ _ ⟨rfl, rfl⟩
  show Rl _ _ _ _ _ [iv (xi.2.2.2.length : Int)] _ _
  refine l_if_le rfl rfl (by unfold rg; omega) (fun w3 => ?_) (fun w4 => ?_)
  · refine l_aload_n rfl rfl ?_
    refine l_gfr rfl rfl rfl rfl rfl (hH.r 882 6 885 rfl) ?_
    refine l_aload_n rfl rfl ?_
    refine l_gfi rfl rfl rfl rfl rfl ?_
    refine l_iload_n rfl rfl ?_
    refine l_iconst rfl ?_
    refine l_icmp_ne rfl rfl (by unfold rg; omega) (by unfold rg; omega) (fun w5 => ?_) (fun w6 => ?_)
    · refine l_iload rfl rfl ?_
      refine l_iastore (n := 20) rfl rfl (by omega) (by omega) (by unfold rg; omega) ?_
      obtain ⟨U1, eU1⟩ : ∃ T : sS, T = uI S 885 (((Xi S 882 3)).toNat) (Int32.ofInt 0) := ⟨_, rfl⟩
      rw [← eU1]
      have hHU1 : HI U1 := by rw [eU1]; exact HI_w hH (show -1 ≤ 0 by omega) (show 0 ≤ 7 by omega)
      have hFU1 : FR md_co_addFirst S U1 := by rw [eU1]; exact FR.wI hF (mdf_i (r := (885, 886, 0, 100000)) (List.mem_of_getElem? (i := 3) rfl) (inR_i (by omega) (by omega) (by omega) (by omega)))
      have w7 : Xi U1 885 (((Xi S 882 3)).toNat) = 0 := by rw [eU1]; exact Xi_same (by unfold rg; omega)
      refine l_aload_n rfl rfl ?_
      refine l_gfr rfl rfl rfl rfl rfl (hHU1.r 882 7 886 rfl) ?_
      refine l_aload_n rfl rfl ?_
      refine l_gfi rfl rfl rfl rfl rfl ?_
      have w8 : (Xi U1 882 3) = (Xi S 882 3) := (show Xi U1 882 3 = Xi S 882 3 from by rw [eU1]; exact Xi_ne (by omega))
      rw [w8]
      refine l_iload_n rfl rfl ?_
      refine l_iastore (n := 20) rfl rfl (by omega) (by omega) (by unfold rg; omega) ?_
      obtain ⟨U2, eU2⟩ : ∃ T : sS, T = uI U1 886 (((Xi S 882 3)).toNat) (Int32.ofInt kind) := ⟨_, rfl⟩
      rw [← eU2]
      have hHU2 : HI U2 := by rw [eU2]; exact HI_w hHU1 (show -2 ≤ kind by omega) (show kind ≤ 255 by omega)
      have hFU2 : FR md_co_addFirst S U2 := by rw [eU2]; exact FR.wI hFU1 (mdf_i (r := (886, 887, 0, 100000)) (List.mem_of_getElem? (i := 4) rfl) (inR_i (by omega) (by omega) (by omega) (by omega)))
      have w9 : Xi U2 886 (((Xi S 882 3)).toNat) = kind := by rw [eU2]; exact Xi_same (by unfold rg; omega)
      refine l_aload_n rfl rfl ?_
      refine l_gfr rfl rfl rfl rfl rfl (hHU2.r 882 5 884 rfl) ?_
      refine l_aload_n rfl rfl ?_
      refine l_gfi rfl rfl rfl rfl rfl ?_
      have w10 : (Xi U2 882 3) = (Xi S 882 3) := (show Xi U2 882 3 = Xi U1 882 3 from by rw [eU2]; exact Xi_ne (by omega)).trans ((show Xi U1 882 3 = Xi S 882 3 from by rw [eU1]; exact Xi_ne (by omega)))
      rw [w10]
      refine l_iload_n rfl rfl ?_
      refine l_iconst rfl ?_
      refine l_icmp_ne rfl rfl (by unfold rg; omega) (by unfold rg; omega) (fun w11 => ?_) (fun w12 => ?_)
      · refine l_iload rfl rfl ?_
        refine l_iconst rfl ?_
        refine l_iadd rfl ?_
        refine l_iastore (n := 20) rfl rfl (by omega) (by omega) (by unfold rg; omega) ?_
        obtain ⟨U3, eU3⟩ : ∃ T : sS, T = uI U2 884 (((Xi S 882 3)).toNat) (Int32.ofInt (0 + 1)) := ⟨_, rfl⟩
        rw [← eU3]
        have hHU3 : HI U3 := by rw [eU3]; exact HI_w hHU2 (show 0 ≤ (0 + 1) by omega) (show (0 + 1) ≤ 8 by omega)
        have hFU3 : FR md_co_addFirst S U3 := by rw [eU3]; exact FR.wI hFU2 (mdf_i (r := (884, 885, 0, 100000)) (List.mem_of_getElem? (i := 2) rfl) (inR_i (by omega) (by omega) (by omega) (by omega)))
        have w13 : Xi U3 884 (((Xi S 882 3)).toNat) = (0 + 1) := by rw [eU3]; exact Xi_same (by unfold rg; omega)
        refine l_aload_n rfl rfl ?_
        refine l_iload_n rfl rfl ?_
        have w14 : Xi U3 882 3 = Xi S 882 3 := (show Xi U3 882 3 = Xi U2 882 3 from by rw [eU3]; exact Xi_ne (by omega)).trans ( (show Xi U2 882 3 = Xi U1 882 3 from by rw [eU2]; exact Xi_ne (by omega)).trans ((show Xi U1 882 3 = Xi S 882 3 from by rw [eU1]; exact Xi_ne (by omega))))
        have w15 : 0 ≤ Xi S 882 3 ∧ Xi S 882 3 ≤ 20 := hH.c _ _
        refine l_callV rfl rfl rfl (t_co_addAs hHU3 act ⟨by omega, by omega⟩ (by first | assumption | omega) _) ?_
        rintro _ T4 ⟨hHT4, w18, rfl, w16⟩
        have hFT4 : FR md_co_addFirst S T4 := FR.tr hFU3 w18 rfl
        show Rl _ _ _ _ _ [] _ _
        refine l_return rfl rfl ?_
        have w19 : 0 ≤ Xi T4 882 3 ∧ Xi T4 882 3 ≤ 20 := hHT4.c _ _
        exact ⟨hHT4, hFT4, rfl, (by first | assumption | omega)⟩
      · refine l_iload rfl rfl ?_
        refine l_goto rfl rfl ?_
        refine l_iastore (n := 20) rfl rfl (by omega) (by omega) (by unfold rg; omega) ?_
        obtain ⟨U5, eU5⟩ : ∃ T : sS, T = uI U2 884 (((Xi S 882 3)).toNat) (Int32.ofInt 0) := ⟨_, rfl⟩
        rw [← eU5]
        have hHU5 : HI U5 := by rw [eU5]; exact HI_w hHU2 (show 0 ≤ 0 by omega) (show 0 ≤ 8 by omega)
        have hFU5 : FR md_co_addFirst S U5 := by rw [eU5]; exact FR.wI hFU2 (mdf_i (r := (884, 885, 0, 100000)) (List.mem_of_getElem? (i := 2) rfl) (inR_i (by omega) (by omega) (by omega) (by omega)))
        have w20 : Xi U5 884 (((Xi S 882 3)).toNat) = 0 := by rw [eU5]; exact Xi_same (by unfold rg; omega)
        refine l_aload_n rfl rfl ?_
        refine l_iload_n rfl rfl ?_
        have w21 : Xi U5 882 3 = Xi S 882 3 := (show Xi U5 882 3 = Xi U2 882 3 from by rw [eU5]; exact Xi_ne (by omega)).trans ( (show Xi U2 882 3 = Xi U1 882 3 from by rw [eU2]; exact Xi_ne (by omega)).trans ((show Xi U1 882 3 = Xi S 882 3 from by rw [eU1]; exact Xi_ne (by omega))))
        have w22 : 0 ≤ Xi S 882 3 ∧ Xi S 882 3 ≤ 20 := hH.c _ _
        refine l_callV rfl rfl rfl (t_co_addAs hHU5 act ⟨by omega, by omega⟩ (by first | assumption | omega) _) ?_
        rintro _ T6 ⟨hHT6, w25, rfl, w23⟩
        have hFT6 : FR md_co_addFirst S T6 := FR.tr hFU5 w25 rfl
        show Rl _ _ _ _ _ [] _ _
        refine l_return rfl rfl ?_
        have w26 : 0 ≤ Xi T6 882 3 ∧ Xi T6 882 3 ≤ 20 := hHT6.c _ _
        exact ⟨hHT6, hFT6, rfl, (by first | assumption | omega)⟩
    · refine l_iconst rfl ?_
      refine l_goto rfl rfl ?_
      refine l_iastore (n := 20) rfl rfl (by omega) (by omega) (by unfold rg; omega) ?_
      obtain ⟨U7, eU7⟩ : ∃ T : sS, T = uI S 885 (((Xi S 882 3)).toNat) (Int32.ofInt (-1)) := ⟨_, rfl⟩
      rw [← eU7]
      have hHU7 : HI U7 := by rw [eU7]; exact HI_w hH (show -1 ≤ (-1) by omega) (show (-1) ≤ 7 by omega)
      have hFU7 : FR md_co_addFirst S U7 := by rw [eU7]; exact FR.wI hF (mdf_i (r := (885, 886, 0, 100000)) (List.mem_of_getElem? (i := 3) rfl) (inR_i (by omega) (by omega) (by omega) (by omega)))
      have w27 : Xi U7 885 (((Xi S 882 3)).toNat) = (-1) := by rw [eU7]; exact Xi_same (by unfold rg; omega)
      refine l_aload_n rfl rfl ?_
      refine l_gfr rfl rfl rfl rfl rfl (hHU7.r 882 7 886 rfl) ?_
      refine l_aload_n rfl rfl ?_
      refine l_gfi rfl rfl rfl rfl rfl ?_
      have w28 : (Xi U7 882 3) = (Xi S 882 3) := (show Xi U7 882 3 = Xi S 882 3 from by rw [eU7]; exact Xi_ne (by omega))
      rw [w28]
      refine l_iload_n rfl rfl ?_
      refine l_iastore (n := 20) rfl rfl (by omega) (by omega) (by unfold rg; omega) ?_
      obtain ⟨U8, eU8⟩ : ∃ T : sS, T = uI U7 886 (((Xi S 882 3)).toNat) (Int32.ofInt kind) := ⟨_, rfl⟩
      rw [← eU8]
      have hHU8 : HI U8 := by rw [eU8]; exact HI_w hHU7 (show -2 ≤ kind by omega) (show kind ≤ 255 by omega)
      have hFU8 : FR md_co_addFirst S U8 := by rw [eU8]; exact FR.wI hFU7 (mdf_i (r := (886, 887, 0, 100000)) (List.mem_of_getElem? (i := 4) rfl) (inR_i (by omega) (by omega) (by omega) (by omega)))
      have w29 : Xi U8 886 (((Xi S 882 3)).toNat) = kind := by rw [eU8]; exact Xi_same (by unfold rg; omega)
      refine l_aload_n rfl rfl ?_
      refine l_gfr rfl rfl rfl rfl rfl (hHU8.r 882 5 884 rfl) ?_
      refine l_aload_n rfl rfl ?_
      refine l_gfi rfl rfl rfl rfl rfl ?_
      have w30 : (Xi U8 882 3) = (Xi S 882 3) := (show Xi U8 882 3 = Xi U7 882 3 from by rw [eU8]; exact Xi_ne (by omega)).trans ((show Xi U7 882 3 = Xi S 882 3 from by rw [eU7]; exact Xi_ne (by omega)))
      rw [w30]
      refine l_iload_n rfl rfl ?_
      refine l_iconst rfl ?_
      refine l_icmp_ne rfl rfl (by unfold rg; omega) (by unfold rg; omega) (fun w31 => ?_) (fun w32 => ?_)
      · refine l_iload rfl rfl ?_
        refine l_iconst rfl ?_
        refine l_iadd rfl ?_
        refine l_iastore (n := 20) rfl rfl (by omega) (by omega) (by unfold rg; omega) ?_
        obtain ⟨U9, eU9⟩ : ∃ T : sS, T = uI U8 884 (((Xi S 882 3)).toNat) (Int32.ofInt (0 + 1)) := ⟨_, rfl⟩
        rw [← eU9]
        have hHU9 : HI U9 := by rw [eU9]; exact HI_w hHU8 (show 0 ≤ (0 + 1) by omega) (show (0 + 1) ≤ 8 by omega)
        have hFU9 : FR md_co_addFirst S U9 := by rw [eU9]; exact FR.wI hFU8 (mdf_i (r := (884, 885, 0, 100000)) (List.mem_of_getElem? (i := 2) rfl) (inR_i (by omega) (by omega) (by omega) (by omega)))
        have w33 : Xi U9 884 (((Xi S 882 3)).toNat) = (0 + 1) := by rw [eU9]; exact Xi_same (by unfold rg; omega)
        refine l_aload_n rfl rfl ?_
        refine l_iload_n rfl rfl ?_
        have w34 : Xi U9 882 3 = Xi S 882 3 := (show Xi U9 882 3 = Xi U8 882 3 from by rw [eU9]; exact Xi_ne (by omega)).trans ( (show Xi U8 882 3 = Xi U7 882 3 from by rw [eU8]; exact Xi_ne (by omega)).trans ((show Xi U7 882 3 = Xi S 882 3 from by rw [eU7]; exact Xi_ne (by omega))))
        have w35 : 0 ≤ Xi S 882 3 ∧ Xi S 882 3 ≤ 20 := hH.c _ _
        refine l_callV rfl rfl rfl (t_co_addAs hHU9 act ⟨by omega, by omega⟩ (by first | assumption | omega) _) ?_
        rintro _ T10 ⟨hHT10, w38, rfl, w36⟩
        have hFT10 : FR md_co_addFirst S T10 := FR.tr hFU9 w38 rfl
        show Rl _ _ _ _ _ [] _ _
        refine l_return rfl rfl ?_
        have w39 : 0 ≤ Xi T10 882 3 ∧ Xi T10 882 3 ≤ 20 := hHT10.c _ _
        exact ⟨hHT10, hFT10, rfl, (by first | assumption | omega)⟩
      · refine l_iload rfl rfl ?_
        refine l_goto rfl rfl ?_
        refine l_iastore (n := 20) rfl rfl (by omega) (by omega) (by unfold rg; omega) ?_
        obtain ⟨U11, eU11⟩ : ∃ T : sS, T = uI U8 884 (((Xi S 882 3)).toNat) (Int32.ofInt 0) := ⟨_, rfl⟩
        rw [← eU11]
        have hHU11 : HI U11 := by rw [eU11]; exact HI_w hHU8 (show 0 ≤ 0 by omega) (show 0 ≤ 8 by omega)
        have hFU11 : FR md_co_addFirst S U11 := by rw [eU11]; exact FR.wI hFU8 (mdf_i (r := (884, 885, 0, 100000)) (List.mem_of_getElem? (i := 2) rfl) (inR_i (by omega) (by omega) (by omega) (by omega)))
        have w40 : Xi U11 884 (((Xi S 882 3)).toNat) = 0 := by rw [eU11]; exact Xi_same (by unfold rg; omega)
        refine l_aload_n rfl rfl ?_
        refine l_iload_n rfl rfl ?_
        have w41 : Xi U11 882 3 = Xi S 882 3 := (show Xi U11 882 3 = Xi U8 882 3 from by rw [eU11]; exact Xi_ne (by omega)).trans ( (show Xi U8 882 3 = Xi U7 882 3 from by rw [eU8]; exact Xi_ne (by omega)).trans ((show Xi U7 882 3 = Xi S 882 3 from by rw [eU7]; exact Xi_ne (by omega))))
        have w42 : 0 ≤ Xi S 882 3 ∧ Xi S 882 3 ≤ 20 := hH.c _ _
        refine l_callV rfl rfl rfl (t_co_addAs hHU11 act ⟨by omega, by omega⟩ (by first | assumption | omega) _) ?_
        rintro _ T12 ⟨hHT12, w45, rfl, w43⟩
        have hFT12 : FR md_co_addFirst S T12 := FR.tr hFU11 w45 rfl
        show Rl _ _ _ _ _ [] _ _
        refine l_return rfl rfl ?_
        have w46 : 0 ≤ Xi T12 882 3 ∧ Xi T12 882 3 ≤ 20 := hHT12.c _ _
        exact ⟨hHT12, hFT12, rfl, (by first | assumption | omega)⟩
  · refine l_aload_n rfl rfl ?_
    refine l_gfr rfl rfl rfl rfl rfl (hH.r 882 8 887 rfl) ?_
    refine l_aload_n rfl rfl ?_
    refine l_gfi rfl rfl rfl rfl rfl ?_
    refine l_bipush rfl rfl ?_
    refine l_imul rfl ?_
    refine l_aload_n rfl rfl ?_
    refine l_callS rfl rfl (by decide) rfl (t_vo_codeOf hH i xi hi _) ?_
    rintro _ _ ⟨rfl, z47, rfl⟩
    show Rl _ _ _ _ _ [jw z47, iv ((Xi S 882 3) * 8), .ref 887] _ _
    refine l_lastore (n := 160) rfl rfl (by omega) (by omega) (by unfold rg; omega) ?_
    obtain ⟨U13, eU13⟩ : ∃ T : sS, T = uJ S 887 ((((Xi S 882 3) * 8)).toNat) (Int64.ofInt z47) := ⟨_, rfl⟩
    rw [← eU13]
    have hHU13 : HI U13 := by rw [eU13]; exact HI_J hH
    have hFU13 : FR md_co_addFirst S U13 := by rw [eU13]; exact FR.wJ hF (mdf_i (r := (887, 888, 0, 100000)) (List.mem_of_getElem? (i := 5) rfl) (inR_i (by omega) (by omega) (by omega) (by omega)))
    refine l_iinc rfl rfl rfl rfl ?_
    refine l_aload_n rfl rfl ?_
    refine l_gfr rfl rfl rfl rfl rfl (hHU13.r 882 6 885 rfl) ?_
    refine l_aload_n rfl rfl ?_
    refine l_gfi rfl rfl rfl rfl rfl ?_
    have w48 : (Xi U13 882 3) = (Xi S 882 3) := (show Xi U13 882 3 = Xi S 882 3 from by rw [eU13]; rfl)
    rw [w48]
    refine l_iload_n rfl rfl ?_
    refine l_iconst rfl ?_
    refine l_icmp_ne rfl rfl (by unfold rg; omega) (by unfold rg; omega) (fun w49 => ?_) (fun w50 => ?_)
    · refine l_iload rfl rfl ?_
      refine l_iastore (n := 20) rfl rfl (by omega) (by omega) (by unfold rg; omega) ?_
      obtain ⟨U14, eU14⟩ : ∃ T : sS, T = uI U13 885 (((Xi S 882 3)).toNat) (Int32.ofInt (0 + 1)) := ⟨_, rfl⟩
      rw [← eU14]
      have hHU14 : HI U14 := by rw [eU14]; exact HI_w hHU13 (show -1 ≤ (0 + 1) by omega) (show (0 + 1) ≤ 7 by omega)
      have hFU14 : FR md_co_addFirst S U14 := by rw [eU14]; exact FR.wI hFU13 (mdf_i (r := (885, 886, 0, 100000)) (List.mem_of_getElem? (i := 3) rfl) (inR_i (by omega) (by omega) (by omega) (by omega)))
      have w51 : Xi U14 885 (((Xi S 882 3)).toNat) = (0 + 1) := by rw [eU14]; exact Xi_same (by unfold rg; omega)
      refine l_aload_n rfl rfl ?_
      refine l_gfr rfl rfl rfl rfl rfl (hHU14.r 882 7 886 rfl) ?_
      refine l_aload_n rfl rfl ?_
      refine l_gfi rfl rfl rfl rfl rfl ?_
      have w52 : (Xi U14 882 3) = (Xi S 882 3) := (show Xi U14 882 3 = Xi U13 882 3 from by rw [eU14]; exact Xi_ne (by omega)).trans ((show Xi U13 882 3 = Xi S 882 3 from by rw [eU13]; rfl))
      rw [w52]
      refine l_iload_n rfl rfl ?_
      refine l_iastore (n := 20) rfl rfl (by omega) (by omega) (by unfold rg; omega) ?_
      obtain ⟨U15, eU15⟩ : ∃ T : sS, T = uI U14 886 (((Xi S 882 3)).toNat) (Int32.ofInt kind) := ⟨_, rfl⟩
      rw [← eU15]
      have hHU15 : HI U15 := by rw [eU15]; exact HI_w hHU14 (show -2 ≤ kind by omega) (show kind ≤ 255 by omega)
      have hFU15 : FR md_co_addFirst S U15 := by rw [eU15]; exact FR.wI hFU14 (mdf_i (r := (886, 887, 0, 100000)) (List.mem_of_getElem? (i := 4) rfl) (inR_i (by omega) (by omega) (by omega) (by omega)))
      have w53 : Xi U15 886 (((Xi S 882 3)).toNat) = kind := by rw [eU15]; exact Xi_same (by unfold rg; omega)
      refine l_aload_n rfl rfl ?_
      refine l_gfr rfl rfl rfl rfl rfl (hHU15.r 882 5 884 rfl) ?_
      refine l_aload_n rfl rfl ?_
      refine l_gfi rfl rfl rfl rfl rfl ?_
      have w54 : (Xi U15 882 3) = (Xi S 882 3) := (show Xi U15 882 3 = Xi U14 882 3 from by rw [eU15]; exact Xi_ne (by omega)).trans ( (show Xi U14 882 3 = Xi U13 882 3 from by rw [eU14]; exact Xi_ne (by omega)).trans ((show Xi U13 882 3 = Xi S 882 3 from by rw [eU13]; rfl)))
      rw [w54]
      refine l_iload_n rfl rfl ?_
      refine l_iconst rfl ?_
      refine l_icmp_ne rfl rfl (by unfold rg; omega) (by unfold rg; omega) (fun w55 => ?_) (fun w56 => ?_)
      · refine l_iload rfl rfl ?_
        refine l_iconst rfl ?_
        refine l_iadd rfl ?_
        refine l_iastore (n := 20) rfl rfl (by omega) (by omega) (by unfold rg; omega) ?_
        obtain ⟨U16, eU16⟩ : ∃ T : sS, T = uI U15 884 (((Xi S 882 3)).toNat) (Int32.ofInt ((0 + 1) + 1)) := ⟨_, rfl⟩
        rw [← eU16]
        have hHU16 : HI U16 := by rw [eU16]; exact HI_w hHU15 (show 0 ≤ ((0 + 1) + 1) by omega) (show ((0 + 1) + 1) ≤ 8 by omega)
        have hFU16 : FR md_co_addFirst S U16 := by rw [eU16]; exact FR.wI hFU15 (mdf_i (r := (884, 885, 0, 100000)) (List.mem_of_getElem? (i := 2) rfl) (inR_i (by omega) (by omega) (by omega) (by omega)))
        have w57 : Xi U16 884 (((Xi S 882 3)).toNat) = ((0 + 1) + 1) := by rw [eU16]; exact Xi_same (by unfold rg; omega)
        refine l_aload_n rfl rfl ?_
        refine l_iload_n rfl rfl ?_
        have w58 : Xi U16 882 3 = Xi S 882 3 := (show Xi U16 882 3 = Xi U15 882 3 from by rw [eU16]; exact Xi_ne (by omega)).trans ( (show Xi U15 882 3 = Xi U14 882 3 from by rw [eU15]; exact Xi_ne (by omega)).trans ( (show Xi U14 882 3 = Xi U13 882 3 from by rw [eU14]; exact Xi_ne (by omega)).trans ((show Xi U13 882 3 = Xi S 882 3 from by rw [eU13]; rfl))))
        have w59 : 0 ≤ Xi S 882 3 ∧ Xi S 882 3 ≤ 20 := hH.c _ _
        refine l_callV rfl rfl rfl (t_co_addAs hHU16 act ⟨by omega, by omega⟩ (by first | assumption | omega) _) ?_
        rintro _ T17 ⟨hHT17, w62, rfl, w60⟩
        have hFT17 : FR md_co_addFirst S T17 := FR.tr hFU16 w62 rfl
        show Rl _ _ _ _ _ [] _ _
        refine l_return rfl rfl ?_
        have w63 : 0 ≤ Xi T17 882 3 ∧ Xi T17 882 3 ≤ 20 := hHT17.c _ _
        exact ⟨hHT17, hFT17, rfl, (by first | assumption | omega)⟩
      · refine l_iload rfl rfl ?_
        refine l_goto rfl rfl ?_
        refine l_iastore (n := 20) rfl rfl (by omega) (by omega) (by unfold rg; omega) ?_
        obtain ⟨U18, eU18⟩ : ∃ T : sS, T = uI U15 884 (((Xi S 882 3)).toNat) (Int32.ofInt (0 + 1)) := ⟨_, rfl⟩
        rw [← eU18]
        have hHU18 : HI U18 := by rw [eU18]; exact HI_w hHU15 (show 0 ≤ (0 + 1) by omega) (show (0 + 1) ≤ 8 by omega)
        have hFU18 : FR md_co_addFirst S U18 := by rw [eU18]; exact FR.wI hFU15 (mdf_i (r := (884, 885, 0, 100000)) (List.mem_of_getElem? (i := 2) rfl) (inR_i (by omega) (by omega) (by omega) (by omega)))
        have w64 : Xi U18 884 (((Xi S 882 3)).toNat) = (0 + 1) := by rw [eU18]; exact Xi_same (by unfold rg; omega)
        refine l_aload_n rfl rfl ?_
        refine l_iload_n rfl rfl ?_
        have w65 : Xi U18 882 3 = Xi S 882 3 := (show Xi U18 882 3 = Xi U15 882 3 from by rw [eU18]; exact Xi_ne (by omega)).trans ( (show Xi U15 882 3 = Xi U14 882 3 from by rw [eU15]; exact Xi_ne (by omega)).trans ( (show Xi U14 882 3 = Xi U13 882 3 from by rw [eU14]; exact Xi_ne (by omega)).trans ((show Xi U13 882 3 = Xi S 882 3 from by rw [eU13]; rfl))))
        have w66 : 0 ≤ Xi S 882 3 ∧ Xi S 882 3 ≤ 20 := hH.c _ _
        refine l_callV rfl rfl rfl (t_co_addAs hHU18 act ⟨by omega, by omega⟩ (by first | assumption | omega) _) ?_
        rintro _ T19 ⟨hHT19, w69, rfl, w67⟩
        have hFT19 : FR md_co_addFirst S T19 := FR.tr hFU18 w69 rfl
        show Rl _ _ _ _ _ [] _ _
        refine l_return rfl rfl ?_
        have w70 : 0 ≤ Xi T19 882 3 ∧ Xi T19 882 3 ≤ 20 := hHT19.c _ _
        exact ⟨hHT19, hFT19, rfl, (by first | assumption | omega)⟩
    · refine l_iconst rfl ?_
      refine l_goto rfl rfl ?_
      refine l_iastore (n := 20) rfl rfl (by omega) (by omega) (by unfold rg; omega) ?_
      obtain ⟨U20, eU20⟩ : ∃ T : sS, T = uI U13 885 (((Xi S 882 3)).toNat) (Int32.ofInt (-1)) := ⟨_, rfl⟩
      rw [← eU20]
      have hHU20 : HI U20 := by rw [eU20]; exact HI_w hHU13 (show -1 ≤ (-1) by omega) (show (-1) ≤ 7 by omega)
      have hFU20 : FR md_co_addFirst S U20 := by rw [eU20]; exact FR.wI hFU13 (mdf_i (r := (885, 886, 0, 100000)) (List.mem_of_getElem? (i := 3) rfl) (inR_i (by omega) (by omega) (by omega) (by omega)))
      have w71 : Xi U20 885 (((Xi S 882 3)).toNat) = (-1) := by rw [eU20]; exact Xi_same (by unfold rg; omega)
      refine l_aload_n rfl rfl ?_
      refine l_gfr rfl rfl rfl rfl rfl (hHU20.r 882 7 886 rfl) ?_
      refine l_aload_n rfl rfl ?_
      refine l_gfi rfl rfl rfl rfl rfl ?_
      have w72 : (Xi U20 882 3) = (Xi S 882 3) := (show Xi U20 882 3 = Xi U13 882 3 from by rw [eU20]; exact Xi_ne (by omega)).trans ((show Xi U13 882 3 = Xi S 882 3 from by rw [eU13]; rfl))
      rw [w72]
      refine l_iload_n rfl rfl ?_
      refine l_iastore (n := 20) rfl rfl (by omega) (by omega) (by unfold rg; omega) ?_
      obtain ⟨U21, eU21⟩ : ∃ T : sS, T = uI U20 886 (((Xi S 882 3)).toNat) (Int32.ofInt kind) := ⟨_, rfl⟩
      rw [← eU21]
      have hHU21 : HI U21 := by rw [eU21]; exact HI_w hHU20 (show -2 ≤ kind by omega) (show kind ≤ 255 by omega)
      have hFU21 : FR md_co_addFirst S U21 := by rw [eU21]; exact FR.wI hFU20 (mdf_i (r := (886, 887, 0, 100000)) (List.mem_of_getElem? (i := 4) rfl) (inR_i (by omega) (by omega) (by omega) (by omega)))
      have w73 : Xi U21 886 (((Xi S 882 3)).toNat) = kind := by rw [eU21]; exact Xi_same (by unfold rg; omega)
      refine l_aload_n rfl rfl ?_
      refine l_gfr rfl rfl rfl rfl rfl (hHU21.r 882 5 884 rfl) ?_
      refine l_aload_n rfl rfl ?_
      refine l_gfi rfl rfl rfl rfl rfl ?_
      have w74 : (Xi U21 882 3) = (Xi S 882 3) := (show Xi U21 882 3 = Xi U20 882 3 from by rw [eU21]; exact Xi_ne (by omega)).trans ( (show Xi U20 882 3 = Xi U13 882 3 from by rw [eU20]; exact Xi_ne (by omega)).trans ((show Xi U13 882 3 = Xi S 882 3 from by rw [eU13]; rfl)))
      rw [w74]
      refine l_iload_n rfl rfl ?_
      refine l_iconst rfl ?_
      refine l_icmp_ne rfl rfl (by unfold rg; omega) (by unfold rg; omega) (fun w75 => ?_) (fun w76 => ?_)
      · refine l_iload rfl rfl ?_
        refine l_iconst rfl ?_
        refine l_iadd rfl ?_
        refine l_iastore (n := 20) rfl rfl (by omega) (by omega) (by unfold rg; omega) ?_
        obtain ⟨U22, eU22⟩ : ∃ T : sS, T = uI U21 884 (((Xi S 882 3)).toNat) (Int32.ofInt ((0 + 1) + 1)) := ⟨_, rfl⟩
        rw [← eU22]
        have hHU22 : HI U22 := by rw [eU22]; exact HI_w hHU21 (show 0 ≤ ((0 + 1) + 1) by omega) (show ((0 + 1) + 1) ≤ 8 by omega)
        have hFU22 : FR md_co_addFirst S U22 := by rw [eU22]; exact FR.wI hFU21 (mdf_i (r := (884, 885, 0, 100000)) (List.mem_of_getElem? (i := 2) rfl) (inR_i (by omega) (by omega) (by omega) (by omega)))
        have w77 : Xi U22 884 (((Xi S 882 3)).toNat) = ((0 + 1) + 1) := by rw [eU22]; exact Xi_same (by unfold rg; omega)
        refine l_aload_n rfl rfl ?_
        refine l_iload_n rfl rfl ?_
        have w78 : Xi U22 882 3 = Xi S 882 3 := (show Xi U22 882 3 = Xi U21 882 3 from by rw [eU22]; exact Xi_ne (by omega)).trans ( (show Xi U21 882 3 = Xi U20 882 3 from by rw [eU21]; exact Xi_ne (by omega)).trans ( (show Xi U20 882 3 = Xi U13 882 3 from by rw [eU20]; exact Xi_ne (by omega)).trans ((show Xi U13 882 3 = Xi S 882 3 from by rw [eU13]; rfl))))
        have w79 : 0 ≤ Xi S 882 3 ∧ Xi S 882 3 ≤ 20 := hH.c _ _
        refine l_callV rfl rfl rfl (t_co_addAs hHU22 act ⟨by omega, by omega⟩ (by first | assumption | omega) _) ?_
        rintro _ T23 ⟨hHT23, w82, rfl, w80⟩
        have hFT23 : FR md_co_addFirst S T23 := FR.tr hFU22 w82 rfl
        show Rl _ _ _ _ _ [] _ _
        refine l_return rfl rfl ?_
        have w83 : 0 ≤ Xi T23 882 3 ∧ Xi T23 882 3 ≤ 20 := hHT23.c _ _
        exact ⟨hHT23, hFT23, rfl, (by first | assumption | omega)⟩
      · refine l_iload rfl rfl ?_
        refine l_goto rfl rfl ?_
        refine l_iastore (n := 20) rfl rfl (by omega) (by omega) (by unfold rg; omega) ?_
        obtain ⟨U24, eU24⟩ : ∃ T : sS, T = uI U21 884 (((Xi S 882 3)).toNat) (Int32.ofInt (0 + 1)) := ⟨_, rfl⟩
        rw [← eU24]
        have hHU24 : HI U24 := by rw [eU24]; exact HI_w hHU21 (show 0 ≤ (0 + 1) by omega) (show (0 + 1) ≤ 8 by omega)
        have hFU24 : FR md_co_addFirst S U24 := by rw [eU24]; exact FR.wI hFU21 (mdf_i (r := (884, 885, 0, 100000)) (List.mem_of_getElem? (i := 2) rfl) (inR_i (by omega) (by omega) (by omega) (by omega)))
        have w84 : Xi U24 884 (((Xi S 882 3)).toNat) = (0 + 1) := by rw [eU24]; exact Xi_same (by unfold rg; omega)
        refine l_aload_n rfl rfl ?_
        refine l_iload_n rfl rfl ?_
        have w85 : Xi U24 882 3 = Xi S 882 3 := (show Xi U24 882 3 = Xi U21 882 3 from by rw [eU24]; exact Xi_ne (by omega)).trans ( (show Xi U21 882 3 = Xi U20 882 3 from by rw [eU21]; exact Xi_ne (by omega)).trans ( (show Xi U20 882 3 = Xi U13 882 3 from by rw [eU20]; exact Xi_ne (by omega)).trans ((show Xi U13 882 3 = Xi S 882 3 from by rw [eU13]; rfl))))
        have w86 : 0 ≤ Xi S 882 3 ∧ Xi S 882 3 ≤ 20 := hH.c _ _
        refine l_callV rfl rfl rfl (t_co_addAs hHU24 act ⟨by omega, by omega⟩ (by first | assumption | omega) _) ?_
        rintro _ T25 ⟨hHT25, w89, rfl, w87⟩
        have hFT25 : FR md_co_addFirst S T25 := FR.tr hFU24 w89 rfl
        show Rl _ _ _ _ _ [] _ _
        refine l_return rfl rfl ?_
        have w90 : 0 ≤ Xi T25 882 3 ∧ Xi T25 882 3 ≤ 20 := hHT25.c _ _
        exact ⟨hHT25, hFT25, rfl, (by first | assumption | omega)⟩
def md_co_startAgain : List rec := [(882, 883, 3, 4), (883, 884, 0, 100000), (884, 885, 0, 100000), (885, 886, 0, 100000), (886, 887, 0, 100000), (887, 888, 0, 100000)]
abbrev Q_co_startAgain (S : sS) : pst := fun r S1 => HI S1 ∧ FR md_co_startAgain S S1 ∧ (r = none ∧ (Xi S1 882 3 = 7))
set_option maxRecDepth 100000 in
theorem t_co_startAgain {S : sS} (hH : HI S) (d : Nat) : Mt lay0 (d + 6) m_co_startAgain [.ref 882] S (Q_co_startAgain S) := by
  refine Mt_R rfl rfl ?_
  have hF : FR md_co_startAgain S S := FR.rf
  refine l_aload_n rfl rfl ?_
  refine l_iconst rfl ?_
  refine l_pfi rfl rfl rfl rfl ?_
  obtain ⟨U1, eU1⟩ : ∃ T : sS, T = uI S 882 3 (Int32.ofInt 0) := ⟨_, rfl⟩
  rw [← eU1]
  have hHU1 : HI U1 := by rw [eU1]; exact HI_w hH (show 0 ≤ 0 by omega) (show 0 ≤ 20 by omega)
  have hFU1 : FR md_co_startAgain S U1 := by rw [eU1]; exact FR.wI hF (mdf_i (r := (882, 883, 3, 4)) (List.mem_of_getElem? (i := 0) rfl) (inR_i (by omega) (by omega) (by omega) (by omega)))
  have w1 : Xi U1 882 3 = 0 := by rw [eU1]; exact Xi_same (by unfold rg; omega)
  refine l_aload_n rfl rfl ?_
  refine l_ldcR (i := 28) rfl rfl ?_
  refine l_iconst rfl ?_
  refine l_iconst rfl ?_
  have w2 : 0 ≤ Xi U1 882 3 ∧ Xi U1 882 3 ≤ 20 := hHU1.c _ _
  refine l_callV rfl rfl rfl (t_co_addFirst hHU1 28 _ (-1) 0 rfl ⟨by omega, by omega⟩ ⟨by omega, by omega⟩ (by first | assumption | omega) _) ?_
  rintro _ T2 ⟨hHT2, w5, rfl, w3⟩
  have hFT2 : FR md_co_startAgain S T2 := FR.tr hFU1 w5 rfl
  show Rl _ _ _ _ _ [] _ _
  refine l_aload_n rfl rfl ?_
  refine l_ldcR (i := 29) rfl rfl ?_
  refine l_iconst rfl ?_
  refine l_iconst rfl ?_
  have w6 : 0 ≤ Xi T2 882 3 ∧ Xi T2 882 3 ≤ 20 := hHT2.c _ _
  refine l_callV rfl rfl rfl (t_co_addFirst hHT2 29 _ 0 1 rfl ⟨by omega, by omega⟩ ⟨by omega, by omega⟩ (by first | assumption | omega) _) ?_
  rintro _ T3 ⟨hHT3, w9, rfl, w7⟩
  have hFT3 : FR md_co_startAgain S T3 := FR.tr hFT2 w9 rfl
  show Rl _ _ _ _ _ [] _ _
  refine l_aload_n rfl rfl ?_
  refine l_ldcR (i := 30) rfl rfl ?_
  refine l_iconst rfl ?_
  refine l_iconst rfl ?_
  have w10 : 0 ≤ Xi T3 882 3 ∧ Xi T3 882 3 ≤ 20 := hHT3.c _ _
  refine l_callV rfl rfl rfl (t_co_addFirst hHT3 30 _ 0 1 rfl ⟨by omega, by omega⟩ ⟨by omega, by omega⟩ (by first | assumption | omega) _) ?_
  rintro _ T4 ⟨hHT4, w13, rfl, w11⟩
  have hFT4 : FR md_co_startAgain S T4 := FR.tr hFT3 w13 rfl
  show Rl _ _ _ _ _ [] _ _
  refine l_aload_n rfl rfl ?_
  refine l_ldcR (i := 31) rfl rfl ?_
  refine l_iconst rfl ?_
  refine l_iconst rfl ?_
  have w14 : 0 ≤ Xi T4 882 3 ∧ Xi T4 882 3 ≤ 20 := hHT4.c _ _
  refine l_callV rfl rfl rfl (t_co_addFirst hHT4 31 _ 0 2 rfl ⟨by omega, by omega⟩ ⟨by omega, by omega⟩ (by first | assumption | omega) _) ?_
  rintro _ T5 ⟨hHT5, w17, rfl, w15⟩
  have hFT5 : FR md_co_startAgain S T5 := FR.tr hFT4 w17 rfl
  show Rl _ _ _ _ _ [] _ _
  refine l_aload_n rfl rfl ?_
  refine l_ldcR (i := 32) rfl rfl ?_
  refine l_iconst rfl ?_
  refine l_iconst rfl ?_
  have w18 : 0 ≤ Xi T5 882 3 ∧ Xi T5 882 3 ≤ 20 := hHT5.c _ _
  refine l_callV rfl rfl rfl (t_co_addFirst hHT5 32 _ 0 3 rfl ⟨by omega, by omega⟩ ⟨by omega, by omega⟩ (by first | assumption | omega) _) ?_
  rintro _ T6 ⟨hHT6, w21, rfl, w19⟩
  have hFT6 : FR md_co_startAgain S T6 := FR.tr hFT5 w21 rfl
  show Rl _ _ _ _ _ [] _ _
  refine l_aload_n rfl rfl ?_
  refine l_ldcR (i := 33) rfl rfl ?_
  refine l_bipush rfl rfl ?_
  refine l_iconst rfl ?_
  have w22 : 0 ≤ Xi T6 882 3 ∧ Xi T6 882 3 ≤ 20 := hHT6.c _ _
  refine l_callV rfl rfl rfl (t_co_addFirst hHT6 33 _ (-2) 4 rfl ⟨by omega, by omega⟩ ⟨by omega, by omega⟩ (by first | assumption | omega) _) ?_
  rintro _ T7 ⟨hHT7, w25, rfl, w23⟩
  have hFT7 : FR md_co_startAgain S T7 := FR.tr hFT6 w25 rfl
  show Rl _ _ _ _ _ [] _ _
  refine l_aload_n rfl rfl ?_
  refine l_ldcR (i := 34) rfl rfl ?_
  refine l_bipush rfl rfl ?_
  refine l_iconst rfl ?_
  have w26 : 0 ≤ Xi T7 882 3 ∧ Xi T7 882 3 ≤ 20 := hHT7.c _ _
  refine l_callV rfl rfl rfl (t_co_addFirst hHT7 34 _ (-2) 4 rfl ⟨by omega, by omega⟩ ⟨by omega, by omega⟩ (by first | assumption | omega) _) ?_
  rintro _ T8 ⟨hHT8, w29, rfl, w27⟩
  have hFT8 : FR md_co_startAgain S T8 := FR.tr hFT7 w29 rfl
  show Rl _ _ _ _ _ [] _ _
  refine l_return rfl rfl ?_
  have w30 : 0 ≤ Xi T8 882 3 ∧ Xi T8 882 3 ≤ 20 := hHT8.c _ _
  exact ⟨hHT8, hFT8, rfl, (by first | assumption | omega)⟩
