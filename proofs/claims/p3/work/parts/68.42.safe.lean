/-! SAFETY of methods: printed by wip/safe (vc.py, decl.py) -/
/-! SAFETY: rules: every other clause stays -/
def KCL (S T : sS) (c : Nat) : Prop := ∀ k j : Nat, k < 600 → k ≠ c → Xi T (276 + k) j = Xi S (276 + k) j
theorem KCL.rf {S : sS} {c : Nat} : KCL S S c := fun _ _ _ _ => rfl
theorem kcl_w {S T U : sS} {c j : Nat} {v : Int32} (e : U = uI T (276 + c) j v) (h : KCL S T c) : KCL S U c := fun k i hk hn => by
  rw [e, Xi_ne (by omega)]; exact h k i hk hn
theorem kcl_o {S T U : sS} {c x j : Nat} {v : Int32} (e : U = uI T x j v) (hx : x < 276 ∨ 876 ≤ x) (h : KCL S T c) : KCL S U c := fun k i hk hn => by
  rw [e, Xi_ne (by omega)]; exact h k i hk hn
theorem kcl_tr {S T U : sS} {c : Nat} (h : KCL S T c) (g : KCL T U c) : KCL S U c := fun k i hk hn => (g k i hk hn).trans (h k i hk hn)
theorem kcl_f {l : List rec} {S T U : sS} {c : Nat} (f : FR l T U) (e : kdis l [(276, 876)] = true) (h : KCL S T c) : KCL S U c := fun k i hk hn => by
  have q := (f.smk e).x (276 + k) (by unfold inK; simp only [List.any_cons, List.any_nil, Bool.or_false, Bool.and_eq_true]; exact ⟨Nat.ble_eq_true_of_le (by omega), by unfold Nat.blt; exact Nat.ble_eq_true_of_le (by omega)⟩) i
  rw [q]; exact h k i hk hn
def md_cl_start__2 : List rec := [(276, 876, 0, 1), (276, 876, 1, 2), (276, 876, 2, 3), (276, 876, 3, 4), (276, 876, 4, 5), (276, 876, 5, 6), (276, 876, 6, 7)]
abbrev Q_cl_start__2 (S : sS) (c : Nat) (form : Int) : pst := fun r S1 => HI S1 ∧ FR md_cl_start__2 S S1 ∧ (r = none ∧ (KCL S S1 c) ∧ (Xi S1 (276 + c) 0 = form ∧ Xi S1 (276 + c) 1 = 0 ∧ Xi S1 (276 + c) 2 = -1 ∧ Xi S1 (276 + c) 3 = -1 ∧ Xi S1 (276 + c) 4 = 0 ∧ Xi S1 (276 + c) 5 = 0 ∧ Xi S1 (276 + c) 6 = -1))
set_option maxRecDepth 100000 in
theorem t_cl_start__2 {S : sS} (hH : HI S) (c : Nat) (form : Int) (hc : c < 600) (hform : 0 ≤ form ∧ form ≤ 11) (d : Nat) : Mt lay0 (d + 1) m_cl_start [.ref (276 + c), iv form] S (Q_cl_start__2 S c form) := by
  refine Mt_R rfl rfl ?_
  have hF : FR md_cl_start__2 S S := FR.rf
  refine l_aload_n rfl rfl ?_
  refine l_iload_n rfl rfl ?_
  refine l_pfi rfl rfl (layClW (by omega) rfl) rfl ?_
  obtain ⟨U1, eU1⟩ : ∃ T : sS, T = uI S (276 + c) 0 (Int32.ofInt form) := ⟨_, rfl⟩
  rw [← eU1]
  have hHU1 : HI U1 := by rw [eU1]; exact HI_w hH (by rw [lh_cl0 (by omega)]; omega) (by rw [lh_cl0 (by omega)]; omega)
  have hFU1 : FR md_cl_start__2 S U1 := by rw [eU1]; exact FR.wI hF (mdf_i (r := (276, 876, 0, 1)) (List.mem_of_getElem? (i := 0) rfl) (inR_i (by omega) (by omega) (by omega) (by omega)))
  have w1 : Xi U1 (276 + c) 0 = form := by rw [eU1]; exact Xi_same (by unfold rg; omega)
  have kc0 : KCL S U1 c := kcl_w eU1 KCL.rf
  have x0_0 : Xi U1 (276 + c) 0 = form := by rw [eU1]; exact Xi_same (by unfold rg; omega)
  refine l_aload_n rfl rfl ?_
  refine l_iconst rfl ?_
  refine l_pfz rfl rfl (layClW (by omega) rfl) rfl (by omega) ?_
  obtain ⟨U2, eU2⟩ : ∃ T : sS, T = uI U1 (276 + c) 1 (Int32.ofInt 0) := ⟨_, rfl⟩
  rw [← eU2]
  have hHU2 : HI U2 := by rw [eU2]; exact HI_w hHU1 (by rw [lh_cl1 (by omega)]; omega) (by rw [lh_cl1 (by omega)]; omega)
  have hFU2 : FR md_cl_start__2 S U2 := by rw [eU2]; exact FR.wI hFU1 (mdf_i (r := (276, 876, 1, 2)) (List.mem_of_getElem? (i := 1) rfl) (inR_i (by omega) (by omega) (by omega) (by omega)))
  have w2 : Xi U2 (276 + c) 1 = 0 := by rw [eU2]; exact Xi_same (by unfold rg; omega)
  have kc1 : KCL S U2 c := kcl_w eU2 kc0
  have x1_0 : Xi U2 (276 + c) 0 = form := by rw [eU2, Xi_ne (by omega)]; exact x0_0
  have x1_1 : Xi U2 (276 + c) 1 = 0 := by rw [eU2]; exact Xi_same (by unfold rg; omega)
  refine l_aload_n rfl rfl ?_
  refine l_iconst rfl ?_
  refine l_pfi rfl rfl (layClW (by omega) rfl) rfl ?_
  obtain ⟨U3, eU3⟩ : ∃ T : sS, T = uI U2 (276 + c) 2 (Int32.ofInt (-1)) := ⟨_, rfl⟩
  rw [← eU3]
  have hHU3 : HI U3 := by rw [eU3]; exact HI_w hHU2 (by rw [lh_cl2 (by omega)]; omega) (by rw [lh_cl2 (by omega)]; omega)
  have hFU3 : FR md_cl_start__2 S U3 := by rw [eU3]; exact FR.wI hFU2 (mdf_i (r := (276, 876, 2, 3)) (List.mem_of_getElem? (i := 2) rfl) (inR_i (by omega) (by omega) (by omega) (by omega)))
  have w3 : Xi U3 (276 + c) 2 = (-1) := by rw [eU3]; exact Xi_same (by unfold rg; omega)
  have kc2 : KCL S U3 c := kcl_w eU3 kc1
  have x2_0 : Xi U3 (276 + c) 0 = form := by rw [eU3, Xi_ne (by omega)]; exact x1_0
  have x2_1 : Xi U3 (276 + c) 1 = 0 := by rw [eU3, Xi_ne (by omega)]; exact x1_1
  have x2_2 : Xi U3 (276 + c) 2 = -1 := by rw [eU3]; exact Xi_same (by unfold rg; omega)
  refine l_aload_n rfl rfl ?_
  refine l_iconst rfl ?_
  refine l_pfi rfl rfl (layClW (by omega) rfl) rfl ?_
  obtain ⟨U4, eU4⟩ : ∃ T : sS, T = uI U3 (276 + c) 3 (Int32.ofInt (-1)) := ⟨_, rfl⟩
  rw [← eU4]
  have hHU4 : HI U4 := by rw [eU4]; exact HI_w hHU3 (by rw [lh_cl3 (by omega)]; omega) (by rw [lh_cl3 (by omega)]; omega)
  have hFU4 : FR md_cl_start__2 S U4 := by rw [eU4]; exact FR.wI hFU3 (mdf_i (r := (276, 876, 3, 4)) (List.mem_of_getElem? (i := 3) rfl) (inR_i (by omega) (by omega) (by omega) (by omega)))
  have w4 : Xi U4 (276 + c) 3 = (-1) := by rw [eU4]; exact Xi_same (by unfold rg; omega)
  have kc3 : KCL S U4 c := kcl_w eU4 kc2
  have x3_0 : Xi U4 (276 + c) 0 = form := by rw [eU4, Xi_ne (by omega)]; exact x2_0
  have x3_1 : Xi U4 (276 + c) 1 = 0 := by rw [eU4, Xi_ne (by omega)]; exact x2_1
  have x3_2 : Xi U4 (276 + c) 2 = -1 := by rw [eU4, Xi_ne (by omega)]; exact x2_2
  have x3_3 : Xi U4 (276 + c) 3 = -1 := by rw [eU4]; exact Xi_same (by unfold rg; omega)
  refine l_aload_n rfl rfl ?_
  refine l_iconst rfl ?_
  refine l_pfi rfl rfl (layClW (by omega) rfl) rfl ?_
  obtain ⟨U5, eU5⟩ : ∃ T : sS, T = uI U4 (276 + c) 4 (Int32.ofInt 0) := ⟨_, rfl⟩
  rw [← eU5]
  have hHU5 : HI U5 := by rw [eU5]; exact HI_any hHU4 (lh_cl4 (by omega))
  have hFU5 : FR md_cl_start__2 S U5 := by rw [eU5]; exact FR.wI hFU4 (mdf_i (r := (276, 876, 4, 5)) (List.mem_of_getElem? (i := 4) rfl) (inR_i (by omega) (by omega) (by omega) (by omega)))
  have w5 : Xi U5 (276 + c) 4 = 0 := by rw [eU5]; exact Xi_same (by unfold rg; omega)
  have kc4 : KCL S U5 c := kcl_w eU5 kc3
  have x4_0 : Xi U5 (276 + c) 0 = form := by rw [eU5, Xi_ne (by omega)]; exact x3_0
  have x4_1 : Xi U5 (276 + c) 1 = 0 := by rw [eU5, Xi_ne (by omega)]; exact x3_1
  have x4_2 : Xi U5 (276 + c) 2 = -1 := by rw [eU5, Xi_ne (by omega)]; exact x3_2
  have x4_3 : Xi U5 (276 + c) 3 = -1 := by rw [eU5, Xi_ne (by omega)]; exact x3_3
  have x4_4 : Xi U5 (276 + c) 4 = 0 := by rw [eU5]; exact Xi_same (by unfold rg; omega)
  refine l_aload_n rfl rfl ?_
  refine l_iconst rfl ?_
  refine l_pfi rfl rfl (layClW (by omega) rfl) rfl ?_
  obtain ⟨U6, eU6⟩ : ∃ T : sS, T = uI U5 (276 + c) 5 (Int32.ofInt 0) := ⟨_, rfl⟩
  rw [← eU6]
  have hHU6 : HI U6 := by rw [eU6]; exact HI_any hHU5 (lh_cl5 (by omega))
  have hFU6 : FR md_cl_start__2 S U6 := by rw [eU6]; exact FR.wI hFU5 (mdf_i (r := (276, 876, 5, 6)) (List.mem_of_getElem? (i := 5) rfl) (inR_i (by omega) (by omega) (by omega) (by omega)))
  have w6 : Xi U6 (276 + c) 5 = 0 := by rw [eU6]; exact Xi_same (by unfold rg; omega)
  have kc5 : KCL S U6 c := kcl_w eU6 kc4
  have x5_0 : Xi U6 (276 + c) 0 = form := by rw [eU6, Xi_ne (by omega)]; exact x4_0
  have x5_1 : Xi U6 (276 + c) 1 = 0 := by rw [eU6, Xi_ne (by omega)]; exact x4_1
  have x5_2 : Xi U6 (276 + c) 2 = -1 := by rw [eU6, Xi_ne (by omega)]; exact x4_2
  have x5_3 : Xi U6 (276 + c) 3 = -1 := by rw [eU6, Xi_ne (by omega)]; exact x4_3
  have x5_4 : Xi U6 (276 + c) 4 = 0 := by rw [eU6, Xi_ne (by omega)]; exact x4_4
  have x5_5 : Xi U6 (276 + c) 5 = 0 := by rw [eU6]; exact Xi_same (by unfold rg; omega)
  refine l_aload_n rfl rfl ?_
  refine l_iconst rfl ?_
  refine l_pfi rfl rfl (layClW (by omega) rfl) rfl ?_
  obtain ⟨U7, eU7⟩ : ∃ T : sS, T = uI U6 (276 + c) 6 (Int32.ofInt (-1)) := ⟨_, rfl⟩
  rw [← eU7]
  have hHU7 : HI U7 := by rw [eU7]; exact HI_w hHU6 (by rw [lh_cl6 (by omega)]; omega) (by rw [lh_cl6 (by omega)]; omega)
  have hFU7 : FR md_cl_start__2 S U7 := by rw [eU7]; exact FR.wI hFU6 (mdf_i (r := (276, 876, 6, 7)) (List.mem_of_getElem? (i := 6) rfl) (inR_i (by omega) (by omega) (by omega) (by omega)))
  have w7 : Xi U7 (276 + c) 6 = (-1) := by rw [eU7]; exact Xi_same (by unfold rg; omega)
  have kc6 : KCL S U7 c := kcl_w eU7 kc5
  have x6_0 : Xi U7 (276 + c) 0 = form := by rw [eU7, Xi_ne (by omega)]; exact x5_0
  have x6_1 : Xi U7 (276 + c) 1 = 0 := by rw [eU7, Xi_ne (by omega)]; exact x5_1
  have x6_2 : Xi U7 (276 + c) 2 = -1 := by rw [eU7, Xi_ne (by omega)]; exact x5_2
  have x6_3 : Xi U7 (276 + c) 3 = -1 := by rw [eU7, Xi_ne (by omega)]; exact x5_3
  have x6_4 : Xi U7 (276 + c) 4 = 0 := by rw [eU7, Xi_ne (by omega)]; exact x5_4
  have x6_5 : Xi U7 (276 + c) 5 = 0 := by rw [eU7, Xi_ne (by omega)]; exact x5_5
  have x6_6 : Xi U7 (276 + c) 6 = -1 := by rw [eU7]; exact Xi_same (by unfold rg; omega)
  refine l_return rfl rfl ?_
  exact ⟨hHU7, hFU7, rfl, (kc6), (⟨x6_0, x6_1, x6_2, x6_3, x6_4, x6_5, x6_6⟩)⟩
def md_bo_nextClause__2 : List rec := [(246, 247, 5, 6), (276, 876, 0, 1), (276, 876, 1, 2), (276, 876, 2, 3), (276, 876, 3, 4), (276, 876, 4, 5), (276, 876, 5, 6), (276, 876, 6, 7)]
abbrev Q_bo_nextClause__2 (S : sS) (form : Int) : pst := fun r S1 => HI S1 ∧ FR md_bo_nextClause__2 S S1 ∧ (∃ z : Nat, r = some (.ref (276 + z)) ∧ z < 600 ∧ (Xi S1 246 5 = Xi S 246 5 + 1) ∧ ((z : Int) = Xi S 246 5) ∧ (KCL S S1 z) ∧ (Xi S1 (276 + z) 0 = form ∧ Xi S1 (276 + z) 1 = 0 ∧ Xi S1 (276 + z) 2 = -1 ∧ Xi S1 (276 + z) 3 = -1 ∧ Xi S1 (276 + z) 4 = 0 ∧ Xi S1 (276 + z) 5 = 0 ∧ Xi S1 (276 + z) 6 = -1))
set_option maxRecDepth 100000 in
theorem t_bo_nextClause__2 {S : sS} (hH : HI S) (form : Int) (hform : 0 ≤ form ∧ form ≤ 11) (hcc : Xi S 246 5 < 600) (d : Nat) : Mt lay0 (d + 2) m_bo_nextClause [.ref 246, iv form] S (Q_bo_nextClause__2 S form) := by
  refine Mt_R rfl rfl ?_
  have hF : FR md_bo_nextClause__2 S S := FR.rf
  have w1 : 0 ≤ Xi S 246 5 ∧ Xi S 246 5 ≤ 200000 := hH.c _ _
  refine l_aload_n rfl rfl ?_
  refine l_gfr rfl rfl rfl rfl rfl (hH.r 246 4 273 rfl) ?_
  refine l_aload_n rfl rfl ?_
  refine l_gfi rfl rfl rfl rfl rfl ?_
  refine l_sipush rfl rfl ?_
  refine l_icmp_ge rfl rfl (by unfold rg; omega) (by unfold rg; omega) (fun w2 => ?_) (fun w3 => ?_)
  · refine l_sipush rfl rfl ?_
    refine l_aaload (n := 600) (a := 276 + (599 : Int).toNat) rfl rfl (by decide) (by omega) (by omega) (by unfold rg; omega) (RW_273 hH (by omega)) ?_
    refine l_astore_n rfl rfl rfl ?_
    refine l_aload_n rfl rfl ?_
    refine l_dup rfl rfl ?_
    refine l_gfi rfl rfl rfl rfl rfl ?_
    refine l_iconst rfl ?_
    refine l_iadd rfl ?_
    refine l_pfi rfl rfl rfl rfl ?_
    obtain ⟨U1, eU1⟩ : ∃ T : sS, T = uI S 246 5 (Int32.ofInt ((Xi S 246 5) + 1)) := ⟨_, rfl⟩
    rw [← eU1]
    have hHU1 : HI U1 := by rw [eU1]; exact HI_w hH (show 0 ≤ ((Xi S 246 5) + 1) by omega) (show ((Xi S 246 5) + 1) ≤ 200000 by omega)
    have hFU1 : FR md_bo_nextClause__2 S U1 := by rw [eU1]; exact FR.wI hF (mdf_i (r := (246, 247, 5, 6)) (List.mem_of_getElem? (i := 0) rfl) (inR_i (by omega) (by omega) (by omega) (by omega)))
    have w4 : Xi U1 246 5 = ((Xi S 246 5) + 1) := by rw [eU1]; exact Xi_same (by unfold rg; omega)
    have e33 := eU1
    refine l_aload_n rfl rfl ?_
    refine l_iload_n rfl rfl ?_
    have w5 : 0 ≤ Xi U1 246 5 ∧ Xi U1 246 5 ≤ 200000 := hHU1.c _ _
    refine l_callV rfl rfl (cOk_cl (by omega) rfl) (t_cl_start__2 hHU1 ((599 : Int).toNat) form (by omega) ⟨by omega, by omega⟩ _) ?_
    rintro _ T2 ⟨hHT2, w9, rfl, w6, w7⟩
    have hFT2 : FR md_bo_nextClause__2 S T2 := FR.tr hFU1 w9 rfl
    show Rl _ _ _ _ _ [] _ _
    refine l_aload_n rfl rfl ?_
    refine l_areturn rfl rfl ?_
    have w10 : Xi T2 246 5 = Xi U1 246 5 := (show Xi T2 246 5 = Xi U1 246 5 from w9.x _ _ rfl)
    have w11 : 0 ≤ Xi U1 246 5 ∧ Xi U1 246 5 ≤ 200000 := hHU1.c _ _
    exact ⟨hHT2, hFT2, _, rfl, (by omega), (by first | assumption | omega), (by omega), (kcl_tr (kcl_o e33 (by omega) KCL.rf) (by assumption)), (by assumption)⟩
  · refine l_aload_n rfl rfl ?_
    refine l_gfi rfl rfl rfl rfl rfl ?_
    refine l_goto rfl rfl ?_
    refine l_aaload (n := 600) (a := 276 + ((Xi S 246 5)).toNat) rfl rfl (by decide) (by omega) (by omega) (by unfold rg; omega) (RW_273 hH (by omega)) ?_
    refine l_astore_n rfl rfl rfl ?_
    refine l_aload_n rfl rfl ?_
    refine l_dup rfl rfl ?_
    refine l_gfi rfl rfl rfl rfl rfl ?_
    refine l_iconst rfl ?_
    refine l_iadd rfl ?_
    refine l_pfi rfl rfl rfl rfl ?_
    obtain ⟨U3, eU3⟩ : ∃ T : sS, T = uI S 246 5 (Int32.ofInt ((Xi S 246 5) + 1)) := ⟨_, rfl⟩
    rw [← eU3]
    have hHU3 : HI U3 := by rw [eU3]; exact HI_w hH (show 0 ≤ ((Xi S 246 5) + 1) by omega) (show ((Xi S 246 5) + 1) ≤ 200000 by omega)
    have hFU3 : FR md_bo_nextClause__2 S U3 := by rw [eU3]; exact FR.wI hF (mdf_i (r := (246, 247, 5, 6)) (List.mem_of_getElem? (i := 0) rfl) (inR_i (by omega) (by omega) (by omega) (by omega)))
    have w12 : Xi U3 246 5 = ((Xi S 246 5) + 1) := by rw [eU3]; exact Xi_same (by unfold rg; omega)
    have e33 := eU3
    refine l_aload_n rfl rfl ?_
    refine l_iload_n rfl rfl ?_
    have w13 : 0 ≤ Xi U3 246 5 ∧ Xi U3 246 5 ≤ 200000 := hHU3.c _ _
    refine l_callV rfl rfl (cOk_cl (by omega) rfl) (t_cl_start__2 hHU3 (((Xi S 246 5)).toNat) form (by omega) ⟨by omega, by omega⟩ _) ?_
    rintro _ T4 ⟨hHT4, w17, rfl, w14, w15⟩
    have hFT4 : FR md_bo_nextClause__2 S T4 := FR.tr hFU3 w17 rfl
    show Rl _ _ _ _ _ [] _ _
    refine l_aload_n rfl rfl ?_
    refine l_areturn rfl rfl ?_
    have w18 : Xi T4 246 5 = Xi U3 246 5 := (show Xi T4 246 5 = Xi U3 246 5 from w17.x _ _ rfl)
    have w19 : 0 ≤ Xi U3 246 5 ∧ Xi U3 246 5 ≤ 200000 := hHU3.c _ _
    exact ⟨hHT4, hFT4, _, rfl, (by omega), (by first | assumption | omega), (by omega), (kcl_tr (kcl_o e33 (by omega) KCL.rf) (by assumption)), (by assumption)⟩

