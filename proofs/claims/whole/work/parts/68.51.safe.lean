/-! SAFETY of methods: printed by wip/safe (vc.py, decl.py) -/
def md_me_readThing__2 : List rec := [(895, 896, 5, 6), (895, 896, 6, 7), (895, 896, 7, 8)]
abbrev Q_me_readThing__2 (S : sS) (from_ : Int) (limit : Int) : pst := fun r S1 => HI S1 ∧ FR md_me_readThing__2 S S1 ∧ (∃ z : Int, r = some (iv z) ∧ (0 ≤ z ∧ z ≤ 5142) ∧ (from_ ≤ z) ∧ (Xi S1 895 5 = -2 → 0 ≤ Xi S 895 4) ∧ (Xi S1 895 5 ≠ -1 → 0 ≤ Xi S1 895 6) ∧ (Xi S1 895 5 = -1 → Xi S1 895 6 = -1) ∧ (z ≤ from_ + 2 ∨ z ≤ Xi S 876 7))
set_option maxRecDepth 100000 in
theorem t_me_readThing__2 {S : sS} (hH : HI S) (from_ : Int) (limit : Int) (hfrom_ : 0 ≤ from_ ∧ from_ ≤ 5140) (hlimit : -1 ≤ limit ∧ limit ≤ 5140) (hL : LEX S) (d : Nat) : Mt lay0 (d + 2) m_me_readThing [.ref 895, iv from_, iv limit] S (Q_me_readThing__2 S from_ limit) := by
  refine Mt_R rfl rfl ?_
  have hF : FR md_me_readThing__2 S S := FR.rf
  have w1 : 0 ≤ Xi S 876 7 ∧ Xi S 876 7 ≤ 5125 := hH.c _ _
  have w2 : -1 ≤ Xi S 895 4 ∧ Xi S 895 4 ≤ 15 := hH.c _ _
  refine l_aload_n rfl rfl ?_
  refine l_gfr rfl rfl rfl rfl rfl (hH.r 895 0 876 rfl) ?_
  refine l_iload_n rfl rfl ?_
  refine l_callV rfl rfl rfl (t_to_typeAt hH from_ ⟨by omega, by omega⟩ _) ?_
  rintro _ _ ⟨rfl, z7, rfl, w7, w4, w5, w6⟩
  clear w5 w6
  show Rl _ _ _ _ _ [iv z7] _ _
  refine l_istore_n rfl rfl rfl ?_
  refine l_iload_n rfl rfl ?_
  refine l_iconst rfl ?_
  refine l_iadd rfl ?_
  refine l_istore rfl rfl rfl ?_
  refine l_iload_n rfl rfl ?_
  refine l_iconst rfl ?_
  refine l_icmp_ne rfl rfl (by unfold rg; omega) (by unfold rg; omega) (fun w8 => ?_) (fun w9 => ?_)
  · refine l_aload_n rfl rfl ?_
    refine l_iload_n rfl rfl ?_
    refine l_pfi rfl rfl rfl rfl ?_
    obtain ⟨U1, eU1⟩ : ∃ T : sS, T = uI S 895 7 (Int32.ofInt from_) := ⟨_, rfl⟩
    rw [← eU1]
    have hHU1 : HI U1 := by rw [eU1]; exact HI_any hH (rfl)
    have hFU1 : FR md_me_readThing__2 S U1 := by rw [eU1]; exact FR.wI hF (mdf_i (r := (895, 896, 7, 8)) (List.mem_of_getElem? (i := 2) rfl) (inR_i (by omega) (by omega) (by omega) (by omega)))
    have w10 : Xi U1 895 7 = from_ := by rw [eU1]; exact Xi_same (by unfold rg; omega)
    refine l_aload_n rfl rfl ?_
    refine l_iconst rfl ?_
    refine l_pfi rfl rfl rfl rfl ?_
    obtain ⟨U2, eU2⟩ : ∃ T : sS, T = uI U1 895 5 (Int32.ofInt (-1)) := ⟨_, rfl⟩
    rw [← eU2]
    have hHU2 : HI U2 := by rw [eU2]; exact HI_w hHU1 (show -2 ≤ (-1) by omega) (show (-1) ≤ 23 by omega)
    have hFU2 : FR md_me_readThing__2 S U2 := by rw [eU2]; exact FR.wI hFU1 (mdf_i (r := (895, 896, 5, 6)) (List.mem_of_getElem? (i := 0) rfl) (inR_i (by omega) (by omega) (by omega) (by omega)))
    have w11 : Xi U2 895 5 = (-1) := by rw [eU2]; exact Xi_same (by unfold rg; omega)
    refine l_aload_n rfl rfl ?_
    refine l_iconst rfl ?_
    refine l_pfi rfl rfl rfl rfl ?_
    obtain ⟨U3, eU3⟩ : ∃ T : sS, T = uI U2 895 6 (Int32.ofInt (-1)) := ⟨_, rfl⟩
    rw [← eU3]
    have hHU3 : HI U3 := by rw [eU3]; exact HI_w hHU2 (show -1 ≤ (-1) by omega) (show (-1) ≤ 15 by omega)
    have hFU3 : FR md_me_readThing__2 S U3 := by rw [eU3]; exact FR.wI hFU2 (mdf_i (r := (895, 896, 6, 7)) (List.mem_of_getElem? (i := 1) rfl) (inR_i (by omega) (by omega) (by omega) (by omega)))
    have w12 : Xi U3 895 6 = (-1) := by rw [eU3]; exact Xi_same (by unfold rg; omega)
    refine l_iload_n rfl rfl ?_
    refine l_bipush rfl rfl ?_
    refine l_icmp_eq rfl rfl (by unfold rg; omega) (by unfold rg; omega) (fun w13 => ?_) (fun w14 => ?_)
    · refine l_aload_n rfl rfl ?_
      refine l_iload_n rfl rfl ?_
      refine l_aload_n rfl rfl ?_
      refine l_gfi rfl rfl rfl rfl rfl ?_
      have w15 : -2147483648 ≤ (Xi U3 895 3) ∧ (Xi U3 895 3) ≤ 2147483647 := Xi_rgI
      refine l_icmp_ne rfl rfl (by unfold rg; omega) (by unfold rg; omega) (fun w16 => ?_) (fun w17 => ?_)
      · refine l_iconst rfl ?_
        refine l_pfi rfl rfl rfl rfl ?_
        obtain ⟨U4, eU4⟩ : ∃ T : sS, T = uI U3 895 5 (Int32.ofInt (-1)) := ⟨_, rfl⟩
        rw [← eU4]
        have hHU4 : HI U4 := by rw [eU4]; exact HI_w hHU3 (show -2 ≤ (-1) by omega) (show (-1) ≤ 23 by omega)
        have hFU4 : FR md_me_readThing__2 S U4 := by rw [eU4]; exact FR.wI hFU3 (mdf_i (r := (895, 896, 5, 6)) (List.mem_of_getElem? (i := 0) rfl) (inR_i (by omega) (by omega) (by omega) (by omega)))
        have w18 : Xi U4 895 5 = (-1) := by rw [eU4]; exact Xi_same (by unfold rg; omega)
        refine l_aload_n rfl rfl ?_
        refine l_aload_n rfl rfl ?_
        refine l_gfi rfl rfl rfl rfl rfl ?_
        refine l_bipush rfl rfl ?_
        refine l_icmp_ne rfl rfl (by unfold rg; omega) (by unfold rg; omega) (fun w19 => ?_) (fun w20 => ?_)
        · refine l_iconst rfl ?_
          refine l_pfi rfl rfl rfl rfl ?_
          obtain ⟨U5, eU5⟩ : ∃ T : sS, T = uI U4 895 6 (Int32.ofInt (-1)) := ⟨_, rfl⟩
          rw [← eU5]
          have hHU5 : HI U5 := by rw [eU5]; exact HI_w hHU4 (show -1 ≤ (-1) by omega) (show (-1) ≤ 15 by omega)
          have hFU5 : FR md_me_readThing__2 S U5 := by rw [eU5]; exact FR.wI hFU4 (mdf_i (r := (895, 896, 6, 7)) (List.mem_of_getElem? (i := 1) rfl) (inR_i (by omega) (by omega) (by omega) (by omega)))
          have w21 : Xi U5 895 6 = (-1) := by rw [eU5]; exact Xi_same (by unfold rg; omega)
          refine l_iload rfl rfl ?_
          refine l_ireturn rfl rfl ?_
          have w22 : Xi U5 895 5 = Xi U4 895 5 := (show Xi U5 895 5 = Xi U4 895 5 from by rw [eU5]; exact Xi_ne (by omega))
          have w23 : -2 ≤ Xi U4 895 5 ∧ Xi U4 895 5 ≤ 23 := hHU4.c _ _
          have w24 : -1 ≤ Xi U5 895 6 ∧ Xi U5 895 6 ≤ 15 := hHU5.c _ _
          exact ⟨hHU5, hFU5, _, rfl, ⟨by omega, by omega⟩, (by first | assumption | omega), (by first | assumption | omega), (by first | assumption | omega), (by first | assumption | omega), (by omega)⟩
        · refine l_aload_n rfl rfl ?_
          refine l_gfi rfl rfl rfl rfl rfl ?_
          have w25 : (Xi U4 895 4) = (Xi S 895 4) := (show Xi U4 895 4 = Xi U3 895 4 from by rw [eU4]; exact Xi_ne (by omega)).trans ( (show Xi U3 895 4 = Xi U2 895 4 from by rw [eU3]; exact Xi_ne (by omega)).trans ( (show Xi U2 895 4 = Xi U1 895 4 from by rw [eU2]; exact Xi_ne (by omega)).trans ((show Xi U1 895 4 = Xi S 895 4 from by rw [eU1]; exact Xi_ne (by omega)))))
          rw [w25]
          refine l_goto rfl rfl ?_
          refine l_pfi rfl rfl rfl rfl ?_
          obtain ⟨U6, eU6⟩ : ∃ T : sS, T = uI U4 895 6 (Int32.ofInt (Xi S 895 4)) := ⟨_, rfl⟩
          rw [← eU6]
          have hHU6 : HI U6 := by rw [eU6]; exact HI_w hHU4 (show -1 ≤ (Xi S 895 4) by omega) (show (Xi S 895 4) ≤ 15 by omega)
          have hFU6 : FR md_me_readThing__2 S U6 := by rw [eU6]; exact FR.wI hFU4 (mdf_i (r := (895, 896, 6, 7)) (List.mem_of_getElem? (i := 1) rfl) (inR_i (by omega) (by omega) (by omega) (by omega)))
          have w26 : Xi U6 895 6 = (Xi S 895 4) := by rw [eU6]; exact Xi_same (by unfold rg; omega)
          refine l_iload rfl rfl ?_
          refine l_ireturn rfl rfl ?_
          have w27 : Xi U6 895 5 = Xi U4 895 5 := (show Xi U6 895 5 = Xi U4 895 5 from by rw [eU6]; exact Xi_ne (by omega))
          have w28 : -2 ≤ Xi U4 895 5 ∧ Xi U4 895 5 ≤ 23 := hHU4.c _ _
          have w29 : -1 ≤ Xi U6 895 6 ∧ Xi U6 895 6 ≤ 15 := hHU6.c _ _
          exact ⟨hHU6, hFU6, _, rfl, ⟨by omega, by omega⟩, (by first | assumption | omega), (by first | assumption | omega), (by first | assumption | omega), (by first | assumption | omega), (by omega)⟩
      · refine l_aload_n rfl rfl ?_
        refine l_gfi rfl rfl rfl rfl rfl ?_
        have w30 : (Xi U3 895 4) = (Xi S 895 4) := (show Xi U3 895 4 = Xi U2 895 4 from by rw [eU3]; exact Xi_ne (by omega)).trans ( (show Xi U2 895 4 = Xi U1 895 4 from by rw [eU2]; exact Xi_ne (by omega)).trans ((show Xi U1 895 4 = Xi S 895 4 from by rw [eU1]; exact Xi_ne (by omega))))
        rw [w30]
        refine l_iconst rfl ?_
        refine l_icmp_eq rfl rfl (by unfold rg; omega) (by unfold rg; omega) (fun w31 => ?_) (fun w32 => ?_)
        · refine l_iconst rfl ?_
          refine l_pfi rfl rfl rfl rfl ?_
          obtain ⟨U7, eU7⟩ : ∃ T : sS, T = uI U3 895 5 (Int32.ofInt (-1)) := ⟨_, rfl⟩
          rw [← eU7]
          have hHU7 : HI U7 := by rw [eU7]; exact HI_w hHU3 (show -2 ≤ (-1) by omega) (show (-1) ≤ 23 by omega)
          have hFU7 : FR md_me_readThing__2 S U7 := by rw [eU7]; exact FR.wI hFU3 (mdf_i (r := (895, 896, 5, 6)) (List.mem_of_getElem? (i := 0) rfl) (inR_i (by omega) (by omega) (by omega) (by omega)))
          have w33 : Xi U7 895 5 = (-1) := by rw [eU7]; exact Xi_same (by unfold rg; omega)
          refine l_aload_n rfl rfl ?_
          refine l_aload_n rfl rfl ?_
          refine l_gfi rfl rfl rfl rfl rfl ?_
          refine l_bipush rfl rfl ?_
          refine l_icmp_ne rfl rfl (by unfold rg; omega) (by unfold rg; omega) (fun w34 => ?_) (fun w35 => ?_)
          · refine l_iconst rfl ?_
            refine l_pfi rfl rfl rfl rfl ?_
            obtain ⟨U8, eU8⟩ : ∃ T : sS, T = uI U7 895 6 (Int32.ofInt (-1)) := ⟨_, rfl⟩
            rw [← eU8]
            have hHU8 : HI U8 := by rw [eU8]; exact HI_w hHU7 (show -1 ≤ (-1) by omega) (show (-1) ≤ 15 by omega)
            have hFU8 : FR md_me_readThing__2 S U8 := by rw [eU8]; exact FR.wI hFU7 (mdf_i (r := (895, 896, 6, 7)) (List.mem_of_getElem? (i := 1) rfl) (inR_i (by omega) (by omega) (by omega) (by omega)))
            have w36 : Xi U8 895 6 = (-1) := by rw [eU8]; exact Xi_same (by unfold rg; omega)
            refine l_iload rfl rfl ?_
            refine l_ireturn rfl rfl ?_
            have w37 : Xi U8 895 5 = Xi U7 895 5 := (show Xi U8 895 5 = Xi U7 895 5 from by rw [eU8]; exact Xi_ne (by omega))
            have w38 : -2 ≤ Xi U7 895 5 ∧ Xi U7 895 5 ≤ 23 := hHU7.c _ _
            have w39 : -1 ≤ Xi U8 895 6 ∧ Xi U8 895 6 ≤ 15 := hHU8.c _ _
            exact ⟨hHU8, hFU8, _, rfl, ⟨by omega, by omega⟩, (by first | assumption | omega), (by first | assumption | omega), (by first | assumption | omega), (by first | assumption | omega), (by omega)⟩
          · refine l_aload_n rfl rfl ?_
            refine l_gfi rfl rfl rfl rfl rfl ?_
            have w40 : (Xi U7 895 4) = (Xi S 895 4) := (show Xi U7 895 4 = Xi U3 895 4 from by rw [eU7]; exact Xi_ne (by omega)).trans ( (show Xi U3 895 4 = Xi U2 895 4 from by rw [eU3]; exact Xi_ne (by omega)).trans ( (show Xi U2 895 4 = Xi U1 895 4 from by rw [eU2]; exact Xi_ne (by omega)).trans ((show Xi U1 895 4 = Xi S 895 4 from by rw [eU1]; exact Xi_ne (by omega)))))
            rw [w40]
            refine l_goto rfl rfl ?_
            refine l_pfi rfl rfl rfl rfl ?_
            obtain ⟨U9, eU9⟩ : ∃ T : sS, T = uI U7 895 6 (Int32.ofInt (Xi S 895 4)) := ⟨_, rfl⟩
            rw [← eU9]
            have hHU9 : HI U9 := by rw [eU9]; exact HI_w hHU7 (show -1 ≤ (Xi S 895 4) by omega) (show (Xi S 895 4) ≤ 15 by omega)
            have hFU9 : FR md_me_readThing__2 S U9 := by rw [eU9]; exact FR.wI hFU7 (mdf_i (r := (895, 896, 6, 7)) (List.mem_of_getElem? (i := 1) rfl) (inR_i (by omega) (by omega) (by omega) (by omega)))
            have w41 : Xi U9 895 6 = (Xi S 895 4) := by rw [eU9]; exact Xi_same (by unfold rg; omega)
            refine l_iload rfl rfl ?_
            refine l_ireturn rfl rfl ?_
            have w42 : Xi U9 895 5 = Xi U7 895 5 := (show Xi U9 895 5 = Xi U7 895 5 from by rw [eU9]; exact Xi_ne (by omega))
            have w43 : -2 ≤ Xi U7 895 5 ∧ Xi U7 895 5 ≤ 23 := hHU7.c _ _
            have w44 : -1 ≤ Xi U9 895 6 ∧ Xi U9 895 6 ≤ 15 := hHU9.c _ _
            exact ⟨hHU9, hFU9, _, rfl, ⟨by omega, by omega⟩, (by first | assumption | omega), (by first | assumption | omega), (by first | assumption | omega), (by first | assumption | omega), (by omega)⟩
        · refine l_bipush rfl rfl ?_
          refine l_goto rfl rfl ?_
          refine l_pfi rfl rfl rfl rfl ?_
          obtain ⟨U10, eU10⟩ : ∃ T : sS, T = uI U3 895 5 (Int32.ofInt (-2)) := ⟨_, rfl⟩
          rw [← eU10]
          have hHU10 : HI U10 := by rw [eU10]; exact HI_w hHU3 (show -2 ≤ (-2) by omega) (show (-2) ≤ 23 by omega)
          have hFU10 : FR md_me_readThing__2 S U10 := by rw [eU10]; exact FR.wI hFU3 (mdf_i (r := (895, 896, 5, 6)) (List.mem_of_getElem? (i := 0) rfl) (inR_i (by omega) (by omega) (by omega) (by omega)))
          have w45 : Xi U10 895 5 = (-2) := by rw [eU10]; exact Xi_same (by unfold rg; omega)
          refine l_aload_n rfl rfl ?_
          refine l_aload_n rfl rfl ?_
          refine l_gfi rfl rfl rfl rfl rfl ?_
          refine l_bipush rfl rfl ?_
          refine l_icmp_ne rfl rfl (by unfold rg; omega) (by unfold rg; omega) (fun w46 => ?_) (fun w47 => ?_)
          · refine l_iconst rfl ?_
            refine l_pfi rfl rfl rfl rfl ?_
            obtain ⟨U11, eU11⟩ : ∃ T : sS, T = uI U10 895 6 (Int32.ofInt (-1)) := ⟨_, rfl⟩
            rw [← eU11]
            have hHU11 : HI U11 := by rw [eU11]; exact HI_w hHU10 (show -1 ≤ (-1) by omega) (show (-1) ≤ 15 by omega)
            have hFU11 : FR md_me_readThing__2 S U11 := by rw [eU11]; exact FR.wI hFU10 (mdf_i (r := (895, 896, 6, 7)) (List.mem_of_getElem? (i := 1) rfl) (inR_i (by omega) (by omega) (by omega) (by omega)))
            have w48 : Xi U11 895 6 = (-1) := by rw [eU11]; exact Xi_same (by unfold rg; omega)
            refine l_iload rfl rfl ?_
            refine l_ireturn rfl rfl ?_
            have w49 : Xi U11 895 5 = Xi U10 895 5 := (show Xi U11 895 5 = Xi U10 895 5 from by rw [eU11]; exact Xi_ne (by omega))
            have w50 : -2 ≤ Xi U10 895 5 ∧ Xi U10 895 5 ≤ 23 := hHU10.c _ _
            have w51 : -1 ≤ Xi U11 895 6 ∧ Xi U11 895 6 ≤ 15 := hHU11.c _ _
            exact ⟨hHU11, hFU11, _, rfl, ⟨by omega, by omega⟩, (by first | assumption | omega), (by first | assumption | omega), (by first | assumption | omega), (by first | assumption | omega), (by omega)⟩
          · refine l_aload_n rfl rfl ?_
            refine l_gfi rfl rfl rfl rfl rfl ?_
            have w52 : (Xi U10 895 4) = (Xi S 895 4) := (show Xi U10 895 4 = Xi U3 895 4 from by rw [eU10]; exact Xi_ne (by omega)).trans ( (show Xi U3 895 4 = Xi U2 895 4 from by rw [eU3]; exact Xi_ne (by omega)).trans ( (show Xi U2 895 4 = Xi U1 895 4 from by rw [eU2]; exact Xi_ne (by omega)).trans ((show Xi U1 895 4 = Xi S 895 4 from by rw [eU1]; exact Xi_ne (by omega)))))
            rw [w52]
            refine l_goto rfl rfl ?_
            refine l_pfi rfl rfl rfl rfl ?_
            obtain ⟨U12, eU12⟩ : ∃ T : sS, T = uI U10 895 6 (Int32.ofInt (Xi S 895 4)) := ⟨_, rfl⟩
            rw [← eU12]
            have hHU12 : HI U12 := by rw [eU12]; exact HI_w hHU10 (show -1 ≤ (Xi S 895 4) by omega) (show (Xi S 895 4) ≤ 15 by omega)
            have hFU12 : FR md_me_readThing__2 S U12 := by rw [eU12]; exact FR.wI hFU10 (mdf_i (r := (895, 896, 6, 7)) (List.mem_of_getElem? (i := 1) rfl) (inR_i (by omega) (by omega) (by omega) (by omega)))
            have w53 : Xi U12 895 6 = (Xi S 895 4) := by rw [eU12]; exact Xi_same (by unfold rg; omega)
            refine l_iload rfl rfl ?_
            refine l_ireturn rfl rfl ?_
            have w54 : Xi U12 895 5 = Xi U10 895 5 := (show Xi U12 895 5 = Xi U10 895 5 from by rw [eU12]; exact Xi_ne (by omega))
            have w55 : -2 ≤ Xi U10 895 5 ∧ Xi U10 895 5 ≤ 23 := hHU10.c _ _
            have w56 : -1 ≤ Xi U12 895 6 ∧ Xi U12 895 6 ≤ 15 := hHU12.c _ _
            exact ⟨hHU12, hFU12, _, rfl, ⟨by omega, by omega⟩, (by first | assumption | omega), (by first | assumption | omega), (by first | assumption | omega), (by first | assumption | omega), (by omega)⟩
    · refine l_iload_n rfl rfl ?_
      refine l_bipush rfl rfl ?_
      refine l_icmp_ne rfl rfl (by unfold rg; omega) (by unfold rg; omega) (fun w57 => ?_) (fun w58 => ?_)
      · refine l_aload_n rfl rfl ?_
        refine l_iload_n rfl rfl ?_
        refine l_callS rfl rfl (by decide) rfl (t_rs_isArt hHU3 z7 ⟨by omega, by omega⟩ _) ?_
        rintro _ _ ⟨rfl, z60, rfl, w60, w59⟩
        show Rl _ _ _ _ _ [iv z60, .ref 895] _ _
        refine l_if_eq rfl rfl (by unfold rg; omega) (fun w61 => ?_) (fun w62 => ?_)
        · refine l_iload_n rfl rfl ?_
          refine l_pfi rfl rfl rfl rfl ?_
          obtain ⟨U13, eU13⟩ : ∃ T : sS, T = uI U3 895 7 (Int32.ofInt from_) := ⟨_, rfl⟩
          rw [← eU13]
          have hHU13 : HI U13 := by rw [eU13]; exact HI_any hHU3 (rfl)
          have hFU13 : FR md_me_readThing__2 S U13 := by rw [eU13]; exact FR.wI hFU3 (mdf_i (r := (895, 896, 7, 8)) (List.mem_of_getElem? (i := 2) rfl) (inR_i (by omega) (by omega) (by omega) (by omega)))
          have w63 : Xi U13 895 7 = from_ := by rw [eU13]; exact Xi_same (by unfold rg; omega)
          refine l_aload_n rfl rfl ?_
          refine l_gfr rfl rfl rfl rfl rfl (hHU13.r 895 0 876 rfl) ?_
          refine l_aload_n rfl rfl ?_
          refine l_gfi rfl rfl rfl rfl rfl ?_
          refine l_iload_n rfl rfl ?_
          have w64 : Xi U13 876 7 = Xi S 876 7 := (show Xi U13 876 7 = Xi U3 876 7 from by rw [eU13]; exact Xi_ne (by omega)).trans ( (show Xi U3 876 7 = Xi U2 876 7 from by rw [eU3]; exact Xi_ne (by omega)).trans ( (show Xi U2 876 7 = Xi U1 876 7 from by rw [eU2]; exact Xi_ne (by omega)).trans ((show Xi U1 876 7 = Xi S 876 7 from by rw [eU1]; exact Xi_ne (by omega)))))
          refine l_callV rfl rfl rfl (t_to_runEndUpTo hHU13 (Xi U13 895 7) limit ⟨by omega, by omega⟩ ⟨by omega, by omega⟩ _) ?_
          rintro _ _ ⟨rfl, z73, rfl, w73, w66, w67, w68, w69, w70, w71, w72⟩
          clear w68 w69 w70 w71
          show Rl _ _ _ _ _ [iv z73] _ _
          refine l_istore rfl rfl rfl ?_
          refine l_aload_n rfl rfl ?_
          refine l_gfr rfl rfl rfl rfl rfl (hHU13.r 895 1 1 rfl) ?_
          refine l_aload_n rfl rfl ?_
          refine l_gfr rfl rfl rfl rfl rfl (hHU13.r 895 0 876 rfl) ?_
          refine l_gfr rfl rfl rfl rfl rfl (hHU13.r 876 2 879 rfl) ?_
          refine l_aload_n rfl rfl ?_
          refine l_gfi rfl rfl rfl rfl rfl ?_
          refine l_iload rfl rfl ?_
          refine l_callV rfl rfl rfl (t_vo_meaning hHU13 879 5130 (Xi U13 895 7) z73 rfl ⟨by omega, by omega⟩ ⟨by omega, by omega⟩ ⟨by omega, by omega⟩ (by first | assumption | exact (LEX_FR hFU13 rfl rfl (by assumption : LEX S))) _) ?_
          rintro _ _ ⟨rfl, z77, rfl, w77, w74, w75, w76⟩
          show Rl _ _ _ _ _ [iv z77] _ _
          have hmnz77 := mOK_n (z := z77) (by assumption)
          refine l_istore rfl rfl rfl ?_
          refine l_iload rfl rfl ?_
          refine l_bipush rfl rfl ?_
          refine l_ishr8 rfl (by unfold rg; omega) ?_
          refine l_iconst rfl ?_
          refine l_icmp_ne rfl rfl (by unfold rg; omega) (by unfold rg; omega) (fun w79 => ?_) (fun w80 => ?_)
          · refine l_iload rfl rfl ?_
            refine l_ireturn rfl rfl ?_
            have w81 : Xi U13 895 5 = Xi U2 895 5 := (show Xi U13 895 5 = Xi U3 895 5 from by rw [eU13]; exact Xi_ne (by omega)).trans ((show Xi U3 895 5 = Xi U2 895 5 from by rw [eU3]; exact Xi_ne (by omega)))
            have w82 : -2 ≤ Xi U2 895 5 ∧ Xi U2 895 5 ≤ 23 := hHU2.c _ _
            have w83 : Xi U13 895 6 = Xi U3 895 6 := (show Xi U13 895 6 = Xi U3 895 6 from by rw [eU13]; exact Xi_ne (by omega))
            have w84 : -1 ≤ Xi U3 895 6 ∧ Xi U3 895 6 ≤ 15 := hHU3.c _ _
            exact ⟨hHU13, hFU13, _, rfl, ⟨by omega, by omega⟩, (by first | assumption | omega), (by first | assumption | omega), (by first | assumption | omega), (by first | assumption | omega), (by omega)⟩
          · refine l_aload_n rfl rfl ?_
            refine l_iload rfl rfl ?_
            refine l_sipush rfl rfl ?_
            refine l_iand255 rfl (by unfold rg; omega) ?_
            have w86 := fb2 hHU13 (lx (z := z77) (by assumption) (by omega) (by omega))
            refine l_pfi rfl rfl rfl rfl ?_
            obtain ⟨U14, eU14⟩ : ∃ T : sS, T = uI U13 895 5 (Int32.ofInt (z77 % 256)) := ⟨_, rfl⟩
            rw [← eU14]
            have hHU14 : HI U14 := by rw [eU14]; exact HI_w hHU13 (show -2 ≤ (z77 % 256) by omega) (show (z77 % 256) ≤ 23 by omega)
            have hFU14 : FR md_me_readThing__2 S U14 := by rw [eU14]; exact FR.wI hFU13 (mdf_i (r := (895, 896, 5, 6)) (List.mem_of_getElem? (i := 0) rfl) (inR_i (by omega) (by omega) (by omega) (by omega)))
            have w87 : Xi U14 895 5 = (z77 % 256) := by rw [eU14]; exact Xi_same (by unfold rg; omega)
            refine l_aload_n rfl rfl ?_
            refine l_aload_n rfl rfl ?_
            refine l_gfr rfl rfl rfl rfl rfl (hHU14.r 895 2 20 rfl) ?_
            refine l_gfr rfl rfl rfl rfl rfl (hHU14.r 20 2 21 rfl) ?_
            refine l_aload_n rfl rfl ?_
            refine l_gfi rfl rfl rfl rfl rfl ?_
            refine l_iaload (n := 24) rfl rfl (by omega) (by omega) (by unfold rg; omega) ?_
            have w88 : 0 ≤ (Xi U14 21 (((Xi U14 895 5)).toNat)) ∧ (Xi U14 21 (((Xi U14 895 5)).toNat)) ≤ 15 := hHU14.c _ _
            refine l_pfi rfl rfl rfl rfl ?_
            obtain ⟨U15, eU15⟩ : ∃ T : sS, T = uI U14 895 6 (Int32.ofInt (Xi U14 21 (((Xi U14 895 5)).toNat))) := ⟨_, rfl⟩
            rw [← eU15]
            have hHU15 : HI U15 := by rw [eU15]; exact HI_w hHU14 (show -1 ≤ (Xi U14 21 (((Xi U14 895 5)).toNat)) by omega) (show (Xi U14 21 (((Xi U14 895 5)).toNat)) ≤ 15 by omega)
            have hFU15 : FR md_me_readThing__2 S U15 := by rw [eU15]; exact FR.wI hFU14 (mdf_i (r := (895, 896, 6, 7)) (List.mem_of_getElem? (i := 1) rfl) (inR_i (by omega) (by omega) (by omega) (by omega)))
            have w89 : Xi U15 895 6 = (Xi U14 21 (((Xi U14 895 5)).toNat)) := by rw [eU15]; exact Xi_same (by unfold rg; omega)
            refine l_iload rfl rfl ?_
            refine l_ireturn rfl rfl ?_
            have w90 : Xi U15 895 5 = Xi U14 895 5 := (show Xi U15 895 5 = Xi U14 895 5 from by rw [eU15]; exact Xi_ne (by omega))
            have w91 : -2 ≤ Xi U14 895 5 ∧ Xi U14 895 5 ≤ 23 := hHU14.c _ _
            have w92 : -1 ≤ Xi U15 895 6 ∧ Xi U15 895 6 ≤ 15 := hHU15.c _ _
            exact ⟨hHU15, hFU15, _, rfl, ⟨by omega, by omega⟩, (by first | assumption | omega), (by first | assumption | omega), (by first | assumption | omega), (by first | assumption | omega), (by omega)⟩
        · refine l_iload_n rfl rfl ?_
          refine l_iconst rfl ?_
          refine l_iadd rfl ?_
          refine l_goto rfl rfl ?_
          refine l_pfi rfl rfl rfl rfl ?_
          obtain ⟨U16, eU16⟩ : ∃ T : sS, T = uI U3 895 7 (Int32.ofInt (from_ + 1)) := ⟨_, rfl⟩
          rw [← eU16]
          have hHU16 : HI U16 := by rw [eU16]; exact HI_any hHU3 (rfl)
          have hFU16 : FR md_me_readThing__2 S U16 := by rw [eU16]; exact FR.wI hFU3 (mdf_i (r := (895, 896, 7, 8)) (List.mem_of_getElem? (i := 2) rfl) (inR_i (by omega) (by omega) (by omega) (by omega)))
          have w93 : Xi U16 895 7 = (from_ + 1) := by rw [eU16]; exact Xi_same (by unfold rg; omega)
          refine l_aload_n rfl rfl ?_
          refine l_gfr rfl rfl rfl rfl rfl (hHU16.r 895 0 876 rfl) ?_
          refine l_aload_n rfl rfl ?_
          refine l_gfi rfl rfl rfl rfl rfl ?_
          refine l_iload_n rfl rfl ?_
          have w94 : Xi U16 876 7 = Xi S 876 7 := (show Xi U16 876 7 = Xi U3 876 7 from by rw [eU16]; exact Xi_ne (by omega)).trans ( (show Xi U3 876 7 = Xi U2 876 7 from by rw [eU3]; exact Xi_ne (by omega)).trans ( (show Xi U2 876 7 = Xi U1 876 7 from by rw [eU2]; exact Xi_ne (by omega)).trans ((show Xi U1 876 7 = Xi S 876 7 from by rw [eU1]; exact Xi_ne (by omega)))))
          refine l_callV rfl rfl rfl (t_to_runEndUpTo hHU16 (Xi U16 895 7) limit ⟨by omega, by omega⟩ ⟨by omega, by omega⟩ _) ?_
          rintro _ _ ⟨rfl, z103, rfl, w103, w96, w97, w98, w99, w100, w101, w102⟩
          clear w98 w99 w100 w101
          show Rl _ _ _ _ _ [iv z103] _ _
          refine l_istore rfl rfl rfl ?_
          refine l_aload_n rfl rfl ?_
          refine l_gfr rfl rfl rfl rfl rfl (hHU16.r 895 1 1 rfl) ?_
          refine l_aload_n rfl rfl ?_
          refine l_gfr rfl rfl rfl rfl rfl (hHU16.r 895 0 876 rfl) ?_
          refine l_gfr rfl rfl rfl rfl rfl (hHU16.r 876 2 879 rfl) ?_
          refine l_aload_n rfl rfl ?_
          refine l_gfi rfl rfl rfl rfl rfl ?_
          refine l_iload rfl rfl ?_
          refine l_callV rfl rfl rfl (t_vo_meaning hHU16 879 5130 (Xi U16 895 7) z103 rfl ⟨by omega, by omega⟩ ⟨by omega, by omega⟩ ⟨by omega, by omega⟩ (by first | assumption | exact (LEX_FR hFU16 rfl rfl (by assumption : LEX S))) _) ?_
          rintro _ _ ⟨rfl, z107, rfl, w107, w104, w105, w106⟩
          show Rl _ _ _ _ _ [iv z107] _ _
          have hmnz107 := mOK_n (z := z107) (by assumption)
          refine l_istore rfl rfl rfl ?_
          refine l_iload rfl rfl ?_
          refine l_bipush rfl rfl ?_
          refine l_ishr8 rfl (by unfold rg; omega) ?_
          refine l_iconst rfl ?_
          refine l_icmp_ne rfl rfl (by unfold rg; omega) (by unfold rg; omega) (fun w109 => ?_) (fun w110 => ?_)
          · refine l_iload rfl rfl ?_
            refine l_ireturn rfl rfl ?_
            have w111 : Xi U16 895 5 = Xi U2 895 5 := (show Xi U16 895 5 = Xi U3 895 5 from by rw [eU16]; exact Xi_ne (by omega)).trans ((show Xi U3 895 5 = Xi U2 895 5 from by rw [eU3]; exact Xi_ne (by omega)))
            have w112 : -2 ≤ Xi U2 895 5 ∧ Xi U2 895 5 ≤ 23 := hHU2.c _ _
            have w113 : Xi U16 895 6 = Xi U3 895 6 := (show Xi U16 895 6 = Xi U3 895 6 from by rw [eU16]; exact Xi_ne (by omega))
            have w114 : -1 ≤ Xi U3 895 6 ∧ Xi U3 895 6 ≤ 15 := hHU3.c _ _
            exact ⟨hHU16, hFU16, _, rfl, ⟨by omega, by omega⟩, (by first | assumption | omega), (by first | assumption | omega), (by first | assumption | omega), (by first | assumption | omega), (by omega)⟩
          · refine l_aload_n rfl rfl ?_
            refine l_iload rfl rfl ?_
            refine l_sipush rfl rfl ?_
            refine l_iand255 rfl (by unfold rg; omega) ?_
            have w116 := fb2 hHU16 (lx (z := z107) (by assumption) (by omega) (by omega))
            refine l_pfi rfl rfl rfl rfl ?_
            obtain ⟨U17, eU17⟩ : ∃ T : sS, T = uI U16 895 5 (Int32.ofInt (z107 % 256)) := ⟨_, rfl⟩
            rw [← eU17]
            have hHU17 : HI U17 := by rw [eU17]; exact HI_w hHU16 (show -2 ≤ (z107 % 256) by omega) (show (z107 % 256) ≤ 23 by omega)
            have hFU17 : FR md_me_readThing__2 S U17 := by rw [eU17]; exact FR.wI hFU16 (mdf_i (r := (895, 896, 5, 6)) (List.mem_of_getElem? (i := 0) rfl) (inR_i (by omega) (by omega) (by omega) (by omega)))
            have w117 : Xi U17 895 5 = (z107 % 256) := by rw [eU17]; exact Xi_same (by unfold rg; omega)
            refine l_aload_n rfl rfl ?_
            refine l_aload_n rfl rfl ?_
            refine l_gfr rfl rfl rfl rfl rfl (hHU17.r 895 2 20 rfl) ?_
            refine l_gfr rfl rfl rfl rfl rfl (hHU17.r 20 2 21 rfl) ?_
            refine l_aload_n rfl rfl ?_
            refine l_gfi rfl rfl rfl rfl rfl ?_
            refine l_iaload (n := 24) rfl rfl (by omega) (by omega) (by unfold rg; omega) ?_
            have w118 : 0 ≤ (Xi U17 21 (((Xi U17 895 5)).toNat)) ∧ (Xi U17 21 (((Xi U17 895 5)).toNat)) ≤ 15 := hHU17.c _ _
            refine l_pfi rfl rfl rfl rfl ?_
            obtain ⟨U18, eU18⟩ : ∃ T : sS, T = uI U17 895 6 (Int32.ofInt (Xi U17 21 (((Xi U17 895 5)).toNat))) := ⟨_, rfl⟩
            rw [← eU18]
            have hHU18 : HI U18 := by rw [eU18]; exact HI_w hHU17 (show -1 ≤ (Xi U17 21 (((Xi U17 895 5)).toNat)) by omega) (show (Xi U17 21 (((Xi U17 895 5)).toNat)) ≤ 15 by omega)
            have hFU18 : FR md_me_readThing__2 S U18 := by rw [eU18]; exact FR.wI hFU17 (mdf_i (r := (895, 896, 6, 7)) (List.mem_of_getElem? (i := 1) rfl) (inR_i (by omega) (by omega) (by omega) (by omega)))
            have w119 : Xi U18 895 6 = (Xi U17 21 (((Xi U17 895 5)).toNat)) := by rw [eU18]; exact Xi_same (by unfold rg; omega)
            refine l_iload rfl rfl ?_
            refine l_ireturn rfl rfl ?_
            have w120 : Xi U18 895 5 = Xi U17 895 5 := (show Xi U18 895 5 = Xi U17 895 5 from by rw [eU18]; exact Xi_ne (by omega))
            have w121 : -2 ≤ Xi U17 895 5 ∧ Xi U17 895 5 ≤ 23 := hHU17.c _ _
            have w122 : -1 ≤ Xi U18 895 6 ∧ Xi U18 895 6 ≤ 15 := hHU18.c _ _
            exact ⟨hHU18, hFU18, _, rfl, ⟨by omega, by omega⟩, (by first | assumption | omega), (by first | assumption | omega), (by first | assumption | omega), (by first | assumption | omega), (by omega)⟩
      · refine l_aload_n rfl rfl ?_
        refine l_iload_n rfl rfl ?_
        refine l_aload_n rfl rfl ?_
        refine l_gfi rfl rfl rfl rfl rfl ?_
        have w123 : -2147483648 ≤ (Xi U3 895 3) ∧ (Xi U3 895 3) ≤ 2147483647 := Xi_rgI
        refine l_icmp_ne rfl rfl (by unfold rg; omega) (by unfold rg; omega) (fun w124 => ?_) (fun w125 => ?_)
        · refine l_iconst rfl ?_
          refine l_pfi rfl rfl rfl rfl ?_
          obtain ⟨U19, eU19⟩ : ∃ T : sS, T = uI U3 895 5 (Int32.ofInt (-1)) := ⟨_, rfl⟩
          rw [← eU19]
          have hHU19 : HI U19 := by rw [eU19]; exact HI_w hHU3 (show -2 ≤ (-1) by omega) (show (-1) ≤ 23 by omega)
          have hFU19 : FR md_me_readThing__2 S U19 := by rw [eU19]; exact FR.wI hFU3 (mdf_i (r := (895, 896, 5, 6)) (List.mem_of_getElem? (i := 0) rfl) (inR_i (by omega) (by omega) (by omega) (by omega)))
          have w126 : Xi U19 895 5 = (-1) := by rw [eU19]; exact Xi_same (by unfold rg; omega)
          refine l_aload_n rfl rfl ?_
          refine l_aload_n rfl rfl ?_
          refine l_gfi rfl rfl rfl rfl rfl ?_
          refine l_bipush rfl rfl ?_
          refine l_icmp_ne rfl rfl (by unfold rg; omega) (by unfold rg; omega) (fun w127 => ?_) (fun w128 => ?_)
          · refine l_iconst rfl ?_
            refine l_pfi rfl rfl rfl rfl ?_
            obtain ⟨U20, eU20⟩ : ∃ T : sS, T = uI U19 895 6 (Int32.ofInt (-1)) := ⟨_, rfl⟩
            rw [← eU20]
            have hHU20 : HI U20 := by rw [eU20]; exact HI_w hHU19 (show -1 ≤ (-1) by omega) (show (-1) ≤ 15 by omega)
            have hFU20 : FR md_me_readThing__2 S U20 := by rw [eU20]; exact FR.wI hFU19 (mdf_i (r := (895, 896, 6, 7)) (List.mem_of_getElem? (i := 1) rfl) (inR_i (by omega) (by omega) (by omega) (by omega)))
            have w129 : Xi U20 895 6 = (-1) := by rw [eU20]; exact Xi_same (by unfold rg; omega)
            refine l_iload rfl rfl ?_
            refine l_ireturn rfl rfl ?_
            have w130 : Xi U20 895 5 = Xi U19 895 5 := (show Xi U20 895 5 = Xi U19 895 5 from by rw [eU20]; exact Xi_ne (by omega))
            have w131 : -2 ≤ Xi U19 895 5 ∧ Xi U19 895 5 ≤ 23 := hHU19.c _ _
            have w132 : -1 ≤ Xi U20 895 6 ∧ Xi U20 895 6 ≤ 15 := hHU20.c _ _
            exact ⟨hHU20, hFU20, _, rfl, ⟨by omega, by omega⟩, (by first | assumption | omega), (by first | assumption | omega), (by first | assumption | omega), (by first | assumption | omega), (by omega)⟩
          · refine l_aload_n rfl rfl ?_
            refine l_gfi rfl rfl rfl rfl rfl ?_
            have w133 : (Xi U19 895 4) = (Xi S 895 4) := (show Xi U19 895 4 = Xi U3 895 4 from by rw [eU19]; exact Xi_ne (by omega)).trans ( (show Xi U3 895 4 = Xi U2 895 4 from by rw [eU3]; exact Xi_ne (by omega)).trans ( (show Xi U2 895 4 = Xi U1 895 4 from by rw [eU2]; exact Xi_ne (by omega)).trans ((show Xi U1 895 4 = Xi S 895 4 from by rw [eU1]; exact Xi_ne (by omega)))))
            rw [w133]
            refine l_goto rfl rfl ?_
            refine l_pfi rfl rfl rfl rfl ?_
            obtain ⟨U21, eU21⟩ : ∃ T : sS, T = uI U19 895 6 (Int32.ofInt (Xi S 895 4)) := ⟨_, rfl⟩
            rw [← eU21]
            have hHU21 : HI U21 := by rw [eU21]; exact HI_w hHU19 (show -1 ≤ (Xi S 895 4) by omega) (show (Xi S 895 4) ≤ 15 by omega)
            have hFU21 : FR md_me_readThing__2 S U21 := by rw [eU21]; exact FR.wI hFU19 (mdf_i (r := (895, 896, 6, 7)) (List.mem_of_getElem? (i := 1) rfl) (inR_i (by omega) (by omega) (by omega) (by omega)))
            have w134 : Xi U21 895 6 = (Xi S 895 4) := by rw [eU21]; exact Xi_same (by unfold rg; omega)
            refine l_iload rfl rfl ?_
            refine l_ireturn rfl rfl ?_
            have w135 : Xi U21 895 5 = Xi U19 895 5 := (show Xi U21 895 5 = Xi U19 895 5 from by rw [eU21]; exact Xi_ne (by omega))
            have w136 : -2 ≤ Xi U19 895 5 ∧ Xi U19 895 5 ≤ 23 := hHU19.c _ _
            have w137 : -1 ≤ Xi U21 895 6 ∧ Xi U21 895 6 ≤ 15 := hHU21.c _ _
            exact ⟨hHU21, hFU21, _, rfl, ⟨by omega, by omega⟩, (by first | assumption | omega), (by first | assumption | omega), (by first | assumption | omega), (by first | assumption | omega), (by omega)⟩
        · refine l_aload_n rfl rfl ?_
          refine l_gfi rfl rfl rfl rfl rfl ?_
          have w138 : (Xi U3 895 4) = (Xi S 895 4) := (show Xi U3 895 4 = Xi U2 895 4 from by rw [eU3]; exact Xi_ne (by omega)).trans ( (show Xi U2 895 4 = Xi U1 895 4 from by rw [eU2]; exact Xi_ne (by omega)).trans ((show Xi U1 895 4 = Xi S 895 4 from by rw [eU1]; exact Xi_ne (by omega))))
          rw [w138]
          refine l_iconst rfl ?_
          refine l_icmp_eq rfl rfl (by unfold rg; omega) (by unfold rg; omega) (fun w139 => ?_) (fun w140 => ?_)
          · refine l_iconst rfl ?_
            refine l_pfi rfl rfl rfl rfl ?_
            obtain ⟨U22, eU22⟩ : ∃ T : sS, T = uI U3 895 5 (Int32.ofInt (-1)) := ⟨_, rfl⟩
            rw [← eU22]
            have hHU22 : HI U22 := by rw [eU22]; exact HI_w hHU3 (show -2 ≤ (-1) by omega) (show (-1) ≤ 23 by omega)
            have hFU22 : FR md_me_readThing__2 S U22 := by rw [eU22]; exact FR.wI hFU3 (mdf_i (r := (895, 896, 5, 6)) (List.mem_of_getElem? (i := 0) rfl) (inR_i (by omega) (by omega) (by omega) (by omega)))
            have w141 : Xi U22 895 5 = (-1) := by rw [eU22]; exact Xi_same (by unfold rg; omega)
            refine l_aload_n rfl rfl ?_
            refine l_aload_n rfl rfl ?_
            refine l_gfi rfl rfl rfl rfl rfl ?_
            refine l_bipush rfl rfl ?_
            refine l_icmp_ne rfl rfl (by unfold rg; omega) (by unfold rg; omega) (fun w142 => ?_) (fun w143 => ?_)
            · refine l_iconst rfl ?_
              refine l_pfi rfl rfl rfl rfl ?_
              obtain ⟨U23, eU23⟩ : ∃ T : sS, T = uI U22 895 6 (Int32.ofInt (-1)) := ⟨_, rfl⟩
              rw [← eU23]
              have hHU23 : HI U23 := by rw [eU23]; exact HI_w hHU22 (show -1 ≤ (-1) by omega) (show (-1) ≤ 15 by omega)
              have hFU23 : FR md_me_readThing__2 S U23 := by rw [eU23]; exact FR.wI hFU22 (mdf_i (r := (895, 896, 6, 7)) (List.mem_of_getElem? (i := 1) rfl) (inR_i (by omega) (by omega) (by omega) (by omega)))
              have w144 : Xi U23 895 6 = (-1) := by rw [eU23]; exact Xi_same (by unfold rg; omega)
              refine l_iload rfl rfl ?_
              refine l_ireturn rfl rfl ?_
              have w145 : Xi U23 895 5 = Xi U22 895 5 := (show Xi U23 895 5 = Xi U22 895 5 from by rw [eU23]; exact Xi_ne (by omega))
              have w146 : -2 ≤ Xi U22 895 5 ∧ Xi U22 895 5 ≤ 23 := hHU22.c _ _
              have w147 : -1 ≤ Xi U23 895 6 ∧ Xi U23 895 6 ≤ 15 := hHU23.c _ _
              exact ⟨hHU23, hFU23, _, rfl, ⟨by omega, by omega⟩, (by first | assumption | omega), (by first | assumption | omega), (by first | assumption | omega), (by first | assumption | omega), (by omega)⟩
            · refine l_aload_n rfl rfl ?_
              refine l_gfi rfl rfl rfl rfl rfl ?_
              have w148 : (Xi U22 895 4) = (Xi S 895 4) := (show Xi U22 895 4 = Xi U3 895 4 from by rw [eU22]; exact Xi_ne (by omega)).trans ( (show Xi U3 895 4 = Xi U2 895 4 from by rw [eU3]; exact Xi_ne (by omega)).trans ( (show Xi U2 895 4 = Xi U1 895 4 from by rw [eU2]; exact Xi_ne (by omega)).trans ((show Xi U1 895 4 = Xi S 895 4 from by rw [eU1]; exact Xi_ne (by omega)))))
              rw [w148]
              refine l_goto rfl rfl ?_
              refine l_pfi rfl rfl rfl rfl ?_
              obtain ⟨U24, eU24⟩ : ∃ T : sS, T = uI U22 895 6 (Int32.ofInt (Xi S 895 4)) := ⟨_, rfl⟩
              rw [← eU24]
              have hHU24 : HI U24 := by rw [eU24]; exact HI_w hHU22 (show -1 ≤ (Xi S 895 4) by omega) (show (Xi S 895 4) ≤ 15 by omega)
              have hFU24 : FR md_me_readThing__2 S U24 := by rw [eU24]; exact FR.wI hFU22 (mdf_i (r := (895, 896, 6, 7)) (List.mem_of_getElem? (i := 1) rfl) (inR_i (by omega) (by omega) (by omega) (by omega)))
              have w149 : Xi U24 895 6 = (Xi S 895 4) := by rw [eU24]; exact Xi_same (by unfold rg; omega)
              refine l_iload rfl rfl ?_
              refine l_ireturn rfl rfl ?_
              have w150 : Xi U24 895 5 = Xi U22 895 5 := (show Xi U24 895 5 = Xi U22 895 5 from by rw [eU24]; exact Xi_ne (by omega))
              have w151 : -2 ≤ Xi U22 895 5 ∧ Xi U22 895 5 ≤ 23 := hHU22.c _ _
              have w152 : -1 ≤ Xi U24 895 6 ∧ Xi U24 895 6 ≤ 15 := hHU24.c _ _
              exact ⟨hHU24, hFU24, _, rfl, ⟨by omega, by omega⟩, (by first | assumption | omega), (by first | assumption | omega), (by first | assumption | omega), (by first | assumption | omega), (by omega)⟩
          · refine l_bipush rfl rfl ?_
            refine l_goto rfl rfl ?_
            refine l_pfi rfl rfl rfl rfl ?_
            obtain ⟨U25, eU25⟩ : ∃ T : sS, T = uI U3 895 5 (Int32.ofInt (-2)) := ⟨_, rfl⟩
            rw [← eU25]
            have hHU25 : HI U25 := by rw [eU25]; exact HI_w hHU3 (show -2 ≤ (-2) by omega) (show (-2) ≤ 23 by omega)
            have hFU25 : FR md_me_readThing__2 S U25 := by rw [eU25]; exact FR.wI hFU3 (mdf_i (r := (895, 896, 5, 6)) (List.mem_of_getElem? (i := 0) rfl) (inR_i (by omega) (by omega) (by omega) (by omega)))
            have w153 : Xi U25 895 5 = (-2) := by rw [eU25]; exact Xi_same (by unfold rg; omega)
            refine l_aload_n rfl rfl ?_
            refine l_aload_n rfl rfl ?_
            refine l_gfi rfl rfl rfl rfl rfl ?_
            refine l_bipush rfl rfl ?_
            refine l_icmp_ne rfl rfl (by unfold rg; omega) (by unfold rg; omega) (fun w154 => ?_) (fun w155 => ?_)
            · refine l_iconst rfl ?_
              refine l_pfi rfl rfl rfl rfl ?_
              obtain ⟨U26, eU26⟩ : ∃ T : sS, T = uI U25 895 6 (Int32.ofInt (-1)) := ⟨_, rfl⟩
              rw [← eU26]
              have hHU26 : HI U26 := by rw [eU26]; exact HI_w hHU25 (show -1 ≤ (-1) by omega) (show (-1) ≤ 15 by omega)
              have hFU26 : FR md_me_readThing__2 S U26 := by rw [eU26]; exact FR.wI hFU25 (mdf_i (r := (895, 896, 6, 7)) (List.mem_of_getElem? (i := 1) rfl) (inR_i (by omega) (by omega) (by omega) (by omega)))
              have w156 : Xi U26 895 6 = (-1) := by rw [eU26]; exact Xi_same (by unfold rg; omega)
              refine l_iload rfl rfl ?_
              refine l_ireturn rfl rfl ?_
              have w157 : Xi U26 895 5 = Xi U25 895 5 := (show Xi U26 895 5 = Xi U25 895 5 from by rw [eU26]; exact Xi_ne (by omega))
              have w158 : -2 ≤ Xi U25 895 5 ∧ Xi U25 895 5 ≤ 23 := hHU25.c _ _
              have w159 : -1 ≤ Xi U26 895 6 ∧ Xi U26 895 6 ≤ 15 := hHU26.c _ _
              exact ⟨hHU26, hFU26, _, rfl, ⟨by omega, by omega⟩, (by first | assumption | omega), (by first | assumption | omega), (by first | assumption | omega), (by first | assumption | omega), (by omega)⟩
            · refine l_aload_n rfl rfl ?_
              refine l_gfi rfl rfl rfl rfl rfl ?_
              have w160 : (Xi U25 895 4) = (Xi S 895 4) := (show Xi U25 895 4 = Xi U3 895 4 from by rw [eU25]; exact Xi_ne (by omega)).trans ( (show Xi U3 895 4 = Xi U2 895 4 from by rw [eU3]; exact Xi_ne (by omega)).trans ( (show Xi U2 895 4 = Xi U1 895 4 from by rw [eU2]; exact Xi_ne (by omega)).trans ((show Xi U1 895 4 = Xi S 895 4 from by rw [eU1]; exact Xi_ne (by omega)))))
              rw [w160]
              refine l_goto rfl rfl ?_
              refine l_pfi rfl rfl rfl rfl ?_
              obtain ⟨U27, eU27⟩ : ∃ T : sS, T = uI U25 895 6 (Int32.ofInt (Xi S 895 4)) := ⟨_, rfl⟩
              rw [← eU27]
              have hHU27 : HI U27 := by rw [eU27]; exact HI_w hHU25 (show -1 ≤ (Xi S 895 4) by omega) (show (Xi S 895 4) ≤ 15 by omega)
              have hFU27 : FR md_me_readThing__2 S U27 := by rw [eU27]; exact FR.wI hFU25 (mdf_i (r := (895, 896, 6, 7)) (List.mem_of_getElem? (i := 1) rfl) (inR_i (by omega) (by omega) (by omega) (by omega)))
              have w161 : Xi U27 895 6 = (Xi S 895 4) := by rw [eU27]; exact Xi_same (by unfold rg; omega)
              refine l_iload rfl rfl ?_
              refine l_ireturn rfl rfl ?_
              have w162 : Xi U27 895 5 = Xi U25 895 5 := (show Xi U27 895 5 = Xi U25 895 5 from by rw [eU27]; exact Xi_ne (by omega))
              have w163 : -2 ≤ Xi U25 895 5 ∧ Xi U25 895 5 ≤ 23 := hHU25.c _ _
              have w164 : -1 ≤ Xi U27 895 6 ∧ Xi U27 895 6 ≤ 15 := hHU27.c _ _
              exact ⟨hHU27, hFU27, _, rfl, ⟨by omega, by omega⟩, (by first | assumption | omega), (by first | assumption | omega), (by first | assumption | omega), (by first | assumption | omega), (by omega)⟩
  · refine l_aload_n rfl rfl ?_
    refine l_gfr rfl rfl rfl rfl rfl (hH.r 895 0 876 rfl) ?_
    refine l_iload_n rfl rfl ?_
    refine l_iconst rfl ?_
    refine l_iadd rfl ?_
    refine l_callV rfl rfl rfl (t_to_typeAt hH (from_ + 1) ⟨by omega, by omega⟩ _) ?_
    rintro _ _ ⟨rfl, z169, rfl, w169, w166, w167, w168⟩
    clear w167 w168
    show Rl _ _ _ _ _ [iv z169] _ _
    refine l_bipush rfl rfl ?_
    refine l_icmp_ne rfl rfl (by unfold rg; omega) (by unfold rg; omega) (fun w170 => ?_) (fun w171 => ?_)
    · refine l_aload_n rfl rfl ?_
      refine l_iload_n rfl rfl ?_
      refine l_pfi rfl rfl rfl rfl ?_
      obtain ⟨U28, eU28⟩ : ∃ T : sS, T = uI S 895 7 (Int32.ofInt from_) := ⟨_, rfl⟩
      rw [← eU28]
      have hHU28 : HI U28 := by rw [eU28]; exact HI_any hH (rfl)
      have hFU28 : FR md_me_readThing__2 S U28 := by rw [eU28]; exact FR.wI hF (mdf_i (r := (895, 896, 7, 8)) (List.mem_of_getElem? (i := 2) rfl) (inR_i (by omega) (by omega) (by omega) (by omega)))
      have w172 : Xi U28 895 7 = from_ := by rw [eU28]; exact Xi_same (by unfold rg; omega)
      refine l_aload_n rfl rfl ?_
      refine l_iconst rfl ?_
      refine l_pfi rfl rfl rfl rfl ?_
      obtain ⟨U29, eU29⟩ : ∃ T : sS, T = uI U28 895 5 (Int32.ofInt (-1)) := ⟨_, rfl⟩
      rw [← eU29]
      have hHU29 : HI U29 := by rw [eU29]; exact HI_w hHU28 (show -2 ≤ (-1) by omega) (show (-1) ≤ 23 by omega)
      have hFU29 : FR md_me_readThing__2 S U29 := by rw [eU29]; exact FR.wI hFU28 (mdf_i (r := (895, 896, 5, 6)) (List.mem_of_getElem? (i := 0) rfl) (inR_i (by omega) (by omega) (by omega) (by omega)))
      have w173 : Xi U29 895 5 = (-1) := by rw [eU29]; exact Xi_same (by unfold rg; omega)
      refine l_aload_n rfl rfl ?_
      refine l_iconst rfl ?_
      refine l_pfi rfl rfl rfl rfl ?_
      obtain ⟨U30, eU30⟩ : ∃ T : sS, T = uI U29 895 6 (Int32.ofInt (-1)) := ⟨_, rfl⟩
      rw [← eU30]
      have hHU30 : HI U30 := by rw [eU30]; exact HI_w hHU29 (show -1 ≤ (-1) by omega) (show (-1) ≤ 15 by omega)
      have hFU30 : FR md_me_readThing__2 S U30 := by rw [eU30]; exact FR.wI hFU29 (mdf_i (r := (895, 896, 6, 7)) (List.mem_of_getElem? (i := 1) rfl) (inR_i (by omega) (by omega) (by omega) (by omega)))
      have w174 : Xi U30 895 6 = (-1) := by rw [eU30]; exact Xi_same (by unfold rg; omega)
      refine l_iload_n rfl rfl ?_
      refine l_bipush rfl rfl ?_
      refine l_icmp_eq rfl rfl (by unfold rg; omega) (by unfold rg; omega) (fun w175 => ?_) (fun w176 => ?_)
      · refine l_aload_n rfl rfl ?_
        refine l_iload_n rfl rfl ?_
        refine l_aload_n rfl rfl ?_
        refine l_gfi rfl rfl rfl rfl rfl ?_
        have w177 : -2147483648 ≤ (Xi U30 895 3) ∧ (Xi U30 895 3) ≤ 2147483647 := Xi_rgI
        refine l_icmp_ne rfl rfl (by unfold rg; omega) (by unfold rg; omega) (fun w178 => ?_) (fun w179 => ?_)
        · refine l_iconst rfl ?_
          refine l_pfi rfl rfl rfl rfl ?_
          obtain ⟨U31, eU31⟩ : ∃ T : sS, T = uI U30 895 5 (Int32.ofInt (-1)) := ⟨_, rfl⟩
          rw [← eU31]
          have hHU31 : HI U31 := by rw [eU31]; exact HI_w hHU30 (show -2 ≤ (-1) by omega) (show (-1) ≤ 23 by omega)
          have hFU31 : FR md_me_readThing__2 S U31 := by rw [eU31]; exact FR.wI hFU30 (mdf_i (r := (895, 896, 5, 6)) (List.mem_of_getElem? (i := 0) rfl) (inR_i (by omega) (by omega) (by omega) (by omega)))
          have w180 : Xi U31 895 5 = (-1) := by rw [eU31]; exact Xi_same (by unfold rg; omega)
          refine l_aload_n rfl rfl ?_
          refine l_aload_n rfl rfl ?_
          refine l_gfi rfl rfl rfl rfl rfl ?_
          refine l_bipush rfl rfl ?_
          refine l_icmp_ne rfl rfl (by unfold rg; omega) (by unfold rg; omega) (fun w181 => ?_) (fun w182 => ?_)
          · refine l_iconst rfl ?_
            refine l_pfi rfl rfl rfl rfl ?_
            obtain ⟨U32, eU32⟩ : ∃ T : sS, T = uI U31 895 6 (Int32.ofInt (-1)) := ⟨_, rfl⟩
            rw [← eU32]
            have hHU32 : HI U32 := by rw [eU32]; exact HI_w hHU31 (show -1 ≤ (-1) by omega) (show (-1) ≤ 15 by omega)
            have hFU32 : FR md_me_readThing__2 S U32 := by rw [eU32]; exact FR.wI hFU31 (mdf_i (r := (895, 896, 6, 7)) (List.mem_of_getElem? (i := 1) rfl) (inR_i (by omega) (by omega) (by omega) (by omega)))
            have w183 : Xi U32 895 6 = (-1) := by rw [eU32]; exact Xi_same (by unfold rg; omega)
            refine l_iload rfl rfl ?_
            refine l_ireturn rfl rfl ?_
            have w184 : Xi U32 895 5 = Xi U31 895 5 := (show Xi U32 895 5 = Xi U31 895 5 from by rw [eU32]; exact Xi_ne (by omega))
            have w185 : -2 ≤ Xi U31 895 5 ∧ Xi U31 895 5 ≤ 23 := hHU31.c _ _
            have w186 : -1 ≤ Xi U32 895 6 ∧ Xi U32 895 6 ≤ 15 := hHU32.c _ _
            exact ⟨hHU32, hFU32, _, rfl, ⟨by omega, by omega⟩, (by first | assumption | omega), (by first | assumption | omega), (by first | assumption | omega), (by first | assumption | omega), (by omega)⟩
          · refine l_aload_n rfl rfl ?_
            refine l_gfi rfl rfl rfl rfl rfl ?_
            have w187 : (Xi U31 895 4) = (Xi S 895 4) := (show Xi U31 895 4 = Xi U30 895 4 from by rw [eU31]; exact Xi_ne (by omega)).trans ( (show Xi U30 895 4 = Xi U29 895 4 from by rw [eU30]; exact Xi_ne (by omega)).trans ( (show Xi U29 895 4 = Xi U28 895 4 from by rw [eU29]; exact Xi_ne (by omega)).trans ((show Xi U28 895 4 = Xi S 895 4 from by rw [eU28]; exact Xi_ne (by omega)))))
            rw [w187]
            refine l_goto rfl rfl ?_
            refine l_pfi rfl rfl rfl rfl ?_
            obtain ⟨U33, eU33⟩ : ∃ T : sS, T = uI U31 895 6 (Int32.ofInt (Xi S 895 4)) := ⟨_, rfl⟩
            rw [← eU33]
            have hHU33 : HI U33 := by rw [eU33]; exact HI_w hHU31 (show -1 ≤ (Xi S 895 4) by omega) (show (Xi S 895 4) ≤ 15 by omega)
            have hFU33 : FR md_me_readThing__2 S U33 := by rw [eU33]; exact FR.wI hFU31 (mdf_i (r := (895, 896, 6, 7)) (List.mem_of_getElem? (i := 1) rfl) (inR_i (by omega) (by omega) (by omega) (by omega)))
            have w188 : Xi U33 895 6 = (Xi S 895 4) := by rw [eU33]; exact Xi_same (by unfold rg; omega)
            refine l_iload rfl rfl ?_
            refine l_ireturn rfl rfl ?_
            have w189 : Xi U33 895 5 = Xi U31 895 5 := (show Xi U33 895 5 = Xi U31 895 5 from by rw [eU33]; exact Xi_ne (by omega))
            have w190 : -2 ≤ Xi U31 895 5 ∧ Xi U31 895 5 ≤ 23 := hHU31.c _ _
            have w191 : -1 ≤ Xi U33 895 6 ∧ Xi U33 895 6 ≤ 15 := hHU33.c _ _
            exact ⟨hHU33, hFU33, _, rfl, ⟨by omega, by omega⟩, (by first | assumption | omega), (by first | assumption | omega), (by first | assumption | omega), (by first | assumption | omega), (by omega)⟩
        · refine l_aload_n rfl rfl ?_
          refine l_gfi rfl rfl rfl rfl rfl ?_
          have w192 : (Xi U30 895 4) = (Xi S 895 4) := (show Xi U30 895 4 = Xi U29 895 4 from by rw [eU30]; exact Xi_ne (by omega)).trans ( (show Xi U29 895 4 = Xi U28 895 4 from by rw [eU29]; exact Xi_ne (by omega)).trans ((show Xi U28 895 4 = Xi S 895 4 from by rw [eU28]; exact Xi_ne (by omega))))
          rw [w192]
          refine l_iconst rfl ?_
          refine l_icmp_eq rfl rfl (by unfold rg; omega) (by unfold rg; omega) (fun w193 => ?_) (fun w194 => ?_)
          · refine l_iconst rfl ?_
            refine l_pfi rfl rfl rfl rfl ?_
            obtain ⟨U34, eU34⟩ : ∃ T : sS, T = uI U30 895 5 (Int32.ofInt (-1)) := ⟨_, rfl⟩
            rw [← eU34]
            have hHU34 : HI U34 := by rw [eU34]; exact HI_w hHU30 (show -2 ≤ (-1) by omega) (show (-1) ≤ 23 by omega)
            have hFU34 : FR md_me_readThing__2 S U34 := by rw [eU34]; exact FR.wI hFU30 (mdf_i (r := (895, 896, 5, 6)) (List.mem_of_getElem? (i := 0) rfl) (inR_i (by omega) (by omega) (by omega) (by omega)))
            have w195 : Xi U34 895 5 = (-1) := by rw [eU34]; exact Xi_same (by unfold rg; omega)
            refine l_aload_n rfl rfl ?_
            refine l_aload_n rfl rfl ?_
            refine l_gfi rfl rfl rfl rfl rfl ?_
            refine l_bipush rfl rfl ?_
            refine l_icmp_ne rfl rfl (by unfold rg; omega) (by unfold rg; omega) (fun w196 => ?_) (fun w197 => ?_)
            · refine l_iconst rfl ?_
              refine l_pfi rfl rfl rfl rfl ?_
              obtain ⟨U35, eU35⟩ : ∃ T : sS, T = uI U34 895 6 (Int32.ofInt (-1)) := ⟨_, rfl⟩
              rw [← eU35]
              have hHU35 : HI U35 := by rw [eU35]; exact HI_w hHU34 (show -1 ≤ (-1) by omega) (show (-1) ≤ 15 by omega)
              have hFU35 : FR md_me_readThing__2 S U35 := by rw [eU35]; exact FR.wI hFU34 (mdf_i (r := (895, 896, 6, 7)) (List.mem_of_getElem? (i := 1) rfl) (inR_i (by omega) (by omega) (by omega) (by omega)))
              have w198 : Xi U35 895 6 = (-1) := by rw [eU35]; exact Xi_same (by unfold rg; omega)
              refine l_iload rfl rfl ?_
              refine l_ireturn rfl rfl ?_
              have w199 : Xi U35 895 5 = Xi U34 895 5 := (show Xi U35 895 5 = Xi U34 895 5 from by rw [eU35]; exact Xi_ne (by omega))
              have w200 : -2 ≤ Xi U34 895 5 ∧ Xi U34 895 5 ≤ 23 := hHU34.c _ _
              have w201 : -1 ≤ Xi U35 895 6 ∧ Xi U35 895 6 ≤ 15 := hHU35.c _ _
              exact ⟨hHU35, hFU35, _, rfl, ⟨by omega, by omega⟩, (by first | assumption | omega), (by first | assumption | omega), (by first | assumption | omega), (by first | assumption | omega), (by omega)⟩
            · refine l_aload_n rfl rfl ?_
              refine l_gfi rfl rfl rfl rfl rfl ?_
              have w202 : (Xi U34 895 4) = (Xi S 895 4) := (show Xi U34 895 4 = Xi U30 895 4 from by rw [eU34]; exact Xi_ne (by omega)).trans ( (show Xi U30 895 4 = Xi U29 895 4 from by rw [eU30]; exact Xi_ne (by omega)).trans ( (show Xi U29 895 4 = Xi U28 895 4 from by rw [eU29]; exact Xi_ne (by omega)).trans ((show Xi U28 895 4 = Xi S 895 4 from by rw [eU28]; exact Xi_ne (by omega)))))
              rw [w202]
              refine l_goto rfl rfl ?_
              refine l_pfi rfl rfl rfl rfl ?_
              obtain ⟨U36, eU36⟩ : ∃ T : sS, T = uI U34 895 6 (Int32.ofInt (Xi S 895 4)) := ⟨_, rfl⟩
              rw [← eU36]
              have hHU36 : HI U36 := by rw [eU36]; exact HI_w hHU34 (show -1 ≤ (Xi S 895 4) by omega) (show (Xi S 895 4) ≤ 15 by omega)
              have hFU36 : FR md_me_readThing__2 S U36 := by rw [eU36]; exact FR.wI hFU34 (mdf_i (r := (895, 896, 6, 7)) (List.mem_of_getElem? (i := 1) rfl) (inR_i (by omega) (by omega) (by omega) (by omega)))
              have w203 : Xi U36 895 6 = (Xi S 895 4) := by rw [eU36]; exact Xi_same (by unfold rg; omega)
              refine l_iload rfl rfl ?_
              refine l_ireturn rfl rfl ?_
              have w204 : Xi U36 895 5 = Xi U34 895 5 := (show Xi U36 895 5 = Xi U34 895 5 from by rw [eU36]; exact Xi_ne (by omega))
              have w205 : -2 ≤ Xi U34 895 5 ∧ Xi U34 895 5 ≤ 23 := hHU34.c _ _
              have w206 : -1 ≤ Xi U36 895 6 ∧ Xi U36 895 6 ≤ 15 := hHU36.c _ _
              exact ⟨hHU36, hFU36, _, rfl, ⟨by omega, by omega⟩, (by first | assumption | omega), (by first | assumption | omega), (by first | assumption | omega), (by first | assumption | omega), (by omega)⟩
          · refine l_bipush rfl rfl ?_
            refine l_goto rfl rfl ?_
            refine l_pfi rfl rfl rfl rfl ?_
            obtain ⟨U37, eU37⟩ : ∃ T : sS, T = uI U30 895 5 (Int32.ofInt (-2)) := ⟨_, rfl⟩
            rw [← eU37]
            have hHU37 : HI U37 := by rw [eU37]; exact HI_w hHU30 (show -2 ≤ (-2) by omega) (show (-2) ≤ 23 by omega)
            have hFU37 : FR md_me_readThing__2 S U37 := by rw [eU37]; exact FR.wI hFU30 (mdf_i (r := (895, 896, 5, 6)) (List.mem_of_getElem? (i := 0) rfl) (inR_i (by omega) (by omega) (by omega) (by omega)))
            have w207 : Xi U37 895 5 = (-2) := by rw [eU37]; exact Xi_same (by unfold rg; omega)
            refine l_aload_n rfl rfl ?_
            refine l_aload_n rfl rfl ?_
            refine l_gfi rfl rfl rfl rfl rfl ?_
            refine l_bipush rfl rfl ?_
            refine l_icmp_ne rfl rfl (by unfold rg; omega) (by unfold rg; omega) (fun w208 => ?_) (fun w209 => ?_)
            · refine l_iconst rfl ?_
              refine l_pfi rfl rfl rfl rfl ?_
              obtain ⟨U38, eU38⟩ : ∃ T : sS, T = uI U37 895 6 (Int32.ofInt (-1)) := ⟨_, rfl⟩
              rw [← eU38]
              have hHU38 : HI U38 := by rw [eU38]; exact HI_w hHU37 (show -1 ≤ (-1) by omega) (show (-1) ≤ 15 by omega)
              have hFU38 : FR md_me_readThing__2 S U38 := by rw [eU38]; exact FR.wI hFU37 (mdf_i (r := (895, 896, 6, 7)) (List.mem_of_getElem? (i := 1) rfl) (inR_i (by omega) (by omega) (by omega) (by omega)))
              have w210 : Xi U38 895 6 = (-1) := by rw [eU38]; exact Xi_same (by unfold rg; omega)
              refine l_iload rfl rfl ?_
              refine l_ireturn rfl rfl ?_
              have w211 : Xi U38 895 5 = Xi U37 895 5 := (show Xi U38 895 5 = Xi U37 895 5 from by rw [eU38]; exact Xi_ne (by omega))
              have w212 : -2 ≤ Xi U37 895 5 ∧ Xi U37 895 5 ≤ 23 := hHU37.c _ _
              have w213 : -1 ≤ Xi U38 895 6 ∧ Xi U38 895 6 ≤ 15 := hHU38.c _ _
              exact ⟨hHU38, hFU38, _, rfl, ⟨by omega, by omega⟩, (by first | assumption | omega), (by first | assumption | omega), (by first | assumption | omega), (by first | assumption | omega), (by omega)⟩
            · refine l_aload_n rfl rfl ?_
              refine l_gfi rfl rfl rfl rfl rfl ?_
              have w214 : (Xi U37 895 4) = (Xi S 895 4) := (show Xi U37 895 4 = Xi U30 895 4 from by rw [eU37]; exact Xi_ne (by omega)).trans ( (show Xi U30 895 4 = Xi U29 895 4 from by rw [eU30]; exact Xi_ne (by omega)).trans ( (show Xi U29 895 4 = Xi U28 895 4 from by rw [eU29]; exact Xi_ne (by omega)).trans ((show Xi U28 895 4 = Xi S 895 4 from by rw [eU28]; exact Xi_ne (by omega)))))
              rw [w214]
              refine l_goto rfl rfl ?_
              refine l_pfi rfl rfl rfl rfl ?_
              obtain ⟨U39, eU39⟩ : ∃ T : sS, T = uI U37 895 6 (Int32.ofInt (Xi S 895 4)) := ⟨_, rfl⟩
              rw [← eU39]
              have hHU39 : HI U39 := by rw [eU39]; exact HI_w hHU37 (show -1 ≤ (Xi S 895 4) by omega) (show (Xi S 895 4) ≤ 15 by omega)
              have hFU39 : FR md_me_readThing__2 S U39 := by rw [eU39]; exact FR.wI hFU37 (mdf_i (r := (895, 896, 6, 7)) (List.mem_of_getElem? (i := 1) rfl) (inR_i (by omega) (by omega) (by omega) (by omega)))
              have w215 : Xi U39 895 6 = (Xi S 895 4) := by rw [eU39]; exact Xi_same (by unfold rg; omega)
              refine l_iload rfl rfl ?_
              refine l_ireturn rfl rfl ?_
              have w216 : Xi U39 895 5 = Xi U37 895 5 := (show Xi U39 895 5 = Xi U37 895 5 from by rw [eU39]; exact Xi_ne (by omega))
              have w217 : -2 ≤ Xi U37 895 5 ∧ Xi U37 895 5 ≤ 23 := hHU37.c _ _
              have w218 : -1 ≤ Xi U39 895 6 ∧ Xi U39 895 6 ≤ 15 := hHU39.c _ _
              exact ⟨hHU39, hFU39, _, rfl, ⟨by omega, by omega⟩, (by first | assumption | omega), (by first | assumption | omega), (by first | assumption | omega), (by first | assumption | omega), (by omega)⟩
      · refine l_iload_n rfl rfl ?_
        refine l_bipush rfl rfl ?_
        refine l_icmp_ne rfl rfl (by unfold rg; omega) (by unfold rg; omega) (fun w219 => ?_) (fun w220 => ?_)
        · refine l_aload_n rfl rfl ?_
          refine l_iload_n rfl rfl ?_
          refine l_callS rfl rfl (by decide) rfl (t_rs_isArt hHU30 z7 ⟨by omega, by omega⟩ _) ?_
          rintro _ _ ⟨rfl, z222, rfl, w222, w221⟩
          show Rl _ _ _ _ _ [iv z222, .ref 895] _ _
          refine l_if_eq rfl rfl (by unfold rg; omega) (fun w223 => ?_) (fun w224 => ?_)
          · refine l_iload_n rfl rfl ?_
            refine l_pfi rfl rfl rfl rfl ?_
            obtain ⟨U40, eU40⟩ : ∃ T : sS, T = uI U30 895 7 (Int32.ofInt from_) := ⟨_, rfl⟩
            rw [← eU40]
            have hHU40 : HI U40 := by rw [eU40]; exact HI_any hHU30 (rfl)
            have hFU40 : FR md_me_readThing__2 S U40 := by rw [eU40]; exact FR.wI hFU30 (mdf_i (r := (895, 896, 7, 8)) (List.mem_of_getElem? (i := 2) rfl) (inR_i (by omega) (by omega) (by omega) (by omega)))
            have w225 : Xi U40 895 7 = from_ := by rw [eU40]; exact Xi_same (by unfold rg; omega)
            refine l_aload_n rfl rfl ?_
            refine l_gfr rfl rfl rfl rfl rfl (hHU40.r 895 0 876 rfl) ?_
            refine l_aload_n rfl rfl ?_
            refine l_gfi rfl rfl rfl rfl rfl ?_
            refine l_iload_n rfl rfl ?_
            have w226 : Xi U40 876 7 = Xi S 876 7 := (show Xi U40 876 7 = Xi U30 876 7 from by rw [eU40]; exact Xi_ne (by omega)).trans ( (show Xi U30 876 7 = Xi U29 876 7 from by rw [eU30]; exact Xi_ne (by omega)).trans ( (show Xi U29 876 7 = Xi U28 876 7 from by rw [eU29]; exact Xi_ne (by omega)).trans ((show Xi U28 876 7 = Xi S 876 7 from by rw [eU28]; exact Xi_ne (by omega)))))
            refine l_callV rfl rfl rfl (t_to_runEndUpTo hHU40 (Xi U40 895 7) limit ⟨by omega, by omega⟩ ⟨by omega, by omega⟩ _) ?_
            rintro _ _ ⟨rfl, z235, rfl, w235, w228, w229, w230, w231, w232, w233, w234⟩
            clear w230 w231 w232 w233
            show Rl _ _ _ _ _ [iv z235] _ _
            refine l_istore rfl rfl rfl ?_
            refine l_aload_n rfl rfl ?_
            refine l_gfr rfl rfl rfl rfl rfl (hHU40.r 895 1 1 rfl) ?_
            refine l_aload_n rfl rfl ?_
            refine l_gfr rfl rfl rfl rfl rfl (hHU40.r 895 0 876 rfl) ?_
            refine l_gfr rfl rfl rfl rfl rfl (hHU40.r 876 2 879 rfl) ?_
            refine l_aload_n rfl rfl ?_
            refine l_gfi rfl rfl rfl rfl rfl ?_
            refine l_iload rfl rfl ?_
            refine l_callV rfl rfl rfl (t_vo_meaning hHU40 879 5130 (Xi U40 895 7) z235 rfl ⟨by omega, by omega⟩ ⟨by omega, by omega⟩ ⟨by omega, by omega⟩ (by first | assumption | exact (LEX_FR hFU40 rfl rfl (by assumption : LEX S))) _) ?_
            rintro _ _ ⟨rfl, z239, rfl, w239, w236, w237, w238⟩
            show Rl _ _ _ _ _ [iv z239] _ _
            have hmnz239 := mOK_n (z := z239) (by assumption)
            refine l_istore rfl rfl rfl ?_
            refine l_iload rfl rfl ?_
            refine l_bipush rfl rfl ?_
            refine l_ishr8 rfl (by unfold rg; omega) ?_
            refine l_iconst rfl ?_
            refine l_icmp_ne rfl rfl (by unfold rg; omega) (by unfold rg; omega) (fun w241 => ?_) (fun w242 => ?_)
            · refine l_iload rfl rfl ?_
              refine l_ireturn rfl rfl ?_
              have w243 : Xi U40 895 5 = Xi U29 895 5 := (show Xi U40 895 5 = Xi U30 895 5 from by rw [eU40]; exact Xi_ne (by omega)).trans ((show Xi U30 895 5 = Xi U29 895 5 from by rw [eU30]; exact Xi_ne (by omega)))
              have w244 : -2 ≤ Xi U29 895 5 ∧ Xi U29 895 5 ≤ 23 := hHU29.c _ _
              have w245 : Xi U40 895 6 = Xi U30 895 6 := (show Xi U40 895 6 = Xi U30 895 6 from by rw [eU40]; exact Xi_ne (by omega))
              have w246 : -1 ≤ Xi U30 895 6 ∧ Xi U30 895 6 ≤ 15 := hHU30.c _ _
              exact ⟨hHU40, hFU40, _, rfl, ⟨by omega, by omega⟩, (by first | assumption | omega), (by first | assumption | omega), (by first | assumption | omega), (by first | assumption | omega), (by omega)⟩
            · refine l_aload_n rfl rfl ?_
              refine l_iload rfl rfl ?_
              refine l_sipush rfl rfl ?_
              refine l_iand255 rfl (by unfold rg; omega) ?_
              have w248 := fb2 hHU40 (lx (z := z239) (by assumption) (by omega) (by omega))
              refine l_pfi rfl rfl rfl rfl ?_
              obtain ⟨U41, eU41⟩ : ∃ T : sS, T = uI U40 895 5 (Int32.ofInt (z239 % 256)) := ⟨_, rfl⟩
              rw [← eU41]
              have hHU41 : HI U41 := by rw [eU41]; exact HI_w hHU40 (show -2 ≤ (z239 % 256) by omega) (show (z239 % 256) ≤ 23 by omega)
              have hFU41 : FR md_me_readThing__2 S U41 := by rw [eU41]; exact FR.wI hFU40 (mdf_i (r := (895, 896, 5, 6)) (List.mem_of_getElem? (i := 0) rfl) (inR_i (by omega) (by omega) (by omega) (by omega)))
              have w249 : Xi U41 895 5 = (z239 % 256) := by rw [eU41]; exact Xi_same (by unfold rg; omega)
              refine l_aload_n rfl rfl ?_
              refine l_aload_n rfl rfl ?_
              refine l_gfr rfl rfl rfl rfl rfl (hHU41.r 895 2 20 rfl) ?_
              refine l_gfr rfl rfl rfl rfl rfl (hHU41.r 20 2 21 rfl) ?_
              refine l_aload_n rfl rfl ?_
              refine l_gfi rfl rfl rfl rfl rfl ?_
              refine l_iaload (n := 24) rfl rfl (by omega) (by omega) (by unfold rg; omega) ?_
              have w250 : 0 ≤ (Xi U41 21 (((Xi U41 895 5)).toNat)) ∧ (Xi U41 21 (((Xi U41 895 5)).toNat)) ≤ 15 := hHU41.c _ _
              refine l_pfi rfl rfl rfl rfl ?_
              obtain ⟨U42, eU42⟩ : ∃ T : sS, T = uI U41 895 6 (Int32.ofInt (Xi U41 21 (((Xi U41 895 5)).toNat))) := ⟨_, rfl⟩
              rw [← eU42]
              have hHU42 : HI U42 := by rw [eU42]; exact HI_w hHU41 (show -1 ≤ (Xi U41 21 (((Xi U41 895 5)).toNat)) by omega) (show (Xi U41 21 (((Xi U41 895 5)).toNat)) ≤ 15 by omega)
              have hFU42 : FR md_me_readThing__2 S U42 := by rw [eU42]; exact FR.wI hFU41 (mdf_i (r := (895, 896, 6, 7)) (List.mem_of_getElem? (i := 1) rfl) (inR_i (by omega) (by omega) (by omega) (by omega)))
              have w251 : Xi U42 895 6 = (Xi U41 21 (((Xi U41 895 5)).toNat)) := by rw [eU42]; exact Xi_same (by unfold rg; omega)
              refine l_iload rfl rfl ?_
              refine l_ireturn rfl rfl ?_
              have w252 : Xi U42 895 5 = Xi U41 895 5 := (show Xi U42 895 5 = Xi U41 895 5 from by rw [eU42]; exact Xi_ne (by omega))
              have w253 : -2 ≤ Xi U41 895 5 ∧ Xi U41 895 5 ≤ 23 := hHU41.c _ _
              have w254 : -1 ≤ Xi U42 895 6 ∧ Xi U42 895 6 ≤ 15 := hHU42.c _ _
              exact ⟨hHU42, hFU42, _, rfl, ⟨by omega, by omega⟩, (by first | assumption | omega), (by first | assumption | omega), (by first | assumption | omega), (by first | assumption | omega), (by omega)⟩
          · refine l_iload_n rfl rfl ?_
            refine l_iconst rfl ?_
            refine l_iadd rfl ?_
            refine l_goto rfl rfl ?_
            refine l_pfi rfl rfl rfl rfl ?_
            obtain ⟨U43, eU43⟩ : ∃ T : sS, T = uI U30 895 7 (Int32.ofInt (from_ + 1)) := ⟨_, rfl⟩
            rw [← eU43]
            have hHU43 : HI U43 := by rw [eU43]; exact HI_any hHU30 (rfl)
            have hFU43 : FR md_me_readThing__2 S U43 := by rw [eU43]; exact FR.wI hFU30 (mdf_i (r := (895, 896, 7, 8)) (List.mem_of_getElem? (i := 2) rfl) (inR_i (by omega) (by omega) (by omega) (by omega)))
            have w255 : Xi U43 895 7 = (from_ + 1) := by rw [eU43]; exact Xi_same (by unfold rg; omega)
            refine l_aload_n rfl rfl ?_
            refine l_gfr rfl rfl rfl rfl rfl (hHU43.r 895 0 876 rfl) ?_
            refine l_aload_n rfl rfl ?_
            refine l_gfi rfl rfl rfl rfl rfl ?_
            refine l_iload_n rfl rfl ?_
            have w256 : Xi U43 876 7 = Xi S 876 7 := (show Xi U43 876 7 = Xi U30 876 7 from by rw [eU43]; exact Xi_ne (by omega)).trans ( (show Xi U30 876 7 = Xi U29 876 7 from by rw [eU30]; exact Xi_ne (by omega)).trans ( (show Xi U29 876 7 = Xi U28 876 7 from by rw [eU29]; exact Xi_ne (by omega)).trans ((show Xi U28 876 7 = Xi S 876 7 from by rw [eU28]; exact Xi_ne (by omega)))))
            refine l_callV rfl rfl rfl (t_to_runEndUpTo hHU43 (Xi U43 895 7) limit ⟨by omega, by omega⟩ ⟨by omega, by omega⟩ _) ?_
            rintro _ _ ⟨rfl, z265, rfl, w265, w258, w259, w260, w261, w262, w263, w264⟩
            clear w260 w261 w262 w263
            show Rl _ _ _ _ _ [iv z265] _ _
            refine l_istore rfl rfl rfl ?_
            refine l_aload_n rfl rfl ?_
            refine l_gfr rfl rfl rfl rfl rfl (hHU43.r 895 1 1 rfl) ?_
            refine l_aload_n rfl rfl ?_
            refine l_gfr rfl rfl rfl rfl rfl (hHU43.r 895 0 876 rfl) ?_
            refine l_gfr rfl rfl rfl rfl rfl (hHU43.r 876 2 879 rfl) ?_
            refine l_aload_n rfl rfl ?_
            refine l_gfi rfl rfl rfl rfl rfl ?_
            refine l_iload rfl rfl ?_
            refine l_callV rfl rfl rfl (t_vo_meaning hHU43 879 5130 (Xi U43 895 7) z265 rfl ⟨by omega, by omega⟩ ⟨by omega, by omega⟩ ⟨by omega, by omega⟩ (by first | assumption | exact (LEX_FR hFU43 rfl rfl (by assumption : LEX S))) _) ?_
            rintro _ _ ⟨rfl, z269, rfl, w269, w266, w267, w268⟩
            show Rl _ _ _ _ _ [iv z269] _ _
            have hmnz269 := mOK_n (z := z269) (by assumption)
            refine l_istore rfl rfl rfl ?_
            refine l_iload rfl rfl ?_
            refine l_bipush rfl rfl ?_
            refine l_ishr8 rfl (by unfold rg; omega) ?_
            refine l_iconst rfl ?_
            refine l_icmp_ne rfl rfl (by unfold rg; omega) (by unfold rg; omega) (fun w271 => ?_) (fun w272 => ?_)
            · refine l_iload rfl rfl ?_
              refine l_ireturn rfl rfl ?_
              have w273 : Xi U43 895 5 = Xi U29 895 5 := (show Xi U43 895 5 = Xi U30 895 5 from by rw [eU43]; exact Xi_ne (by omega)).trans ((show Xi U30 895 5 = Xi U29 895 5 from by rw [eU30]; exact Xi_ne (by omega)))
              have w274 : -2 ≤ Xi U29 895 5 ∧ Xi U29 895 5 ≤ 23 := hHU29.c _ _
              have w275 : Xi U43 895 6 = Xi U30 895 6 := (show Xi U43 895 6 = Xi U30 895 6 from by rw [eU43]; exact Xi_ne (by omega))
              have w276 : -1 ≤ Xi U30 895 6 ∧ Xi U30 895 6 ≤ 15 := hHU30.c _ _
              exact ⟨hHU43, hFU43, _, rfl, ⟨by omega, by omega⟩, (by first | assumption | omega), (by first | assumption | omega), (by first | assumption | omega), (by first | assumption | omega), (by omega)⟩
            · refine l_aload_n rfl rfl ?_
              refine l_iload rfl rfl ?_
              refine l_sipush rfl rfl ?_
              refine l_iand255 rfl (by unfold rg; omega) ?_
              have w278 := fb2 hHU43 (lx (z := z269) (by assumption) (by omega) (by omega))
              refine l_pfi rfl rfl rfl rfl ?_
              obtain ⟨U44, eU44⟩ : ∃ T : sS, T = uI U43 895 5 (Int32.ofInt (z269 % 256)) := ⟨_, rfl⟩
              rw [← eU44]
              have hHU44 : HI U44 := by rw [eU44]; exact HI_w hHU43 (show -2 ≤ (z269 % 256) by omega) (show (z269 % 256) ≤ 23 by omega)
              have hFU44 : FR md_me_readThing__2 S U44 := by rw [eU44]; exact FR.wI hFU43 (mdf_i (r := (895, 896, 5, 6)) (List.mem_of_getElem? (i := 0) rfl) (inR_i (by omega) (by omega) (by omega) (by omega)))
              have w279 : Xi U44 895 5 = (z269 % 256) := by rw [eU44]; exact Xi_same (by unfold rg; omega)
              refine l_aload_n rfl rfl ?_
              refine l_aload_n rfl rfl ?_
              refine l_gfr rfl rfl rfl rfl rfl (hHU44.r 895 2 20 rfl) ?_
              refine l_gfr rfl rfl rfl rfl rfl (hHU44.r 20 2 21 rfl) ?_
              refine l_aload_n rfl rfl ?_
              refine l_gfi rfl rfl rfl rfl rfl ?_
              refine l_iaload (n := 24) rfl rfl (by omega) (by omega) (by unfold rg; omega) ?_
              have w280 : 0 ≤ (Xi U44 21 (((Xi U44 895 5)).toNat)) ∧ (Xi U44 21 (((Xi U44 895 5)).toNat)) ≤ 15 := hHU44.c _ _
              refine l_pfi rfl rfl rfl rfl ?_
              obtain ⟨U45, eU45⟩ : ∃ T : sS, T = uI U44 895 6 (Int32.ofInt (Xi U44 21 (((Xi U44 895 5)).toNat))) := ⟨_, rfl⟩
              rw [← eU45]
              have hHU45 : HI U45 := by rw [eU45]; exact HI_w hHU44 (show -1 ≤ (Xi U44 21 (((Xi U44 895 5)).toNat)) by omega) (show (Xi U44 21 (((Xi U44 895 5)).toNat)) ≤ 15 by omega)
              have hFU45 : FR md_me_readThing__2 S U45 := by rw [eU45]; exact FR.wI hFU44 (mdf_i (r := (895, 896, 6, 7)) (List.mem_of_getElem? (i := 1) rfl) (inR_i (by omega) (by omega) (by omega) (by omega)))
              have w281 : Xi U45 895 6 = (Xi U44 21 (((Xi U44 895 5)).toNat)) := by rw [eU45]; exact Xi_same (by unfold rg; omega)
              refine l_iload rfl rfl ?_
              refine l_ireturn rfl rfl ?_
              have w282 : Xi U45 895 5 = Xi U44 895 5 := (show Xi U45 895 5 = Xi U44 895 5 from by rw [eU45]; exact Xi_ne (by omega))
              have w283 : -2 ≤ Xi U44 895 5 ∧ Xi U44 895 5 ≤ 23 := hHU44.c _ _
              have w284 : -1 ≤ Xi U45 895 6 ∧ Xi U45 895 6 ≤ 15 := hHU45.c _ _
              exact ⟨hHU45, hFU45, _, rfl, ⟨by omega, by omega⟩, (by first | assumption | omega), (by first | assumption | omega), (by first | assumption | omega), (by first | assumption | omega), (by omega)⟩
        · refine l_aload_n rfl rfl ?_
          refine l_iload_n rfl rfl ?_
          refine l_aload_n rfl rfl ?_
          refine l_gfi rfl rfl rfl rfl rfl ?_
          have w285 : -2147483648 ≤ (Xi U30 895 3) ∧ (Xi U30 895 3) ≤ 2147483647 := Xi_rgI
          refine l_icmp_ne rfl rfl (by unfold rg; omega) (by unfold rg; omega) (fun w286 => ?_) (fun w287 => ?_)
          · refine l_iconst rfl ?_
            refine l_pfi rfl rfl rfl rfl ?_
            obtain ⟨U46, eU46⟩ : ∃ T : sS, T = uI U30 895 5 (Int32.ofInt (-1)) := ⟨_, rfl⟩
            rw [← eU46]
            have hHU46 : HI U46 := by rw [eU46]; exact HI_w hHU30 (show -2 ≤ (-1) by omega) (show (-1) ≤ 23 by omega)
            have hFU46 : FR md_me_readThing__2 S U46 := by rw [eU46]; exact FR.wI hFU30 (mdf_i (r := (895, 896, 5, 6)) (List.mem_of_getElem? (i := 0) rfl) (inR_i (by omega) (by omega) (by omega) (by omega)))
            have w288 : Xi U46 895 5 = (-1) := by rw [eU46]; exact Xi_same (by unfold rg; omega)
            refine l_aload_n rfl rfl ?_
            refine l_aload_n rfl rfl ?_
            refine l_gfi rfl rfl rfl rfl rfl ?_
            refine l_bipush rfl rfl ?_
            refine l_icmp_ne rfl rfl (by unfold rg; omega) (by unfold rg; omega) (fun w289 => ?_) (fun w290 => ?_)
            · refine l_iconst rfl ?_
              refine l_pfi rfl rfl rfl rfl ?_
              obtain ⟨U47, eU47⟩ : ∃ T : sS, T = uI U46 895 6 (Int32.ofInt (-1)) := ⟨_, rfl⟩
              rw [← eU47]
              have hHU47 : HI U47 := by rw [eU47]; exact HI_w hHU46 (show -1 ≤ (-1) by omega) (show (-1) ≤ 15 by omega)
              have hFU47 : FR md_me_readThing__2 S U47 := by rw [eU47]; exact FR.wI hFU46 (mdf_i (r := (895, 896, 6, 7)) (List.mem_of_getElem? (i := 1) rfl) (inR_i (by omega) (by omega) (by omega) (by omega)))
              have w291 : Xi U47 895 6 = (-1) := by rw [eU47]; exact Xi_same (by unfold rg; omega)
              refine l_iload rfl rfl ?_
              refine l_ireturn rfl rfl ?_
              have w292 : Xi U47 895 5 = Xi U46 895 5 := (show Xi U47 895 5 = Xi U46 895 5 from by rw [eU47]; exact Xi_ne (by omega))
              have w293 : -2 ≤ Xi U46 895 5 ∧ Xi U46 895 5 ≤ 23 := hHU46.c _ _
              have w294 : -1 ≤ Xi U47 895 6 ∧ Xi U47 895 6 ≤ 15 := hHU47.c _ _
              exact ⟨hHU47, hFU47, _, rfl, ⟨by omega, by omega⟩, (by first | assumption | omega), (by first | assumption | omega), (by first | assumption | omega), (by first | assumption | omega), (by omega)⟩
            · refine l_aload_n rfl rfl ?_
              refine l_gfi rfl rfl rfl rfl rfl ?_
              have w295 : (Xi U46 895 4) = (Xi S 895 4) := (show Xi U46 895 4 = Xi U30 895 4 from by rw [eU46]; exact Xi_ne (by omega)).trans ( (show Xi U30 895 4 = Xi U29 895 4 from by rw [eU30]; exact Xi_ne (by omega)).trans ( (show Xi U29 895 4 = Xi U28 895 4 from by rw [eU29]; exact Xi_ne (by omega)).trans ((show Xi U28 895 4 = Xi S 895 4 from by rw [eU28]; exact Xi_ne (by omega)))))
              rw [w295]
              refine l_goto rfl rfl ?_
              refine l_pfi rfl rfl rfl rfl ?_
              obtain ⟨U48, eU48⟩ : ∃ T : sS, T = uI U46 895 6 (Int32.ofInt (Xi S 895 4)) := ⟨_, rfl⟩
              rw [← eU48]
              have hHU48 : HI U48 := by rw [eU48]; exact HI_w hHU46 (show -1 ≤ (Xi S 895 4) by omega) (show (Xi S 895 4) ≤ 15 by omega)
              have hFU48 : FR md_me_readThing__2 S U48 := by rw [eU48]; exact FR.wI hFU46 (mdf_i (r := (895, 896, 6, 7)) (List.mem_of_getElem? (i := 1) rfl) (inR_i (by omega) (by omega) (by omega) (by omega)))
              have w296 : Xi U48 895 6 = (Xi S 895 4) := by rw [eU48]; exact Xi_same (by unfold rg; omega)
              refine l_iload rfl rfl ?_
              refine l_ireturn rfl rfl ?_
              have w297 : Xi U48 895 5 = Xi U46 895 5 := (show Xi U48 895 5 = Xi U46 895 5 from by rw [eU48]; exact Xi_ne (by omega))
              have w298 : -2 ≤ Xi U46 895 5 ∧ Xi U46 895 5 ≤ 23 := hHU46.c _ _
              have w299 : -1 ≤ Xi U48 895 6 ∧ Xi U48 895 6 ≤ 15 := hHU48.c _ _
              exact ⟨hHU48, hFU48, _, rfl, ⟨by omega, by omega⟩, (by first | assumption | omega), (by first | assumption | omega), (by first | assumption | omega), (by first | assumption | omega), (by omega)⟩
          · refine l_aload_n rfl rfl ?_
            refine l_gfi rfl rfl rfl rfl rfl ?_
            have w300 : (Xi U30 895 4) = (Xi S 895 4) := (show Xi U30 895 4 = Xi U29 895 4 from by rw [eU30]; exact Xi_ne (by omega)).trans ( (show Xi U29 895 4 = Xi U28 895 4 from by rw [eU29]; exact Xi_ne (by omega)).trans ((show Xi U28 895 4 = Xi S 895 4 from by rw [eU28]; exact Xi_ne (by omega))))
            rw [w300]
            refine l_iconst rfl ?_
            refine l_icmp_eq rfl rfl (by unfold rg; omega) (by unfold rg; omega) (fun w301 => ?_) (fun w302 => ?_)
            · refine l_iconst rfl ?_
              refine l_pfi rfl rfl rfl rfl ?_
              obtain ⟨U49, eU49⟩ : ∃ T : sS, T = uI U30 895 5 (Int32.ofInt (-1)) := ⟨_, rfl⟩
              rw [← eU49]
              have hHU49 : HI U49 := by rw [eU49]; exact HI_w hHU30 (show -2 ≤ (-1) by omega) (show (-1) ≤ 23 by omega)
              have hFU49 : FR md_me_readThing__2 S U49 := by rw [eU49]; exact FR.wI hFU30 (mdf_i (r := (895, 896, 5, 6)) (List.mem_of_getElem? (i := 0) rfl) (inR_i (by omega) (by omega) (by omega) (by omega)))
              have w303 : Xi U49 895 5 = (-1) := by rw [eU49]; exact Xi_same (by unfold rg; omega)
              refine l_aload_n rfl rfl ?_
              refine l_aload_n rfl rfl ?_
              refine l_gfi rfl rfl rfl rfl rfl ?_
              refine l_bipush rfl rfl ?_
              refine l_icmp_ne rfl rfl (by unfold rg; omega) (by unfold rg; omega) (fun w304 => ?_) (fun w305 => ?_)
              · refine l_iconst rfl ?_
                refine l_pfi rfl rfl rfl rfl ?_
                obtain ⟨U50, eU50⟩ : ∃ T : sS, T = uI U49 895 6 (Int32.ofInt (-1)) := ⟨_, rfl⟩
                rw [← eU50]
                have hHU50 : HI U50 := by rw [eU50]; exact HI_w hHU49 (show -1 ≤ (-1) by omega) (show (-1) ≤ 15 by omega)
                have hFU50 : FR md_me_readThing__2 S U50 := by rw [eU50]; exact FR.wI hFU49 (mdf_i (r := (895, 896, 6, 7)) (List.mem_of_getElem? (i := 1) rfl) (inR_i (by omega) (by omega) (by omega) (by omega)))
                have w306 : Xi U50 895 6 = (-1) := by rw [eU50]; exact Xi_same (by unfold rg; omega)
                refine l_iload rfl rfl ?_
                refine l_ireturn rfl rfl ?_
                have w307 : Xi U50 895 5 = Xi U49 895 5 := (show Xi U50 895 5 = Xi U49 895 5 from by rw [eU50]; exact Xi_ne (by omega))
                have w308 : -2 ≤ Xi U49 895 5 ∧ Xi U49 895 5 ≤ 23 := hHU49.c _ _
                have w309 : -1 ≤ Xi U50 895 6 ∧ Xi U50 895 6 ≤ 15 := hHU50.c _ _
                exact ⟨hHU50, hFU50, _, rfl, ⟨by omega, by omega⟩, (by first | assumption | omega), (by first | assumption | omega), (by first | assumption | omega), (by first | assumption | omega), (by omega)⟩
              · refine l_aload_n rfl rfl ?_
                refine l_gfi rfl rfl rfl rfl rfl ?_
                have w310 : (Xi U49 895 4) = (Xi S 895 4) := (show Xi U49 895 4 = Xi U30 895 4 from by rw [eU49]; exact Xi_ne (by omega)).trans ( (show Xi U30 895 4 = Xi U29 895 4 from by rw [eU30]; exact Xi_ne (by omega)).trans ( (show Xi U29 895 4 = Xi U28 895 4 from by rw [eU29]; exact Xi_ne (by omega)).trans ((show Xi U28 895 4 = Xi S 895 4 from by rw [eU28]; exact Xi_ne (by omega)))))
                rw [w310]
                refine l_goto rfl rfl ?_
                refine l_pfi rfl rfl rfl rfl ?_
                obtain ⟨U51, eU51⟩ : ∃ T : sS, T = uI U49 895 6 (Int32.ofInt (Xi S 895 4)) := ⟨_, rfl⟩
                rw [← eU51]
                have hHU51 : HI U51 := by rw [eU51]; exact HI_w hHU49 (show -1 ≤ (Xi S 895 4) by omega) (show (Xi S 895 4) ≤ 15 by omega)
                have hFU51 : FR md_me_readThing__2 S U51 := by rw [eU51]; exact FR.wI hFU49 (mdf_i (r := (895, 896, 6, 7)) (List.mem_of_getElem? (i := 1) rfl) (inR_i (by omega) (by omega) (by omega) (by omega)))
                have w311 : Xi U51 895 6 = (Xi S 895 4) := by rw [eU51]; exact Xi_same (by unfold rg; omega)
                refine l_iload rfl rfl ?_
                refine l_ireturn rfl rfl ?_
                have w312 : Xi U51 895 5 = Xi U49 895 5 := (show Xi U51 895 5 = Xi U49 895 5 from by rw [eU51]; exact Xi_ne (by omega))
                have w313 : -2 ≤ Xi U49 895 5 ∧ Xi U49 895 5 ≤ 23 := hHU49.c _ _
                have w314 : -1 ≤ Xi U51 895 6 ∧ Xi U51 895 6 ≤ 15 := hHU51.c _ _
                exact ⟨hHU51, hFU51, _, rfl, ⟨by omega, by omega⟩, (by first | assumption | omega), (by first | assumption | omega), (by first | assumption | omega), (by first | assumption | omega), (by omega)⟩
            · refine l_bipush rfl rfl ?_
              refine l_goto rfl rfl ?_
              refine l_pfi rfl rfl rfl rfl ?_
              obtain ⟨U52, eU52⟩ : ∃ T : sS, T = uI U30 895 5 (Int32.ofInt (-2)) := ⟨_, rfl⟩
              rw [← eU52]
              have hHU52 : HI U52 := by rw [eU52]; exact HI_w hHU30 (show -2 ≤ (-2) by omega) (show (-2) ≤ 23 by omega)
              have hFU52 : FR md_me_readThing__2 S U52 := by rw [eU52]; exact FR.wI hFU30 (mdf_i (r := (895, 896, 5, 6)) (List.mem_of_getElem? (i := 0) rfl) (inR_i (by omega) (by omega) (by omega) (by omega)))
              have w315 : Xi U52 895 5 = (-2) := by rw [eU52]; exact Xi_same (by unfold rg; omega)
              refine l_aload_n rfl rfl ?_
              refine l_aload_n rfl rfl ?_
              refine l_gfi rfl rfl rfl rfl rfl ?_
              refine l_bipush rfl rfl ?_
              refine l_icmp_ne rfl rfl (by unfold rg; omega) (by unfold rg; omega) (fun w316 => ?_) (fun w317 => ?_)
              · refine l_iconst rfl ?_
                refine l_pfi rfl rfl rfl rfl ?_
                obtain ⟨U53, eU53⟩ : ∃ T : sS, T = uI U52 895 6 (Int32.ofInt (-1)) := ⟨_, rfl⟩
                rw [← eU53]
                have hHU53 : HI U53 := by rw [eU53]; exact HI_w hHU52 (show -1 ≤ (-1) by omega) (show (-1) ≤ 15 by omega)
                have hFU53 : FR md_me_readThing__2 S U53 := by rw [eU53]; exact FR.wI hFU52 (mdf_i (r := (895, 896, 6, 7)) (List.mem_of_getElem? (i := 1) rfl) (inR_i (by omega) (by omega) (by omega) (by omega)))
                have w318 : Xi U53 895 6 = (-1) := by rw [eU53]; exact Xi_same (by unfold rg; omega)
                refine l_iload rfl rfl ?_
                refine l_ireturn rfl rfl ?_
                have w319 : Xi U53 895 5 = Xi U52 895 5 := (show Xi U53 895 5 = Xi U52 895 5 from by rw [eU53]; exact Xi_ne (by omega))
                have w320 : -2 ≤ Xi U52 895 5 ∧ Xi U52 895 5 ≤ 23 := hHU52.c _ _
                have w321 : -1 ≤ Xi U53 895 6 ∧ Xi U53 895 6 ≤ 15 := hHU53.c _ _
                exact ⟨hHU53, hFU53, _, rfl, ⟨by omega, by omega⟩, (by first | assumption | omega), (by first | assumption | omega), (by first | assumption | omega), (by first | assumption | omega), (by omega)⟩
              · refine l_aload_n rfl rfl ?_
                refine l_gfi rfl rfl rfl rfl rfl ?_
                have w322 : (Xi U52 895 4) = (Xi S 895 4) := (show Xi U52 895 4 = Xi U30 895 4 from by rw [eU52]; exact Xi_ne (by omega)).trans ( (show Xi U30 895 4 = Xi U29 895 4 from by rw [eU30]; exact Xi_ne (by omega)).trans ( (show Xi U29 895 4 = Xi U28 895 4 from by rw [eU29]; exact Xi_ne (by omega)).trans ((show Xi U28 895 4 = Xi S 895 4 from by rw [eU28]; exact Xi_ne (by omega)))))
                rw [w322]
                refine l_goto rfl rfl ?_
                refine l_pfi rfl rfl rfl rfl ?_
                obtain ⟨U54, eU54⟩ : ∃ T : sS, T = uI U52 895 6 (Int32.ofInt (Xi S 895 4)) := ⟨_, rfl⟩
                rw [← eU54]
                have hHU54 : HI U54 := by rw [eU54]; exact HI_w hHU52 (show -1 ≤ (Xi S 895 4) by omega) (show (Xi S 895 4) ≤ 15 by omega)
                have hFU54 : FR md_me_readThing__2 S U54 := by rw [eU54]; exact FR.wI hFU52 (mdf_i (r := (895, 896, 6, 7)) (List.mem_of_getElem? (i := 1) rfl) (inR_i (by omega) (by omega) (by omega) (by omega)))
                have w323 : Xi U54 895 6 = (Xi S 895 4) := by rw [eU54]; exact Xi_same (by unfold rg; omega)
                refine l_iload rfl rfl ?_
                refine l_ireturn rfl rfl ?_
                have w324 : Xi U54 895 5 = Xi U52 895 5 := (show Xi U54 895 5 = Xi U52 895 5 from by rw [eU54]; exact Xi_ne (by omega))
                have w325 : -2 ≤ Xi U52 895 5 ∧ Xi U52 895 5 ≤ 23 := hHU52.c _ _
                have w326 : -1 ≤ Xi U54 895 6 ∧ Xi U54 895 6 ≤ 15 := hHU54.c _ _
                exact ⟨hHU54, hFU54, _, rfl, ⟨by omega, by omega⟩, (by first | assumption | omega), (by first | assumption | omega), (by first | assumption | omega), (by first | assumption | omega), (by omega)⟩
    · refine l_bipush rfl rfl ?_
      refine l_istore_n rfl rfl rfl ?_
      refine l_iload_n rfl rfl ?_
      refine l_iconst rfl ?_
      refine l_iadd rfl ?_
      refine l_istore rfl rfl rfl ?_
      refine l_aload_n rfl rfl ?_
      refine l_iload_n rfl rfl ?_
      refine l_pfi rfl rfl rfl rfl ?_
      obtain ⟨U55, eU55⟩ : ∃ T : sS, T = uI S 895 7 (Int32.ofInt from_) := ⟨_, rfl⟩
      rw [← eU55]
      have hHU55 : HI U55 := by rw [eU55]; exact HI_any hH (rfl)
      have hFU55 : FR md_me_readThing__2 S U55 := by rw [eU55]; exact FR.wI hF (mdf_i (r := (895, 896, 7, 8)) (List.mem_of_getElem? (i := 2) rfl) (inR_i (by omega) (by omega) (by omega) (by omega)))
      have w327 : Xi U55 895 7 = from_ := by rw [eU55]; exact Xi_same (by unfold rg; omega)
      refine l_aload_n rfl rfl ?_
      refine l_iconst rfl ?_
      refine l_pfi rfl rfl rfl rfl ?_
      obtain ⟨U56, eU56⟩ : ∃ T : sS, T = uI U55 895 5 (Int32.ofInt (-1)) := ⟨_, rfl⟩
      rw [← eU56]
      have hHU56 : HI U56 := by rw [eU56]; exact HI_w hHU55 (show -2 ≤ (-1) by omega) (show (-1) ≤ 23 by omega)
      have hFU56 : FR md_me_readThing__2 S U56 := by rw [eU56]; exact FR.wI hFU55 (mdf_i (r := (895, 896, 5, 6)) (List.mem_of_getElem? (i := 0) rfl) (inR_i (by omega) (by omega) (by omega) (by omega)))
      have w328 : Xi U56 895 5 = (-1) := by rw [eU56]; exact Xi_same (by unfold rg; omega)
      refine l_aload_n rfl rfl ?_
      refine l_iconst rfl ?_
      refine l_pfi rfl rfl rfl rfl ?_
      obtain ⟨U57, eU57⟩ : ∃ T : sS, T = uI U56 895 6 (Int32.ofInt (-1)) := ⟨_, rfl⟩
      rw [← eU57]
      have hHU57 : HI U57 := by rw [eU57]; exact HI_w hHU56 (show -1 ≤ (-1) by omega) (show (-1) ≤ 15 by omega)
      have hFU57 : FR md_me_readThing__2 S U57 := by rw [eU57]; exact FR.wI hFU56 (mdf_i (r := (895, 896, 6, 7)) (List.mem_of_getElem? (i := 1) rfl) (inR_i (by omega) (by omega) (by omega) (by omega)))
      have w329 : Xi U57 895 6 = (-1) := by rw [eU57]; exact Xi_same (by unfold rg; omega)
      refine l_iload_n rfl rfl ?_
      refine l_bipush rfl rfl ?_
      refine l_icmp_eq rfl rfl (by unfold rg; omega) (by unfold rg; omega) (fun w330 => absurd w330 (by omega)) (fun w331 => ?_)
      · refine l_iload_n rfl rfl ?_
        refine l_bipush rfl rfl ?_
        refine l_icmp_ne rfl rfl (by unfold rg; omega) (by unfold rg; omega) (fun w332 => absurd w332 (by omega)) (fun w333 => ?_)
        · refine l_aload_n rfl rfl ?_
          refine l_iload_n rfl rfl ?_
          refine l_aload_n rfl rfl ?_
          refine l_gfi rfl rfl rfl rfl rfl ?_
          have w334 : -2147483648 ≤ (Xi U57 895 3) ∧ (Xi U57 895 3) ≤ 2147483647 := Xi_rgI
          refine l_icmp_ne rfl rfl (by unfold rg; omega) (by unfold rg; omega) (fun w335 => ?_) (fun w336 => ?_)
          · refine l_iconst rfl ?_
            refine l_pfi rfl rfl rfl rfl ?_
            obtain ⟨U58, eU58⟩ : ∃ T : sS, T = uI U57 895 5 (Int32.ofInt (-1)) := ⟨_, rfl⟩
            rw [← eU58]
            have hHU58 : HI U58 := by rw [eU58]; exact HI_w hHU57 (show -2 ≤ (-1) by omega) (show (-1) ≤ 23 by omega)
            have hFU58 : FR md_me_readThing__2 S U58 := by rw [eU58]; exact FR.wI hFU57 (mdf_i (r := (895, 896, 5, 6)) (List.mem_of_getElem? (i := 0) rfl) (inR_i (by omega) (by omega) (by omega) (by omega)))
            have w337 : Xi U58 895 5 = (-1) := by rw [eU58]; exact Xi_same (by unfold rg; omega)
            refine l_aload_n rfl rfl ?_
            refine l_aload_n rfl rfl ?_
            refine l_gfi rfl rfl rfl rfl rfl ?_
            refine l_bipush rfl rfl ?_
            refine l_icmp_ne rfl rfl (by unfold rg; omega) (by unfold rg; omega) (fun w338 => ?_) (fun w339 => ?_)
            · refine l_iconst rfl ?_
              refine l_pfi rfl rfl rfl rfl ?_
              obtain ⟨U59, eU59⟩ : ∃ T : sS, T = uI U58 895 6 (Int32.ofInt (-1)) := ⟨_, rfl⟩
              rw [← eU59]
              have hHU59 : HI U59 := by rw [eU59]; exact HI_w hHU58 (show -1 ≤ (-1) by omega) (show (-1) ≤ 15 by omega)
              have hFU59 : FR md_me_readThing__2 S U59 := by rw [eU59]; exact FR.wI hFU58 (mdf_i (r := (895, 896, 6, 7)) (List.mem_of_getElem? (i := 1) rfl) (inR_i (by omega) (by omega) (by omega) (by omega)))
              have w340 : Xi U59 895 6 = (-1) := by rw [eU59]; exact Xi_same (by unfold rg; omega)
              refine l_iload rfl rfl ?_
              refine l_ireturn rfl rfl ?_
              have w341 : Xi U59 895 5 = Xi U58 895 5 := (show Xi U59 895 5 = Xi U58 895 5 from by rw [eU59]; exact Xi_ne (by omega))
              have w342 : -2 ≤ Xi U58 895 5 ∧ Xi U58 895 5 ≤ 23 := hHU58.c _ _
              have w343 : -1 ≤ Xi U59 895 6 ∧ Xi U59 895 6 ≤ 15 := hHU59.c _ _
              exact ⟨hHU59, hFU59, _, rfl, ⟨by omega, by omega⟩, (by first | assumption | omega), (by first | assumption | omega), (by first | assumption | omega), (by first | assumption | omega), (by omega)⟩
            · refine l_aload_n rfl rfl ?_
              refine l_gfi rfl rfl rfl rfl rfl ?_
              have w344 : (Xi U58 895 4) = (Xi S 895 4) := (show Xi U58 895 4 = Xi U57 895 4 from by rw [eU58]; exact Xi_ne (by omega)).trans ( (show Xi U57 895 4 = Xi U56 895 4 from by rw [eU57]; exact Xi_ne (by omega)).trans ( (show Xi U56 895 4 = Xi U55 895 4 from by rw [eU56]; exact Xi_ne (by omega)).trans ((show Xi U55 895 4 = Xi S 895 4 from by rw [eU55]; exact Xi_ne (by omega)))))
              rw [w344]
              refine l_goto rfl rfl ?_
              refine l_pfi rfl rfl rfl rfl ?_
              obtain ⟨U60, eU60⟩ : ∃ T : sS, T = uI U58 895 6 (Int32.ofInt (Xi S 895 4)) := ⟨_, rfl⟩
              rw [← eU60]
              have hHU60 : HI U60 := by rw [eU60]; exact HI_w hHU58 (show -1 ≤ (Xi S 895 4) by omega) (show (Xi S 895 4) ≤ 15 by omega)
              have hFU60 : FR md_me_readThing__2 S U60 := by rw [eU60]; exact FR.wI hFU58 (mdf_i (r := (895, 896, 6, 7)) (List.mem_of_getElem? (i := 1) rfl) (inR_i (by omega) (by omega) (by omega) (by omega)))
              have w345 : Xi U60 895 6 = (Xi S 895 4) := by rw [eU60]; exact Xi_same (by unfold rg; omega)
              refine l_iload rfl rfl ?_
              refine l_ireturn rfl rfl ?_
              have w346 : Xi U60 895 5 = Xi U58 895 5 := (show Xi U60 895 5 = Xi U58 895 5 from by rw [eU60]; exact Xi_ne (by omega))
              have w347 : -2 ≤ Xi U58 895 5 ∧ Xi U58 895 5 ≤ 23 := hHU58.c _ _
              have w348 : -1 ≤ Xi U60 895 6 ∧ Xi U60 895 6 ≤ 15 := hHU60.c _ _
              exact ⟨hHU60, hFU60, _, rfl, ⟨by omega, by omega⟩, (by first | assumption | omega), (by first | assumption | omega), (by first | assumption | omega), (by first | assumption | omega), (by omega)⟩
          · refine l_aload_n rfl rfl ?_
            refine l_gfi rfl rfl rfl rfl rfl ?_
            have w349 : (Xi U57 895 4) = (Xi S 895 4) := (show Xi U57 895 4 = Xi U56 895 4 from by rw [eU57]; exact Xi_ne (by omega)).trans ( (show Xi U56 895 4 = Xi U55 895 4 from by rw [eU56]; exact Xi_ne (by omega)).trans ((show Xi U55 895 4 = Xi S 895 4 from by rw [eU55]; exact Xi_ne (by omega))))
            rw [w349]
            refine l_iconst rfl ?_
            refine l_icmp_eq rfl rfl (by unfold rg; omega) (by unfold rg; omega) (fun w350 => ?_) (fun w351 => ?_)
            · refine l_iconst rfl ?_
              refine l_pfi rfl rfl rfl rfl ?_
              obtain ⟨U61, eU61⟩ : ∃ T : sS, T = uI U57 895 5 (Int32.ofInt (-1)) := ⟨_, rfl⟩
              rw [← eU61]
              have hHU61 : HI U61 := by rw [eU61]; exact HI_w hHU57 (show -2 ≤ (-1) by omega) (show (-1) ≤ 23 by omega)
              have hFU61 : FR md_me_readThing__2 S U61 := by rw [eU61]; exact FR.wI hFU57 (mdf_i (r := (895, 896, 5, 6)) (List.mem_of_getElem? (i := 0) rfl) (inR_i (by omega) (by omega) (by omega) (by omega)))
              have w352 : Xi U61 895 5 = (-1) := by rw [eU61]; exact Xi_same (by unfold rg; omega)
              refine l_aload_n rfl rfl ?_
              refine l_aload_n rfl rfl ?_
              refine l_gfi rfl rfl rfl rfl rfl ?_
              refine l_bipush rfl rfl ?_
              refine l_icmp_ne rfl rfl (by unfold rg; omega) (by unfold rg; omega) (fun w353 => ?_) (fun w354 => ?_)
              · refine l_iconst rfl ?_
                refine l_pfi rfl rfl rfl rfl ?_
                obtain ⟨U62, eU62⟩ : ∃ T : sS, T = uI U61 895 6 (Int32.ofInt (-1)) := ⟨_, rfl⟩
                rw [← eU62]
                have hHU62 : HI U62 := by rw [eU62]; exact HI_w hHU61 (show -1 ≤ (-1) by omega) (show (-1) ≤ 15 by omega)
                have hFU62 : FR md_me_readThing__2 S U62 := by rw [eU62]; exact FR.wI hFU61 (mdf_i (r := (895, 896, 6, 7)) (List.mem_of_getElem? (i := 1) rfl) (inR_i (by omega) (by omega) (by omega) (by omega)))
                have w355 : Xi U62 895 6 = (-1) := by rw [eU62]; exact Xi_same (by unfold rg; omega)
                refine l_iload rfl rfl ?_
                refine l_ireturn rfl rfl ?_
                have w356 : Xi U62 895 5 = Xi U61 895 5 := (show Xi U62 895 5 = Xi U61 895 5 from by rw [eU62]; exact Xi_ne (by omega))
                have w357 : -2 ≤ Xi U61 895 5 ∧ Xi U61 895 5 ≤ 23 := hHU61.c _ _
                have w358 : -1 ≤ Xi U62 895 6 ∧ Xi U62 895 6 ≤ 15 := hHU62.c _ _
                exact ⟨hHU62, hFU62, _, rfl, ⟨by omega, by omega⟩, (by first | assumption | omega), (by first | assumption | omega), (by first | assumption | omega), (by first | assumption | omega), (by omega)⟩
              · refine l_aload_n rfl rfl ?_
                refine l_gfi rfl rfl rfl rfl rfl ?_
                have w359 : (Xi U61 895 4) = (Xi S 895 4) := (show Xi U61 895 4 = Xi U57 895 4 from by rw [eU61]; exact Xi_ne (by omega)).trans ( (show Xi U57 895 4 = Xi U56 895 4 from by rw [eU57]; exact Xi_ne (by omega)).trans ( (show Xi U56 895 4 = Xi U55 895 4 from by rw [eU56]; exact Xi_ne (by omega)).trans ((show Xi U55 895 4 = Xi S 895 4 from by rw [eU55]; exact Xi_ne (by omega)))))
                rw [w359]
                refine l_goto rfl rfl ?_
                refine l_pfi rfl rfl rfl rfl ?_
                obtain ⟨U63, eU63⟩ : ∃ T : sS, T = uI U61 895 6 (Int32.ofInt (Xi S 895 4)) := ⟨_, rfl⟩
                rw [← eU63]
                have hHU63 : HI U63 := by rw [eU63]; exact HI_w hHU61 (show -1 ≤ (Xi S 895 4) by omega) (show (Xi S 895 4) ≤ 15 by omega)
                have hFU63 : FR md_me_readThing__2 S U63 := by rw [eU63]; exact FR.wI hFU61 (mdf_i (r := (895, 896, 6, 7)) (List.mem_of_getElem? (i := 1) rfl) (inR_i (by omega) (by omega) (by omega) (by omega)))
                have w360 : Xi U63 895 6 = (Xi S 895 4) := by rw [eU63]; exact Xi_same (by unfold rg; omega)
                refine l_iload rfl rfl ?_
                refine l_ireturn rfl rfl ?_
                have w361 : Xi U63 895 5 = Xi U61 895 5 := (show Xi U63 895 5 = Xi U61 895 5 from by rw [eU63]; exact Xi_ne (by omega))
                have w362 : -2 ≤ Xi U61 895 5 ∧ Xi U61 895 5 ≤ 23 := hHU61.c _ _
                have w363 : -1 ≤ Xi U63 895 6 ∧ Xi U63 895 6 ≤ 15 := hHU63.c _ _
                exact ⟨hHU63, hFU63, _, rfl, ⟨by omega, by omega⟩, (by first | assumption | omega), (by first | assumption | omega), (by first | assumption | omega), (by first | assumption | omega), (by omega)⟩
            · refine l_bipush rfl rfl ?_
              refine l_goto rfl rfl ?_
              refine l_pfi rfl rfl rfl rfl ?_
              obtain ⟨U64, eU64⟩ : ∃ T : sS, T = uI U57 895 5 (Int32.ofInt (-2)) := ⟨_, rfl⟩
              rw [← eU64]
              have hHU64 : HI U64 := by rw [eU64]; exact HI_w hHU57 (show -2 ≤ (-2) by omega) (show (-2) ≤ 23 by omega)
              have hFU64 : FR md_me_readThing__2 S U64 := by rw [eU64]; exact FR.wI hFU57 (mdf_i (r := (895, 896, 5, 6)) (List.mem_of_getElem? (i := 0) rfl) (inR_i (by omega) (by omega) (by omega) (by omega)))
              have w364 : Xi U64 895 5 = (-2) := by rw [eU64]; exact Xi_same (by unfold rg; omega)
              refine l_aload_n rfl rfl ?_
              refine l_aload_n rfl rfl ?_
              refine l_gfi rfl rfl rfl rfl rfl ?_
              refine l_bipush rfl rfl ?_
              refine l_icmp_ne rfl rfl (by unfold rg; omega) (by unfold rg; omega) (fun w365 => ?_) (fun w366 => ?_)
              · refine l_iconst rfl ?_
                refine l_pfi rfl rfl rfl rfl ?_
                obtain ⟨U65, eU65⟩ : ∃ T : sS, T = uI U64 895 6 (Int32.ofInt (-1)) := ⟨_, rfl⟩
                rw [← eU65]
                have hHU65 : HI U65 := by rw [eU65]; exact HI_w hHU64 (show -1 ≤ (-1) by omega) (show (-1) ≤ 15 by omega)
                have hFU65 : FR md_me_readThing__2 S U65 := by rw [eU65]; exact FR.wI hFU64 (mdf_i (r := (895, 896, 6, 7)) (List.mem_of_getElem? (i := 1) rfl) (inR_i (by omega) (by omega) (by omega) (by omega)))
                have w367 : Xi U65 895 6 = (-1) := by rw [eU65]; exact Xi_same (by unfold rg; omega)
                refine l_iload rfl rfl ?_
                refine l_ireturn rfl rfl ?_
                have w368 : Xi U65 895 5 = Xi U64 895 5 := (show Xi U65 895 5 = Xi U64 895 5 from by rw [eU65]; exact Xi_ne (by omega))
                have w369 : -2 ≤ Xi U64 895 5 ∧ Xi U64 895 5 ≤ 23 := hHU64.c _ _
                have w370 : -1 ≤ Xi U65 895 6 ∧ Xi U65 895 6 ≤ 15 := hHU65.c _ _
                exact ⟨hHU65, hFU65, _, rfl, ⟨by omega, by omega⟩, (by first | assumption | omega), (by first | assumption | omega), (by first | assumption | omega), (by first | assumption | omega), (by omega)⟩
              · refine l_aload_n rfl rfl ?_
                refine l_gfi rfl rfl rfl rfl rfl ?_
                have w371 : (Xi U64 895 4) = (Xi S 895 4) := (show Xi U64 895 4 = Xi U57 895 4 from by rw [eU64]; exact Xi_ne (by omega)).trans ( (show Xi U57 895 4 = Xi U56 895 4 from by rw [eU57]; exact Xi_ne (by omega)).trans ( (show Xi U56 895 4 = Xi U55 895 4 from by rw [eU56]; exact Xi_ne (by omega)).trans ((show Xi U55 895 4 = Xi S 895 4 from by rw [eU55]; exact Xi_ne (by omega)))))
                rw [w371]
                refine l_goto rfl rfl ?_
                refine l_pfi rfl rfl rfl rfl ?_
                obtain ⟨U66, eU66⟩ : ∃ T : sS, T = uI U64 895 6 (Int32.ofInt (Xi S 895 4)) := ⟨_, rfl⟩
                rw [← eU66]
                have hHU66 : HI U66 := by rw [eU66]; exact HI_w hHU64 (show -1 ≤ (Xi S 895 4) by omega) (show (Xi S 895 4) ≤ 15 by omega)
                have hFU66 : FR md_me_readThing__2 S U66 := by rw [eU66]; exact FR.wI hFU64 (mdf_i (r := (895, 896, 6, 7)) (List.mem_of_getElem? (i := 1) rfl) (inR_i (by omega) (by omega) (by omega) (by omega)))
                have w372 : Xi U66 895 6 = (Xi S 895 4) := by rw [eU66]; exact Xi_same (by unfold rg; omega)
                refine l_iload rfl rfl ?_
                refine l_ireturn rfl rfl ?_
                have w373 : Xi U66 895 5 = Xi U64 895 5 := (show Xi U66 895 5 = Xi U64 895 5 from by rw [eU66]; exact Xi_ne (by omega))
                have w374 : -2 ≤ Xi U64 895 5 ∧ Xi U64 895 5 ≤ 23 := hHU64.c _ _
                have w375 : -1 ≤ Xi U66 895 6 ∧ Xi U66 895 6 ≤ 15 := hHU66.c _ _
                exact ⟨hHU66, hFU66, _, rfl, ⟨by omega, by omega⟩, (by first | assumption | omega), (by first | assumption | omega), (by first | assumption | omega), (by first | assumption | omega), (by omega)⟩
def md_rr_movePhrase : List rec := [(276, 876, 0, 1), (276, 876, 2, 3), (276, 876, 6, 7), (876, 877, 8, 9), (876, 877, 9, 10), (895, 896, 5, 6), (895, 896, 6, 7), (895, 896, 7, 8)]
abbrev Q_rr_movePhrase (S : sS) (from_ : Int) (to : Int) (cl : Nat) : pst := fun r S1 => HI S1 ∧ FR md_rr_movePhrase S S1 ∧ (∃ z : Int, r = some (iv z) ∧ (0 ≤ z ∧ z ≤ 1) ∧ (KCL S S1 cl) ∧ (z = 1 → CLok S1 (0 ≤ Xi S 895 4) cl) ∧ (z = 0 → Xi S1 876 8 ≠ 0))
set_option maxRecDepth 100000 in
theorem t_rr_movePhrase {S : sS} (hH : HI S) (from_ : Int) (to : Int) (cl : Nat) (hfrom_ : 0 ≤ from_ ∧ from_ ≤ 5130) (hto : 0 ≤ to ∧ to ≤ 5130) (hcl : cl < 600) (hL : LEX S) (d : Nat) : Mt lay0 (d + 3) m_rr_movePhrase [.ref 899, iv from_, iv to, .ref (276 + cl)] S (Q_rr_movePhrase S from_ to cl) := by
  refine Mt_R rfl rfl ?_
  have hF : FR md_rr_movePhrase S S := FR.rf
  have w1 : -1 ≤ Xi S 895 4 ∧ Xi S 895 4 ≤ 15 := hH.c _ _
  refine l_aload_n rfl rfl ?_
  refine l_bipush rfl rfl ?_
  refine l_pfi rfl rfl (layClW (by omega) rfl) rfl ?_
  obtain ⟨U1, eU1⟩ : ∃ T : sS, T = uI S (276 + cl) 0 (Int32.ofInt 8) := ⟨_, rfl⟩
  rw [← eU1]
  have hHU1 : HI U1 := by rw [eU1]; exact HI_w hH (by rw [lh_cl0 (by omega)]; omega) (by rw [lh_cl0 (by omega)]; omega)
  have hFU1 : FR md_rr_movePhrase S U1 := by rw [eU1]; exact FR.wI hF (mdf_i (r := (276, 876, 0, 1)) (List.mem_of_getElem? (i := 0) rfl) (inR_i (by omega) (by omega) (by omega) (by omega)))
  have w2 : Xi U1 (276 + cl) 0 = 8 := by rw [eU1]; exact Xi_same (by unfold rg; omega)
  refine l_aload_n rfl rfl ?_
  refine l_gfr rfl rfl rfl rfl rfl (hHU1.r 899 2 895 rfl) ?_
  refine l_iload_n rfl rfl ?_
  refine l_iload_n rfl rfl ?_
  have w3 : Xi U1 (276 + cl) 2 = Xi S (276 + cl) 2 := (show Xi U1 (276 + cl) 2 = Xi S (276 + cl) 2 from by rw [eU1]; exact Xi_ne (by omega))
  have w4 : Xi U1 (276 + cl) 6 = Xi S (276 + cl) 6 := (show Xi U1 (276 + cl) 6 = Xi S (276 + cl) 6 from by rw [eU1]; exact Xi_ne (by omega))
  have w5 : Xi U1 876 7 = Xi S 876 7 := (show Xi U1 876 7 = Xi S 876 7 from by rw [eU1]; exact Xi_ne (by omega))
  have w6 : 0 ≤ Xi S 876 7 ∧ Xi S 876 7 ≤ 5125 := hH.c _ _
  have w7 : Xi U1 895 4 = Xi S 895 4 := (show Xi U1 895 4 = Xi S 895 4 from by rw [eU1]; exact Xi_ne (by omega))
  refine l_callV rfl rfl rfl (t_me_readThing__2 hHU1 from_ to ⟨by omega, by omega⟩ ⟨by omega, by omega⟩ (by first | assumption | exact (LEX_FR hFU1 rfl rfl (by assumption : LEX S))) _) ?_
  rintro _ T2 ⟨hHT2, w15, z14, rfl, w14, w9, w10, w11, w12, w13⟩
  have hFT2 : FR md_rr_movePhrase S T2 := FR.tr hFU1 w15 rfl
  show Rl _ _ _ _ _ [iv z14] _ _
  have wo12 : Xi T2 895 5 ≠ -1 → WHO (0 ≤ Xi S 895 4) (Xi T2 895 5) := fun q => who_of q (hHT2.c 895 5).1 (fun e => by have t := (by assumption : Xi T2 895 5 = -2 → 0 ≤ Xi U1 895 4) e; omega)
  refine l_istore rfl rfl rfl ?_
  refine l_aload_n rfl rfl ?_
  refine l_gfr rfl rfl rfl rfl rfl (hHT2.r 899 1 1 rfl) ?_
  refine l_aload_n rfl rfl ?_
  refine l_gfr rfl rfl rfl rfl rfl (hHT2.r 899 2 895 rfl) ?_
  refine l_gfi rfl rfl rfl rfl rfl ?_
  have w16 : -1 ≤ (Xi T2 895 6) ∧ (Xi T2 895 6) ≤ 15 := hHT2.c _ _
  refine l_iconst rfl ?_
  have w17 : Xi T2 (276 + cl) 0 = Xi U1 (276 + cl) 0 := (show Xi T2 (276 + cl) 0 = Xi U1 (276 + cl) 0 from FR_cl w15 rfl (by omega))
  have w18 : Xi T2 (276 + cl) 2 = Xi S (276 + cl) 2 := (show Xi T2 (276 + cl) 2 = Xi U1 (276 + cl) 2 from FR_cl w15 rfl (by omega)).trans ((show Xi U1 (276 + cl) 2 = Xi S (276 + cl) 2 from by rw [eU1]; exact Xi_ne (by omega)))
  have w19 : Xi T2 (276 + cl) 6 = Xi S (276 + cl) 6 := (show Xi T2 (276 + cl) 6 = Xi U1 (276 + cl) 6 from FR_cl w15 rfl (by omega)).trans ((show Xi U1 (276 + cl) 6 = Xi S (276 + cl) 6 from by rw [eU1]; exact Xi_ne (by omega)))
  refine l_callV rfl rfl rfl (t_vo_isKind hHT2 (Xi T2 895 6) 0 ⟨by omega, by omega⟩ ⟨by omega, by omega⟩ _) ?_
  rintro _ _ ⟨rfl, z23, rfl, w23, w22⟩
  show Rl _ _ _ _ _ [iv z23] _ _
  have i29 : z23 ≠ 0 → 0 ≤ Xi T2 895 6 := fun q => isK_v (k := Xi T2 895 6) (by assumption) q
  refine l_if_ne rfl rfl (by unfold rg; omega) (fun w24 => ?_) (fun w25 => ?_)
  · refine l_aload_n rfl rfl ?_
    refine l_aload_n rfl rfl ?_
    refine l_gfr rfl rfl rfl rfl rfl (hHT2.r 899 2 895 rfl) ?_
    refine l_gfi rfl rfl rfl rfl rfl ?_
    have w26 : -2 ≤ (Xi T2 895 5) ∧ (Xi T2 895 5) ≤ 23 := hHT2.c _ _
    refine l_pfi rfl rfl (layClW (by omega) rfl) rfl ?_
    obtain ⟨U3, eU3⟩ : ∃ T : sS, T = uI T2 (276 + cl) 2 (Int32.ofInt (Xi T2 895 5)) := ⟨_, rfl⟩
    rw [← eU3]
    have hHU3 : HI U3 := by rw [eU3]; exact HI_w hHT2 (by rw [lh_cl2 (by omega)]; omega) (by rw [lh_cl2 (by omega)]; omega)
    have hFU3 : FR md_rr_movePhrase S U3 := by rw [eU3]; exact FR.wI hFT2 (mdf_i (r := (276, 876, 2, 3)) (List.mem_of_getElem? (i := 1) rfl) (inR_i (by omega) (by omega) (by omega) (by omega)))
    have w27 : Xi U3 (276 + cl) 2 = (Xi T2 895 5) := by rw [eU3]; exact Xi_same (by unfold rg; omega)
    refine l_aload_n rfl rfl ?_
    refine l_gfr rfl rfl rfl rfl rfl (hHU3.r 899 2 895 rfl) ?_
    refine l_iload rfl rfl ?_
    refine l_iconst rfl ?_
    refine l_iadd rfl ?_
    refine l_iload_n rfl rfl ?_
    have w28 : Xi U3 (276 + cl) 0 = Xi U1 (276 + cl) 0 := (show Xi U3 (276 + cl) 0 = Xi T2 (276 + cl) 0 from by rw [eU3]; exact Xi_ne (by omega)).trans ((show Xi T2 (276 + cl) 0 = Xi U1 (276 + cl) 0 from FR_cl w15 rfl (by omega)))
    have w29 : Xi U3 (276 + cl) 6 = Xi S (276 + cl) 6 := (show Xi U3 (276 + cl) 6 = Xi T2 (276 + cl) 6 from by rw [eU3]; exact Xi_ne (by omega)).trans ( (show Xi T2 (276 + cl) 6 = Xi U1 (276 + cl) 6 from FR_cl w15 rfl (by omega)).trans ((show Xi U1 (276 + cl) 6 = Xi S (276 + cl) 6 from by rw [eU1]; exact Xi_ne (by omega))))
    have w30 : Xi U3 895 4 = Xi S 895 4 := (show Xi U3 895 4 = Xi T2 895 4 from by rw [eU3]; exact Xi_ne (by omega)).trans ( (show Xi T2 895 4 = Xi U1 895 4 from w15.x _ _ rfl).trans ((show Xi U1 895 4 = Xi S 895 4 from by rw [eU1]; exact Xi_ne (by omega))))
    refine l_callV rfl rfl rfl (t_me_readThing hHU3 (z14 + 1) to ⟨by omega, by omega⟩ ⟨by omega, by omega⟩ (by first | assumption | exact (LEX_FR hFU3 rfl rfl (by assumption : LEX S))) _) ?_
    rintro _ T4 ⟨hHT4, w37, z36, rfl, w36, w32, w33, w34, w35⟩
    have hFT4 : FR md_rr_movePhrase S T4 := FR.tr hFU3 w37 rfl
    show Rl _ _ _ _ _ [iv z36] _ _
    have wo71 : Xi T4 895 5 ≠ -1 → WHO (0 ≤ Xi S 895 4) (Xi T4 895 5) := fun q => who_of q (hHT4.c 895 5).1 (fun e => by have t := (by assumption : Xi T4 895 5 = -2 → 0 ≤ Xi U3 895 4) e; omega)
    refine l_pop rfl rfl ?_
    refine l_aload_n rfl rfl ?_
    refine l_aload_n rfl rfl ?_
    refine l_gfr rfl rfl rfl rfl rfl (hHT4.r 899 2 895 rfl) ?_
    refine l_gfi rfl rfl rfl rfl rfl ?_
    have w38 : -2 ≤ (Xi T4 895 5) ∧ (Xi T4 895 5) ≤ 23 := hHT4.c _ _
    refine l_pfi rfl rfl (layClW (by omega) rfl) rfl ?_
    obtain ⟨U5, eU5⟩ : ∃ T : sS, T = uI T4 (276 + cl) 6 (Int32.ofInt (Xi T4 895 5)) := ⟨_, rfl⟩
    rw [← eU5]
    have hHU5 : HI U5 := by rw [eU5]; exact HI_w hHT4 (by rw [lh_cl6 (by omega)]; omega) (by rw [lh_cl6 (by omega)]; omega)
    have hFU5 : FR md_rr_movePhrase S U5 := by rw [eU5]; exact FR.wI hFT4 (mdf_i (r := (276, 876, 6, 7)) (List.mem_of_getElem? (i := 2) rfl) (inR_i (by omega) (by omega) (by omega) (by omega)))
    have w39 : Xi U5 (276 + cl) 6 = (Xi T4 895 5) := by rw [eU5]; exact Xi_same (by unfold rg; omega)
    have y83 : Xi U5 895 5 = Xi T4 895 5 := by rw [eU5, Xi_ne (by omega)]
    refine l_aload_n rfl rfl ?_
    refine l_gfr rfl rfl rfl rfl rfl (hHU5.r 899 2 895 rfl) ?_
    refine l_gfi rfl rfl rfl rfl rfl ?_
    have w40 : (Xi U5 895 5) = (Xi T4 895 5) := (show Xi U5 895 5 = Xi T4 895 5 from by rw [eU5]; exact Xi_ne (by omega))
    rw [w40]
    refine l_iconst rfl ?_
    refine l_icmp_ne rfl rfl (by unfold rg; omega) (by unfold rg; omega) (fun w41 => ?_) (fun w42 => ?_)
    · refine l_iconst rfl ?_
      refine l_goto rfl rfl ?_
      refine l_ireturn rfl rfl ?_
      have w43 : Xi U5 (276 + cl) 0 = Xi U1 (276 + cl) 0 := (show Xi U5 (276 + cl) 0 = Xi T4 (276 + cl) 0 from by rw [eU5]; exact Xi_ne (by omega)).trans ( (show Xi T4 (276 + cl) 0 = Xi U3 (276 + cl) 0 from FR_cl w37 rfl (by omega)).trans ( (show Xi U3 (276 + cl) 0 = Xi T2 (276 + cl) 0 from by rw [eU3]; exact Xi_ne (by omega)).trans ((show Xi T2 (276 + cl) 0 = Xi U1 (276 + cl) 0 from FR_cl w15 rfl (by omega)))))
      have w44 : Xi U5 (276 + cl) 2 = Xi U3 (276 + cl) 2 := (show Xi U5 (276 + cl) 2 = Xi T4 (276 + cl) 2 from by rw [eU5]; exact Xi_ne (by omega)).trans ((show Xi T4 (276 + cl) 2 = Xi U3 (276 + cl) 2 from FR_cl w37 rfl (by omega)))
      have w45 : Xi U5 876 8 = Xi S 876 8 := (show Xi U5 876 8 = Xi T4 876 8 from by rw [eU5]; exact Xi_ne (by omega)).trans ( (show Xi T4 876 8 = Xi U3 876 8 from w37.x _ _ rfl).trans ( (show Xi U3 876 8 = Xi T2 876 8 from by rw [eU3]; exact Xi_ne (by omega)).trans ( (show Xi T2 876 8 = Xi U1 876 8 from w15.x _ _ rfl).trans ((show Xi U1 876 8 = Xi S 876 8 from by rw [eU1]; exact Xi_ne (by omega))))))
      have w46 : 0 ≤ Xi S 876 8 ∧ Xi S 876 8 ≤ 9 := hH.c _ _
      have w47 : Xi U5 895 4 = Xi S 895 4 := (show Xi U5 895 4 = Xi T4 895 4 from by rw [eU5]; exact Xi_ne (by omega)).trans ( (show Xi T4 895 4 = Xi U3 895 4 from w37.x _ _ rfl).trans ( (show Xi U3 895 4 = Xi T2 895 4 from by rw [eU3]; exact Xi_ne (by omega)).trans ( (show Xi T2 895 4 = Xi U1 895 4 from w15.x _ _ rfl).trans ((show Xi U1 895 4 = Xi S 895 4 from by rw [eU1]; exact Xi_ne (by omega))))))
      exact ⟨hHU5, hFU5, _, rfl, ⟨by omega, by omega⟩, ((kcl_w eU5 (kcl_f w37 rfl (kcl_w eU3 (kcl_f w15 rfl (kcl_w eU1 KCL.rf)))))), (fun q => by first | (exfalso; omega) | exact cl_8 (by omega) (x := Xi _ 895 5) (by omega) (wo12 (by omega)) (y := Xi _ 895 5) (by omega) (wo71 (by omega))), (fun q => by first | omega | (exfalso; omega))⟩
    · refine l_aload_n rfl rfl ?_
      refine l_gfr rfl rfl rfl rfl rfl (hHU5.r 899 0 876 rfl) ?_
      refine l_iconst rfl ?_
      refine l_aload_n rfl rfl ?_
      refine l_gfr rfl rfl rfl rfl rfl (hHU5.r 899 2 895 rfl) ?_
      refine l_gfi rfl rfl rfl rfl rfl ?_
      have w49 : -2147483648 ≤ (Xi U5 895 7) ∧ (Xi U5 895 7) ≤ 2147483647 := Xi_rgI
      have w50 : Xi U5 (276 + cl) 0 = Xi U1 (276 + cl) 0 := (show Xi U5 (276 + cl) 0 = Xi T4 (276 + cl) 0 from by rw [eU5]; exact Xi_ne (by omega)).trans ( (show Xi T4 (276 + cl) 0 = Xi U3 (276 + cl) 0 from FR_cl w37 rfl (by omega)).trans ( (show Xi U3 (276 + cl) 0 = Xi T2 (276 + cl) 0 from by rw [eU3]; exact Xi_ne (by omega)).trans ((show Xi T2 (276 + cl) 0 = Xi U1 (276 + cl) 0 from FR_cl w15 rfl (by omega)))))
      have w51 : Xi U5 (276 + cl) 2 = Xi U3 (276 + cl) 2 := (show Xi U5 (276 + cl) 2 = Xi T4 (276 + cl) 2 from by rw [eU5]; exact Xi_ne (by omega)).trans ((show Xi T4 (276 + cl) 2 = Xi U3 (276 + cl) 2 from FR_cl w37 rfl (by omega)))
      refine l_callV rfl rfl rfl (t_to_wrong hHU5 4 (Xi U5 895 7) ⟨by omega, by omega⟩ ⟨by omega, by omega⟩ _) ?_
      rintro _ T6 ⟨hHT6, w57, z56, rfl, w56, w54, w55⟩
      have hFT6 : FR md_rr_movePhrase S T6 := FR.tr hFU5 w57 rfl
      show Rl _ _ _ _ _ [iv z56] _ _
      refine l_if_eq rfl rfl (by unfold rg; omega) (fun w58 => ?_) (fun w59 => ?_)
      · refine l_iconst rfl ?_
        refine l_ireturn rfl rfl ?_
        have w60 : Xi T6 (276 + cl) 0 = Xi U1 (276 + cl) 0 := (show Xi T6 (276 + cl) 0 = Xi U5 (276 + cl) 0 from FR_cl w57 rfl (by omega)).trans ( (show Xi U5 (276 + cl) 0 = Xi T4 (276 + cl) 0 from by rw [eU5]; exact Xi_ne (by omega)).trans ( (show Xi T4 (276 + cl) 0 = Xi U3 (276 + cl) 0 from FR_cl w37 rfl (by omega)).trans ( (show Xi U3 (276 + cl) 0 = Xi T2 (276 + cl) 0 from by rw [eU3]; exact Xi_ne (by omega)).trans ((show Xi T2 (276 + cl) 0 = Xi U1 (276 + cl) 0 from FR_cl w15 rfl (by omega))))))
        have w61 : Xi T6 (276 + cl) 2 = Xi U3 (276 + cl) 2 := (show Xi T6 (276 + cl) 2 = Xi U5 (276 + cl) 2 from FR_cl w57 rfl (by omega)).trans ( (show Xi U5 (276 + cl) 2 = Xi T4 (276 + cl) 2 from by rw [eU5]; exact Xi_ne (by omega)).trans ((show Xi T4 (276 + cl) 2 = Xi U3 (276 + cl) 2 from FR_cl w37 rfl (by omega))))
        have w62 : Xi T6 (276 + cl) 6 = Xi U5 (276 + cl) 6 := (show Xi T6 (276 + cl) 6 = Xi U5 (276 + cl) 6 from FR_cl w57 rfl (by omega))
        have w63 : 0 ≤ Xi T6 876 8 ∧ Xi T6 876 8 ≤ 9 := hHT6.c _ _
        have w64 : Xi T6 895 4 = Xi S 895 4 := (show Xi T6 895 4 = Xi U5 895 4 from w57.x _ _ rfl).trans ( (show Xi U5 895 4 = Xi T4 895 4 from by rw [eU5]; exact Xi_ne (by omega)).trans ( (show Xi T4 895 4 = Xi U3 895 4 from w37.x _ _ rfl).trans ( (show Xi U3 895 4 = Xi T2 895 4 from by rw [eU3]; exact Xi_ne (by omega)).trans ( (show Xi T2 895 4 = Xi U1 895 4 from w15.x _ _ rfl).trans ((show Xi U1 895 4 = Xi S 895 4 from by rw [eU1]; exact Xi_ne (by omega)))))))
        exact ⟨hHT6, hFT6, _, rfl, ⟨by omega, by omega⟩, ((kcl_f w57 rfl (kcl_w eU5 (kcl_f w37 rfl (kcl_w eU3 (kcl_f w15 rfl (kcl_w eU1 KCL.rf))))))), (fun q => by first | (exfalso; omega) | exact cl_8 (by omega) (x := Xi _ 895 5) (by omega) (wo12 (by omega)) (y := Xi _ 895 5) (by omega) (wo71 (by omega))), (fun q => by first | omega | (exfalso; omega))⟩
      · refine l_iconst rfl ?_
        refine l_goto rfl rfl ?_
        refine l_ireturn rfl rfl ?_
        have w66 : Xi T6 (276 + cl) 0 = Xi U1 (276 + cl) 0 := (show Xi T6 (276 + cl) 0 = Xi U5 (276 + cl) 0 from FR_cl w57 rfl (by omega)).trans ( (show Xi U5 (276 + cl) 0 = Xi T4 (276 + cl) 0 from by rw [eU5]; exact Xi_ne (by omega)).trans ( (show Xi T4 (276 + cl) 0 = Xi U3 (276 + cl) 0 from FR_cl w37 rfl (by omega)).trans ( (show Xi U3 (276 + cl) 0 = Xi T2 (276 + cl) 0 from by rw [eU3]; exact Xi_ne (by omega)).trans ((show Xi T2 (276 + cl) 0 = Xi U1 (276 + cl) 0 from FR_cl w15 rfl (by omega))))))
        have w67 : Xi T6 (276 + cl) 2 = Xi U3 (276 + cl) 2 := (show Xi T6 (276 + cl) 2 = Xi U5 (276 + cl) 2 from FR_cl w57 rfl (by omega)).trans ( (show Xi U5 (276 + cl) 2 = Xi T4 (276 + cl) 2 from by rw [eU5]; exact Xi_ne (by omega)).trans ((show Xi T4 (276 + cl) 2 = Xi U3 (276 + cl) 2 from FR_cl w37 rfl (by omega))))
        have w68 : Xi T6 (276 + cl) 6 = Xi U5 (276 + cl) 6 := (show Xi T6 (276 + cl) 6 = Xi U5 (276 + cl) 6 from FR_cl w57 rfl (by omega))
        have w69 : 0 ≤ Xi T6 876 8 ∧ Xi T6 876 8 ≤ 9 := hHT6.c _ _
        have w70 : Xi T6 895 4 = Xi S 895 4 := (show Xi T6 895 4 = Xi U5 895 4 from w57.x _ _ rfl).trans ( (show Xi U5 895 4 = Xi T4 895 4 from by rw [eU5]; exact Xi_ne (by omega)).trans ( (show Xi T4 895 4 = Xi U3 895 4 from w37.x _ _ rfl).trans ( (show Xi U3 895 4 = Xi T2 895 4 from by rw [eU3]; exact Xi_ne (by omega)).trans ( (show Xi T2 895 4 = Xi U1 895 4 from w15.x _ _ rfl).trans ((show Xi U1 895 4 = Xi S 895 4 from by rw [eU1]; exact Xi_ne (by omega)))))))
        exact ⟨hHT6, hFT6, _, rfl, ⟨by omega, by omega⟩, ((kcl_f w57 rfl (kcl_w eU5 (kcl_f w37 rfl (kcl_w eU3 (kcl_f w15 rfl (kcl_w eU1 KCL.rf))))))), (fun q => by first | (exfalso; omega) | exact cl_8 (by omega) (x := Xi _ 895 5) (by omega) (wo12 (by omega)) (y := Xi _ 895 5) (by omega) (wo71 (by omega))), (fun q => by first | omega | (exfalso; omega))⟩
  · refine l_aload_n rfl rfl ?_
    refine l_gfr rfl rfl rfl rfl rfl (hHT2.r 899 0 876 rfl) ?_
    refine l_iconst rfl ?_
    refine l_aload_n rfl rfl ?_
    refine l_gfr rfl rfl rfl rfl rfl (hHT2.r 899 2 895 rfl) ?_
    refine l_gfi rfl rfl rfl rfl rfl ?_
    have w72 : -2147483648 ≤ (Xi T2 895 7) ∧ (Xi T2 895 7) ≤ 2147483647 := Xi_rgI
    refine l_callV rfl rfl rfl (t_to_wrong hHT2 4 (Xi T2 895 7) ⟨by omega, by omega⟩ ⟨by omega, by omega⟩ _) ?_
    rintro _ T7 ⟨hHT7, w81, z80, rfl, w80, w78, w79⟩
    have hFT7 : FR md_rr_movePhrase S T7 := FR.tr hFT2 w81 rfl
    show Rl _ _ _ _ _ [iv z80] _ _
    refine l_ireturn rfl (retI_z (by omega)) ?_
    have w82 : Xi T7 (276 + cl) 0 = Xi U1 (276 + cl) 0 := (show Xi T7 (276 + cl) 0 = Xi T2 (276 + cl) 0 from FR_cl w81 rfl (by omega)).trans ((show Xi T2 (276 + cl) 0 = Xi U1 (276 + cl) 0 from FR_cl w15 rfl (by omega)))
    have w83 : Xi T7 (276 + cl) 2 = Xi S (276 + cl) 2 := (show Xi T7 (276 + cl) 2 = Xi T2 (276 + cl) 2 from FR_cl w81 rfl (by omega)).trans ( (show Xi T2 (276 + cl) 2 = Xi U1 (276 + cl) 2 from FR_cl w15 rfl (by omega)).trans ((show Xi U1 (276 + cl) 2 = Xi S (276 + cl) 2 from by rw [eU1]; exact Xi_ne (by omega))))
    have w84 : Xi T7 (276 + cl) 6 = Xi S (276 + cl) 6 := (show Xi T7 (276 + cl) 6 = Xi T2 (276 + cl) 6 from FR_cl w81 rfl (by omega)).trans ( (show Xi T2 (276 + cl) 6 = Xi U1 (276 + cl) 6 from FR_cl w15 rfl (by omega)).trans ((show Xi U1 (276 + cl) 6 = Xi S (276 + cl) 6 from by rw [eU1]; exact Xi_ne (by omega))))
    have w85 : 0 ≤ Xi T7 876 8 ∧ Xi T7 876 8 ≤ 9 := hHT7.c _ _
    have w86 : Xi T7 895 4 = Xi S 895 4 := (show Xi T7 895 4 = Xi T2 895 4 from w81.x _ _ rfl).trans ( (show Xi T2 895 4 = Xi U1 895 4 from w15.x _ _ rfl).trans ((show Xi U1 895 4 = Xi S 895 4 from by rw [eU1]; exact Xi_ne (by omega))))
    exact ⟨hHT7, hFT7, _, rfl, ⟨by omega, by omega⟩, ((kcl_f w81 rfl (kcl_f w15 rfl (kcl_w eU1 KCL.rf)))), (fun q => by first | (exfalso; omega) | exact cl_8 (by omega) (x := Xi _ 895 5) (by omega) (wo12 (by omega)) (y := Xi _ 895 5) (by omega) (wo71 (by omega))), (fun q => by first | omega | (exfalso; omega))⟩
def md_rr_otherPhrase : List rec := [(276, 876, 0, 1), (276, 876, 2, 3), (276, 876, 3, 4), (276, 876, 4, 5), (276, 876, 6, 7), (876, 877, 8, 9), (876, 877, 9, 10), (895, 896, 5, 6), (895, 896, 6, 7), (895, 896, 7, 8)]
abbrev Q_rr_otherPhrase (S : sS) (key : Int) (from_ : Int) (to : Int) (cl : Nat) : pst := fun r S1 => HI S1 ∧ FR md_rr_otherPhrase S S1 ∧ (∃ z : Int, r = some (iv z) ∧ (0 ≤ z ∧ z ≤ 1) ∧ (KCL S S1 cl) ∧ (z = 1 → CLok S1 (0 ≤ Xi S 895 4) cl) ∧ (z = 0 → Xi S1 876 8 ≠ 0))
set_option maxRecDepth 100000 in
theorem t_rr_otherPhrase {S : sS} (hH : HI S) (key : Int) (from_ : Int) (to : Int) (cl : Nat) (hkey : 0 ≤ key ∧ key ≤ 108) (hfrom_ : 0 ≤ from_ ∧ from_ ≤ 5142) (hto : 0 ≤ to ∧ to ≤ 5140) (hcl : cl < 600) (hL : LEX S) (hk : key ≠ 107 → from_ ≤ 5129 ∧ to ≤ 5130) (hf : Xi S (276 + cl) 0 = 11) (d : Nat) : Mt lay0 (d + 4) m_rr_otherPhrase [.ref 899, iv key, iv from_, iv to, .ref (276 + cl)] S (Q_rr_otherPhrase S key from_ to cl) := by
  refine Mt_R rfl rfl ?_
  have hF : FR md_rr_otherPhrase S S := FR.rf
  have w1 : -1 ≤ Xi S 895 4 ∧ Xi S 895 4 ≤ 15 := hH.c _ _
  refine l_iload_n rfl rfl ?_
  refine l_tsw rfl rfl rfl rfl (by unfold rg; omega) (fun w2 => ?_) (fun ii tt hii w2 => ?_)
  · refine l_iconst rfl ?_
    refine l_ireturn rfl rfl ?_
    have w3 : 0 ≤ Xi S 876 8 ∧ Xi S 876 8 ≤ 9 := hH.c _ _
    exact ⟨hH, hF, _, rfl, ⟨by omega, by omega⟩, (KCL.rf), (fun q => by first | (exfalso; omega) | exact cl_11 hf | exact (by assumption : _ → CLok S (0 ≤ Xi S 895 4) cl) q | exact ((by assumption : _ → CLok S (0 ≤ Xi S 895 4) cl) q).mono (fun e => by omega) | exact cl_9 (by omega) rfl ((o96 q).1.mono (fun e => by omega)) (o96 q).2), (fun q => by first | omega | (exfalso; omega))⟩
  · match ii, hii with
    | 0, hii =>
      cases hii
      have w5 : key = 45 := by simpa using w2
      refine l_aload_n rfl rfl ?_
      refine l_iload_n rfl rfl ?_
      refine l_iload_n rfl rfl ?_
      refine l_aload rfl rfl ?_
      refine l_callV rfl rfl rfl (t_rr_movePhrase hH from_ to cl ⟨by omega, by omega⟩ ⟨by omega, by omega⟩ (by omega) (by first | assumption | exact (LEX_FR hF rfl rfl (by assumption : LEX S))) _) ?_
      rintro _ T1 ⟨hHT1, w11, z10, rfl, w10, w7, w8, w9⟩
      have hFT1 : FR md_rr_otherPhrase S T1 := FR.tr hF w11 rfl
      show Rl _ _ _ _ _ [iv z10] _ _
      refine l_ireturn rfl (retI_z (by omega)) ?_
      have w12 : 0 ≤ Xi T1 876 8 ∧ Xi T1 876 8 ≤ 9 := hHT1.c _ _
      have w13 : Xi T1 895 4 = Xi S 895 4 := (show Xi T1 895 4 = Xi S 895 4 from w11.x _ _ rfl)
      exact ⟨hHT1, hFT1, _, rfl, ⟨by omega, by omega⟩, ((kcl_tr KCL.rf (by assumption : KCL S T1 cl))), (fun q => by first | (exfalso; omega) | exact cl_11 hf | exact (by assumption : _ → CLok T1 (0 ≤ Xi S 895 4) cl) q | exact ((by assumption : _ → CLok T1 (0 ≤ Xi S 895 4) cl) q).mono (fun e => by omega) | exact cl_9 (by omega) rfl ((o96 q).1.mono (fun e => by omega)) (o96 q).2), (fun q => by first | omega | (exfalso; omega))⟩
    | 1, hii =>
      cases hii
      have w15 : key = 46 := by simpa using w2
      refine l_aload rfl rfl ?_
      refine l_bipush rfl rfl ?_
      refine l_pfi rfl rfl (layClW (by omega) rfl) rfl ?_
      obtain ⟨U2, eU2⟩ : ∃ T : sS, T = uI S (276 + cl) 0 (Int32.ofInt 9) := ⟨_, rfl⟩
      rw [← eU2]
      have hHU2 : HI U2 := by rw [eU2]; exact HI_w hH (by rw [lh_cl0 (by omega)]; omega) (by rw [lh_cl0 (by omega)]; omega)
      have hFU2 : FR md_rr_otherPhrase S U2 := by rw [eU2]; exact FR.wI hF (mdf_i (r := (276, 876, 0, 1)) (List.mem_of_getElem? (i := 0) rfl) (inR_i (by omega) (by omega) (by omega) (by omega)))
      have w16 : Xi U2 (276 + cl) 0 = 9 := by rw [eU2]; exact Xi_same (by unfold rg; omega)
      refine l_aload rfl rfl ?_
      refine l_aload_n rfl rfl ?_
      refine l_gfr rfl rfl rfl rfl rfl (hHU2.r 899 0 876 rfl) ?_
      refine l_iload_n rfl rfl ?_
      refine l_iconst rfl ?_
      refine l_isub rfl ?_
      have w17 : Xi U2 876 7 = Xi S 876 7 := (show Xi U2 876 7 = Xi S 876 7 from by rw [eU2]; exact Xi_ne (by omega))
      have w18 : 0 ≤ Xi S 876 7 ∧ Xi S 876 7 ≤ 5125 := hH.c _ _
      refine l_callV rfl rfl rfl (t_to_valueAt hHU2 (to - 1) ⟨by omega, by omega⟩ _) ?_
      rintro _ _ ⟨rfl, z22, rfl, w22, w21⟩
      show Rl _ _ _ _ _ [iv z22, .ref (276 + cl)] _ _
      refine l_iload_n rfl rfl ?_
      refine l_bipush rfl rfl ?_
      refine l_icmp_ne rfl rfl (by unfold rg; omega) (by unfold rg; omega) (fun w23 => ?_) (fun w24 => ?_)
      · refine l_iconst rfl ?_
        refine l_imul rfl ?_
        refine l_pfi rfl rfl (layClW (by omega) rfl) rfl ?_
        obtain ⟨U3, eU3⟩ : ∃ T : sS, T = uI U2 (276 + cl) 4 (Int32.ofInt (z22 * (-1))) := ⟨_, rfl⟩
        rw [← eU3]
        have hHU3 : HI U3 := by rw [eU3]; exact HI_any hHU2 (lh_cl4 (by omega))
        have hFU3 : FR md_rr_otherPhrase S U3 := by rw [eU3]; exact FR.wI hFU2 (mdf_i (r := (276, 876, 4, 5)) (List.mem_of_getElem? (i := 3) rfl) (inR_i (by omega) (by omega) (by omega) (by omega)))
        refine l_aload_n rfl rfl ?_
        refine l_iload_n rfl rfl ?_
        refine l_iconst rfl ?_
        refine l_iadd rfl ?_
        refine l_aload_n rfl rfl ?_
        refine l_gfr rfl rfl rfl rfl rfl (hHU3.r 899 0 876 rfl) ?_
        refine l_iload_n rfl rfl ?_
        refine l_iconst rfl ?_
        refine l_iadd rfl ?_
        have w25 : Xi U3 (276 + cl) 0 = Xi U2 (276 + cl) 0 := (show Xi U3 (276 + cl) 0 = Xi U2 (276 + cl) 0 from by rw [eU3]; exact Xi_ne (by omega))
        have w26 : Xi U3 876 7 = Xi S 876 7 := (show Xi U3 876 7 = Xi U2 876 7 from by rw [eU3]; exact Xi_ne (by omega)).trans ((show Xi U2 876 7 = Xi S 876 7 from by rw [eU2]; exact Xi_ne (by omega)))
        refine l_callV rfl rfl rfl (t_to_runEnd hHU3 (from_ + 1) ⟨by omega, by omega⟩ _) ?_
        rintro _ _ ⟨rfl, z37, rfl, w37, w30, w31, w32, w33, w34, w35, w36⟩
        clear w32 w33 w34 w35
        show Rl _ _ _ _ _ [iv z37, iv (from_ + 1), .ref 899] _ _
        refine l_iconst rfl ?_
        refine l_aload rfl rfl ?_
        have w39 : Xi U3 895 4 = Xi S 895 4 := (show Xi U3 895 4 = Xi U2 895 4 from by rw [eU3]; exact Xi_ne (by omega)).trans ((show Xi U2 895 4 = Xi S 895 4 from by rw [eU2]; exact Xi_ne (by omega)))
        refine l_callV rfl rfl rfl (t_rr_propertyOfThing hHU3 (from_ + 1) z37 1 cl ⟨by omega, by omega⟩ ⟨by omega, by omega⟩ ⟨by omega, by omega⟩ (by omega) (by first | assumption | exact (LEX_FR hFU3 rfl rfl (by assumption : LEX S))) _) ?_
        rintro _ T4 ⟨hHT4, w46, z45, rfl, w45, w41, w42, w43, w44⟩
        have hFT4 : FR md_rr_otherPhrase S T4 := FR.tr hFU3 w46 rfl
        show Rl _ _ _ _ _ [iv z45] _ _
        have o96 : z45 = 1 → WHO (0 ≤ Xi U3 895 4) (Xi T4 (276 + cl) 2) ∧ 0 ≤ Xi T4 (276 + cl) 3 ∧ Xi T4 (276 + cl) 3 ≤ 11 := by assumption
        have p96 : Xi T4 (276 + cl) 0 = Xi U3 (276 + cl) 0 := (by assumption : ∀ j, j ≠ 2 → j ≠ 3 → Xi T4 (276 + cl) j = Xi U3 (276 + cl) j) 0 (by decide) (by decide)
        refine l_ireturn rfl (retI_z (by omega)) ?_
        have w47 : Xi T4 (276 + cl) 0 = Xi U2 (276 + cl) 0 := (show Xi T4 (276 + cl) 0 = Xi U3 (276 + cl) 0 from FR_clj w46 rfl (by omega)).trans ((show Xi U3 (276 + cl) 0 = Xi U2 (276 + cl) 0 from by rw [eU3]; exact Xi_ne (by omega)))
        have w48 : 0 ≤ Xi T4 876 8 ∧ Xi T4 876 8 ≤ 9 := hHT4.c _ _
        have w49 : Xi T4 895 4 = Xi S 895 4 := (show Xi T4 895 4 = Xi U3 895 4 from w46.x _ _ rfl).trans ( (show Xi U3 895 4 = Xi U2 895 4 from by rw [eU3]; exact Xi_ne (by omega)).trans ((show Xi U2 895 4 = Xi S 895 4 from by rw [eU2]; exact Xi_ne (by omega))))
        exact ⟨hHT4, hFT4, _, rfl, ⟨by omega, by omega⟩, ((kcl_tr (kcl_w eU3 (kcl_w eU2 KCL.rf)) (by assumption : KCL U3 T4 cl))), (fun q => by first | (exfalso; omega) | exact cl_11 hf | exact (by assumption : _ → CLok T4 (0 ≤ Xi S 895 4) cl) q | exact ((by assumption : _ → CLok T4 (0 ≤ Xi U3 895 4) cl) q).mono (fun e => by omega) | exact cl_9 (by omega) rfl ((o96 q).1.mono (fun e => by omega)) (o96 q).2), (fun q => by first | omega | (exfalso; omega))⟩
      · refine l_iconst rfl ?_
        refine l_goto rfl rfl ?_
        refine l_imul rfl ?_
        refine l_pfi rfl rfl (layClW (by omega) rfl) rfl ?_
        obtain ⟨U5, eU5⟩ : ∃ T : sS, T = uI U2 (276 + cl) 4 (Int32.ofInt (z22 * 1)) := ⟨_, rfl⟩
        rw [← eU5]
        have hHU5 : HI U5 := by rw [eU5]; exact HI_any hHU2 (lh_cl4 (by omega))
        have hFU5 : FR md_rr_otherPhrase S U5 := by rw [eU5]; exact FR.wI hFU2 (mdf_i (r := (276, 876, 4, 5)) (List.mem_of_getElem? (i := 3) rfl) (inR_i (by omega) (by omega) (by omega) (by omega)))
        refine l_aload_n rfl rfl ?_
        refine l_iload_n rfl rfl ?_
        refine l_iconst rfl ?_
        refine l_iadd rfl ?_
        refine l_aload_n rfl rfl ?_
        refine l_gfr rfl rfl rfl rfl rfl (hHU5.r 899 0 876 rfl) ?_
        refine l_iload_n rfl rfl ?_
        refine l_iconst rfl ?_
        refine l_iadd rfl ?_
        have w51 : Xi U5 (276 + cl) 0 = Xi U2 (276 + cl) 0 := (show Xi U5 (276 + cl) 0 = Xi U2 (276 + cl) 0 from by rw [eU5]; exact Xi_ne (by omega))
        have w52 : Xi U5 876 7 = Xi S 876 7 := (show Xi U5 876 7 = Xi U2 876 7 from by rw [eU5]; exact Xi_ne (by omega)).trans ((show Xi U2 876 7 = Xi S 876 7 from by rw [eU2]; exact Xi_ne (by omega)))
        refine l_callV rfl rfl rfl (t_to_runEnd hHU5 (from_ + 1) ⟨by omega, by omega⟩ _) ?_
        rintro _ _ ⟨rfl, z63, rfl, w63, w56, w57, w58, w59, w60, w61, w62⟩
        clear w58 w59 w60 w61
        show Rl _ _ _ _ _ [iv z63, iv (from_ + 1), .ref 899] _ _
        refine l_iconst rfl ?_
        refine l_aload rfl rfl ?_
        have w65 : Xi U5 895 4 = Xi S 895 4 := (show Xi U5 895 4 = Xi U2 895 4 from by rw [eU5]; exact Xi_ne (by omega)).trans ((show Xi U2 895 4 = Xi S 895 4 from by rw [eU2]; exact Xi_ne (by omega)))
        refine l_callV rfl rfl rfl (t_rr_propertyOfThing hHU5 (from_ + 1) z63 1 cl ⟨by omega, by omega⟩ ⟨by omega, by omega⟩ ⟨by omega, by omega⟩ (by omega) (by first | assumption | exact (LEX_FR hFU5 rfl rfl (by assumption : LEX S))) _) ?_
        rintro _ T6 ⟨hHT6, w72, z71, rfl, w71, w67, w68, w69, w70⟩
        have hFT6 : FR md_rr_otherPhrase S T6 := FR.tr hFU5 w72 rfl
        show Rl _ _ _ _ _ [iv z71] _ _
        have o96 : z71 = 1 → WHO (0 ≤ Xi U5 895 4) (Xi T6 (276 + cl) 2) ∧ 0 ≤ Xi T6 (276 + cl) 3 ∧ Xi T6 (276 + cl) 3 ≤ 11 := by assumption
        have p96 : Xi T6 (276 + cl) 0 = Xi U5 (276 + cl) 0 := (by assumption : ∀ j, j ≠ 2 → j ≠ 3 → Xi T6 (276 + cl) j = Xi U5 (276 + cl) j) 0 (by decide) (by decide)
        refine l_ireturn rfl (retI_z (by omega)) ?_
        have w73 : Xi T6 (276 + cl) 0 = Xi U2 (276 + cl) 0 := (show Xi T6 (276 + cl) 0 = Xi U5 (276 + cl) 0 from FR_clj w72 rfl (by omega)).trans ((show Xi U5 (276 + cl) 0 = Xi U2 (276 + cl) 0 from by rw [eU5]; exact Xi_ne (by omega)))
        have w74 : 0 ≤ Xi T6 876 8 ∧ Xi T6 876 8 ≤ 9 := hHT6.c _ _
        have w75 : Xi T6 895 4 = Xi S 895 4 := (show Xi T6 895 4 = Xi U5 895 4 from w72.x _ _ rfl).trans ( (show Xi U5 895 4 = Xi U2 895 4 from by rw [eU5]; exact Xi_ne (by omega)).trans ((show Xi U2 895 4 = Xi S 895 4 from by rw [eU2]; exact Xi_ne (by omega))))
        exact ⟨hHT6, hFT6, _, rfl, ⟨by omega, by omega⟩, ((kcl_tr (kcl_w eU5 (kcl_w eU2 KCL.rf)) (by assumption : KCL U5 T6 cl))), (fun q => by first | (exfalso; omega) | exact cl_11 hf | exact (by assumption : _ → CLok T6 (0 ≤ Xi S 895 4) cl) q | exact ((by assumption : _ → CLok T6 (0 ≤ Xi U5 895 4) cl) q).mono (fun e => by omega) | exact cl_9 (by omega) rfl ((o96 q).1.mono (fun e => by omega)) (o96 q).2), (fun q => by first | omega | (exfalso; omega))⟩
    | 2, hii =>
      cases hii
      have w77 : key = 47 := by simpa using w2
      refine l_aload rfl rfl ?_
      refine l_bipush rfl rfl ?_
      refine l_pfi rfl rfl (layClW (by omega) rfl) rfl ?_
      obtain ⟨U7, eU7⟩ : ∃ T : sS, T = uI S (276 + cl) 0 (Int32.ofInt 9) := ⟨_, rfl⟩
      rw [← eU7]
      have hHU7 : HI U7 := by rw [eU7]; exact HI_w hH (by rw [lh_cl0 (by omega)]; omega) (by rw [lh_cl0 (by omega)]; omega)
      have hFU7 : FR md_rr_otherPhrase S U7 := by rw [eU7]; exact FR.wI hF (mdf_i (r := (276, 876, 0, 1)) (List.mem_of_getElem? (i := 0) rfl) (inR_i (by omega) (by omega) (by omega) (by omega)))
      have w78 : Xi U7 (276 + cl) 0 = 9 := by rw [eU7]; exact Xi_same (by unfold rg; omega)
      refine l_aload rfl rfl ?_
      refine l_aload_n rfl rfl ?_
      refine l_gfr rfl rfl rfl rfl rfl (hHU7.r 899 0 876 rfl) ?_
      refine l_iload_n rfl rfl ?_
      refine l_iconst rfl ?_
      refine l_isub rfl ?_
      have w79 : Xi U7 876 7 = Xi S 876 7 := (show Xi U7 876 7 = Xi S 876 7 from by rw [eU7]; exact Xi_ne (by omega))
      have w80 : 0 ≤ Xi S 876 7 ∧ Xi S 876 7 ≤ 5125 := hH.c _ _
      refine l_callV rfl rfl rfl (t_to_valueAt hHU7 (to - 1) ⟨by omega, by omega⟩ _) ?_
      rintro _ _ ⟨rfl, z84, rfl, w84, w83⟩
      show Rl _ _ _ _ _ [iv z84, .ref (276 + cl)] _ _
      refine l_iload_n rfl rfl ?_
      refine l_bipush rfl rfl ?_
      refine l_icmp_ne rfl rfl (by unfold rg; omega) (by unfold rg; omega) (fun w85 => ?_) (fun w86 => ?_)
      · refine l_iconst rfl ?_
        refine l_imul rfl ?_
        refine l_pfi rfl rfl (layClW (by omega) rfl) rfl ?_
        obtain ⟨U8, eU8⟩ : ∃ T : sS, T = uI U7 (276 + cl) 4 (Int32.ofInt (z84 * (-1))) := ⟨_, rfl⟩
        rw [← eU8]
        have hHU8 : HI U8 := by rw [eU8]; exact HI_any hHU7 (lh_cl4 (by omega))
        have hFU8 : FR md_rr_otherPhrase S U8 := by rw [eU8]; exact FR.wI hFU7 (mdf_i (r := (276, 876, 4, 5)) (List.mem_of_getElem? (i := 3) rfl) (inR_i (by omega) (by omega) (by omega) (by omega)))
        refine l_aload_n rfl rfl ?_
        refine l_iload_n rfl rfl ?_
        refine l_iconst rfl ?_
        refine l_iadd rfl ?_
        refine l_aload_n rfl rfl ?_
        refine l_gfr rfl rfl rfl rfl rfl (hHU8.r 899 0 876 rfl) ?_
        refine l_iload_n rfl rfl ?_
        refine l_iconst rfl ?_
        refine l_iadd rfl ?_
        have w87 : Xi U8 (276 + cl) 0 = Xi U7 (276 + cl) 0 := (show Xi U8 (276 + cl) 0 = Xi U7 (276 + cl) 0 from by rw [eU8]; exact Xi_ne (by omega))
        have w88 : Xi U8 876 7 = Xi S 876 7 := (show Xi U8 876 7 = Xi U7 876 7 from by rw [eU8]; exact Xi_ne (by omega)).trans ((show Xi U7 876 7 = Xi S 876 7 from by rw [eU7]; exact Xi_ne (by omega)))
        refine l_callV rfl rfl rfl (t_to_runEnd hHU8 (from_ + 1) ⟨by omega, by omega⟩ _) ?_
        rintro _ _ ⟨rfl, z99, rfl, w99, w92, w93, w94, w95, w96, w97, w98⟩
        clear w94 w95 w96 w97
        show Rl _ _ _ _ _ [iv z99, iv (from_ + 1), .ref 899] _ _
        refine l_iconst rfl ?_
        refine l_aload rfl rfl ?_
        have w101 : Xi U8 895 4 = Xi S 895 4 := (show Xi U8 895 4 = Xi U7 895 4 from by rw [eU8]; exact Xi_ne (by omega)).trans ((show Xi U7 895 4 = Xi S 895 4 from by rw [eU7]; exact Xi_ne (by omega)))
        refine l_callV rfl rfl rfl (t_rr_propertyOfThing hHU8 (from_ + 1) z99 1 cl ⟨by omega, by omega⟩ ⟨by omega, by omega⟩ ⟨by omega, by omega⟩ (by omega) (by first | assumption | exact (LEX_FR hFU8 rfl rfl (by assumption : LEX S))) _) ?_
        rintro _ T9 ⟨hHT9, w108, z107, rfl, w107, w103, w104, w105, w106⟩
        have hFT9 : FR md_rr_otherPhrase S T9 := FR.tr hFU8 w108 rfl
        show Rl _ _ _ _ _ [iv z107] _ _
        have o96 : z107 = 1 → WHO (0 ≤ Xi U8 895 4) (Xi T9 (276 + cl) 2) ∧ 0 ≤ Xi T9 (276 + cl) 3 ∧ Xi T9 (276 + cl) 3 ≤ 11 := by assumption
        have p96 : Xi T9 (276 + cl) 0 = Xi U8 (276 + cl) 0 := (by assumption : ∀ j, j ≠ 2 → j ≠ 3 → Xi T9 (276 + cl) j = Xi U8 (276 + cl) j) 0 (by decide) (by decide)
        refine l_ireturn rfl (retI_z (by omega)) ?_
        have w109 : Xi T9 (276 + cl) 0 = Xi U7 (276 + cl) 0 := (show Xi T9 (276 + cl) 0 = Xi U8 (276 + cl) 0 from FR_clj w108 rfl (by omega)).trans ((show Xi U8 (276 + cl) 0 = Xi U7 (276 + cl) 0 from by rw [eU8]; exact Xi_ne (by omega)))
        have w110 : 0 ≤ Xi T9 876 8 ∧ Xi T9 876 8 ≤ 9 := hHT9.c _ _
        have w111 : Xi T9 895 4 = Xi S 895 4 := (show Xi T9 895 4 = Xi U8 895 4 from w108.x _ _ rfl).trans ( (show Xi U8 895 4 = Xi U7 895 4 from by rw [eU8]; exact Xi_ne (by omega)).trans ((show Xi U7 895 4 = Xi S 895 4 from by rw [eU7]; exact Xi_ne (by omega))))
        exact ⟨hHT9, hFT9, _, rfl, ⟨by omega, by omega⟩, ((kcl_tr (kcl_w eU8 (kcl_w eU7 KCL.rf)) (by assumption : KCL U8 T9 cl))), (fun q => by first | (exfalso; omega) | exact cl_11 hf | exact (by assumption : _ → CLok T9 (0 ≤ Xi S 895 4) cl) q | exact ((by assumption : _ → CLok T9 (0 ≤ Xi U8 895 4) cl) q).mono (fun e => by omega) | exact cl_9 (by omega) rfl ((o96 q).1.mono (fun e => by omega)) (o96 q).2), (fun q => by first | omega | (exfalso; omega))⟩
      · refine l_iconst rfl ?_
        refine l_goto rfl rfl ?_
        refine l_imul rfl ?_
        refine l_pfi rfl rfl (layClW (by omega) rfl) rfl ?_
        obtain ⟨U10, eU10⟩ : ∃ T : sS, T = uI U7 (276 + cl) 4 (Int32.ofInt (z84 * 1)) := ⟨_, rfl⟩
        rw [← eU10]
        have hHU10 : HI U10 := by rw [eU10]; exact HI_any hHU7 (lh_cl4 (by omega))
        have hFU10 : FR md_rr_otherPhrase S U10 := by rw [eU10]; exact FR.wI hFU7 (mdf_i (r := (276, 876, 4, 5)) (List.mem_of_getElem? (i := 3) rfl) (inR_i (by omega) (by omega) (by omega) (by omega)))
        refine l_aload_n rfl rfl ?_
        refine l_iload_n rfl rfl ?_
        refine l_iconst rfl ?_
        refine l_iadd rfl ?_
        refine l_aload_n rfl rfl ?_
        refine l_gfr rfl rfl rfl rfl rfl (hHU10.r 899 0 876 rfl) ?_
        refine l_iload_n rfl rfl ?_
        refine l_iconst rfl ?_
        refine l_iadd rfl ?_
        have w113 : Xi U10 (276 + cl) 0 = Xi U7 (276 + cl) 0 := (show Xi U10 (276 + cl) 0 = Xi U7 (276 + cl) 0 from by rw [eU10]; exact Xi_ne (by omega))
        have w114 : Xi U10 876 7 = Xi S 876 7 := (show Xi U10 876 7 = Xi U7 876 7 from by rw [eU10]; exact Xi_ne (by omega)).trans ((show Xi U7 876 7 = Xi S 876 7 from by rw [eU7]; exact Xi_ne (by omega)))
        refine l_callV rfl rfl rfl (t_to_runEnd hHU10 (from_ + 1) ⟨by omega, by omega⟩ _) ?_
        rintro _ _ ⟨rfl, z125, rfl, w125, w118, w119, w120, w121, w122, w123, w124⟩
        clear w120 w121 w122 w123
        show Rl _ _ _ _ _ [iv z125, iv (from_ + 1), .ref 899] _ _
        refine l_iconst rfl ?_
        refine l_aload rfl rfl ?_
        have w127 : Xi U10 895 4 = Xi S 895 4 := (show Xi U10 895 4 = Xi U7 895 4 from by rw [eU10]; exact Xi_ne (by omega)).trans ((show Xi U7 895 4 = Xi S 895 4 from by rw [eU7]; exact Xi_ne (by omega)))
        refine l_callV rfl rfl rfl (t_rr_propertyOfThing hHU10 (from_ + 1) z125 1 cl ⟨by omega, by omega⟩ ⟨by omega, by omega⟩ ⟨by omega, by omega⟩ (by omega) (by first | assumption | exact (LEX_FR hFU10 rfl rfl (by assumption : LEX S))) _) ?_
        rintro _ T11 ⟨hHT11, w134, z133, rfl, w133, w129, w130, w131, w132⟩
        have hFT11 : FR md_rr_otherPhrase S T11 := FR.tr hFU10 w134 rfl
        show Rl _ _ _ _ _ [iv z133] _ _
        have o96 : z133 = 1 → WHO (0 ≤ Xi U10 895 4) (Xi T11 (276 + cl) 2) ∧ 0 ≤ Xi T11 (276 + cl) 3 ∧ Xi T11 (276 + cl) 3 ≤ 11 := by assumption
        have p96 : Xi T11 (276 + cl) 0 = Xi U10 (276 + cl) 0 := (by assumption : ∀ j, j ≠ 2 → j ≠ 3 → Xi T11 (276 + cl) j = Xi U10 (276 + cl) j) 0 (by decide) (by decide)
        refine l_ireturn rfl (retI_z (by omega)) ?_
        have w135 : Xi T11 (276 + cl) 0 = Xi U7 (276 + cl) 0 := (show Xi T11 (276 + cl) 0 = Xi U10 (276 + cl) 0 from FR_clj w134 rfl (by omega)).trans ((show Xi U10 (276 + cl) 0 = Xi U7 (276 + cl) 0 from by rw [eU10]; exact Xi_ne (by omega)))
        have w136 : 0 ≤ Xi T11 876 8 ∧ Xi T11 876 8 ≤ 9 := hHT11.c _ _
        have w137 : Xi T11 895 4 = Xi S 895 4 := (show Xi T11 895 4 = Xi U10 895 4 from w134.x _ _ rfl).trans ( (show Xi U10 895 4 = Xi U7 895 4 from by rw [eU10]; exact Xi_ne (by omega)).trans ((show Xi U7 895 4 = Xi S 895 4 from by rw [eU7]; exact Xi_ne (by omega))))
        exact ⟨hHT11, hFT11, _, rfl, ⟨by omega, by omega⟩, ((kcl_tr (kcl_w eU10 (kcl_w eU7 KCL.rf)) (by assumption : KCL U10 T11 cl))), (fun q => by first | (exfalso; omega) | exact cl_11 hf | exact (by assumption : _ → CLok T11 (0 ≤ Xi S 895 4) cl) q | exact ((by assumption : _ → CLok T11 (0 ≤ Xi U10 895 4) cl) q).mono (fun e => by omega) | exact cl_9 (by omega) rfl ((o96 q).1.mono (fun e => by omega)) (o96 q).2), (fun q => by first | omega | (exfalso; omega))⟩
    | 3, hii =>
      cases hii
      have w139 : key = 48 := by simpa using w2
      refine l_iconst rfl ?_
      refine l_ireturn rfl rfl ?_
      have w140 : 0 ≤ Xi S 876 8 ∧ Xi S 876 8 ≤ 9 := hH.c _ _
      exact ⟨hH, hF, _, rfl, ⟨by omega, by omega⟩, (KCL.rf), (fun q => by first | (exfalso; omega) | exact cl_11 hf | exact (by assumption : _ → CLok S (0 ≤ Xi S 895 4) cl) q | exact ((by assumption : _ → CLok S (0 ≤ Xi S 895 4) cl) q).mono (fun e => by omega) | exact cl_9 (by omega) rfl ((o96 q).1.mono (fun e => by omega)) (o96 q).2), (fun q => by first | omega | (exfalso; omega))⟩
    | 4, hii =>
      cases hii
      have w142 : key = 49 := by simpa using w2
      refine l_aload rfl rfl ?_
      refine l_bipush rfl rfl ?_
      refine l_pfi rfl rfl (layClW (by omega) rfl) rfl ?_
      obtain ⟨U12, eU12⟩ : ∃ T : sS, T = uI S (276 + cl) 0 (Int32.ofInt 10) := ⟨_, rfl⟩
      rw [← eU12]
      have hHU12 : HI U12 := by rw [eU12]; exact HI_w hH (by rw [lh_cl0 (by omega)]; omega) (by rw [lh_cl0 (by omega)]; omega)
      have hFU12 : FR md_rr_otherPhrase S U12 := by rw [eU12]; exact FR.wI hF (mdf_i (r := (276, 876, 0, 1)) (List.mem_of_getElem? (i := 0) rfl) (inR_i (by omega) (by omega) (by omega) (by omega)))
      have w143 : Xi U12 (276 + cl) 0 = 10 := by rw [eU12]; exact Xi_same (by unfold rg; omega)
      refine l_aload_n rfl rfl ?_
      refine l_gfr rfl rfl rfl rfl rfl (hHU12.r 899 0 876 rfl) ?_
      refine l_iload_n rfl rfl ?_
      have w144 : Xi U12 876 7 = Xi S 876 7 := (show Xi U12 876 7 = Xi S 876 7 from by rw [eU12]; exact Xi_ne (by omega))
      have w145 : 0 ≤ Xi S 876 7 ∧ Xi S 876 7 ≤ 5125 := hH.c _ _
      refine l_callV rfl rfl rfl (t_to_runEnd hHU12 from_ ⟨by omega, by omega⟩ _) ?_
      rintro _ _ ⟨rfl, z155, rfl, w155, w148, w149, w150, w151, w152, w153, w154⟩
      clear w150 w151 w152 w153
      show Rl _ _ _ _ _ [iv z155] _ _
      refine l_istore rfl rfl rfl ?_
      refine l_iload rfl rfl ?_
      refine l_iload_n rfl rfl ?_
      refine l_icmp_ne rfl rfl (by unfold rg; omega) (by unfold rg; omega) (fun w156 => ?_) (fun w157 => ?_)
      · refine l_aload_n rfl rfl ?_
        refine l_iload_n rfl rfl ?_
        refine l_iload rfl rfl ?_
        refine l_iload_n rfl rfl ?_
        refine l_aload rfl rfl ?_
        have w158 : Xi U12 895 4 = Xi S 895 4 := (show Xi U12 895 4 = Xi S 895 4 from by rw [eU12]; exact Xi_ne (by omega))
        refine l_callV rfl rfl rfl (t_rr_tryOn hHU12 from_ z155 to cl ⟨by omega, by omega⟩ ⟨by omega, by omega⟩ ⟨by omega, by omega⟩ (by omega) (by first | assumption | exact (LEX_FR hFU12 rfl rfl (by assumption : LEX S))) (by first | assumption | omega) _) ?_
        rintro _ T13 ⟨hHT13, w164, z163, rfl, w163, w160, w161, w162⟩
        have hFT13 : FR md_rr_otherPhrase S T13 := FR.tr hFU12 w164 rfl
        show Rl _ _ _ _ _ [iv z163] _ _
        refine l_ireturn rfl (retI_z (by omega)) ?_
        have w165 : Xi T13 (276 + cl) 0 = Xi U12 (276 + cl) 0 := (show Xi T13 (276 + cl) 0 = Xi U12 (276 + cl) 0 from FR_clj w164 rfl (by omega))
        have w166 : 0 ≤ Xi T13 876 8 ∧ Xi T13 876 8 ≤ 9 := hHT13.c _ _
        have w167 : Xi T13 895 4 = Xi S 895 4 := (show Xi T13 895 4 = Xi U12 895 4 from w164.x _ _ rfl).trans ((show Xi U12 895 4 = Xi S 895 4 from by rw [eU12]; exact Xi_ne (by omega)))
        exact ⟨hHT13, hFT13, _, rfl, ⟨by omega, by omega⟩, ((kcl_tr (kcl_w eU12 KCL.rf) (by assumption : KCL U12 T13 cl))), (fun q => by first | (exfalso; omega) | exact cl_11 hf | exact (by assumption : _ → CLok T13 (0 ≤ Xi S 895 4) cl) q | exact ((by assumption : _ → CLok T13 (0 ≤ Xi U12 895 4) cl) q).mono (fun e => by omega) | exact cl_9 (by omega) rfl ((o96 q).1.mono (fun e => by omega)) (o96 q).2), (fun q => by first | omega | (exfalso; omega))⟩
      · refine l_aload_n rfl rfl ?_
        refine l_iload_n rfl rfl ?_
        refine l_iload_n rfl rfl ?_
        refine l_aload rfl rfl ?_
        have w169 : Xi U12 895 4 = Xi S 895 4 := (show Xi U12 895 4 = Xi S 895 4 from by rw [eU12]; exact Xi_ne (by omega))
        refine l_callV rfl rfl rfl (t_rr_tryAlone hHU12 from_ to cl ⟨by omega, by omega⟩ ⟨by omega, by omega⟩ (by omega) (by first | assumption | exact (LEX_FR hFU12 rfl rfl (by assumption : LEX S))) (by first | assumption | omega) _) ?_
        rintro _ T14 ⟨hHT14, w175, z174, rfl, w174, w171, w172, w173⟩
        have hFT14 : FR md_rr_otherPhrase S T14 := FR.tr hFU12 w175 rfl
        show Rl _ _ _ _ _ [iv z174] _ _
        refine l_goto rfl rfl ?_
        refine l_ireturn rfl (retI_z (by omega)) ?_
        have w176 : Xi T14 (276 + cl) 0 = Xi U12 (276 + cl) 0 := (show Xi T14 (276 + cl) 0 = Xi U12 (276 + cl) 0 from FR_clj w175 rfl (by omega))
        have w177 : 0 ≤ Xi T14 876 8 ∧ Xi T14 876 8 ≤ 9 := hHT14.c _ _
        have w178 : Xi T14 895 4 = Xi S 895 4 := (show Xi T14 895 4 = Xi U12 895 4 from w175.x _ _ rfl).trans ((show Xi U12 895 4 = Xi S 895 4 from by rw [eU12]; exact Xi_ne (by omega)))
        exact ⟨hHT14, hFT14, _, rfl, ⟨by omega, by omega⟩, ((kcl_tr (kcl_w eU12 KCL.rf) (by assumption : KCL U12 T14 cl))), (fun q => by first | (exfalso; omega) | exact cl_11 hf | exact (by assumption : _ → CLok T14 (0 ≤ Xi S 895 4) cl) q | exact ((by assumption : _ → CLok T14 (0 ≤ Xi U12 895 4) cl) q).mono (fun e => by omega) | exact cl_9 (by omega) rfl ((o96 q).1.mono (fun e => by omega)) (o96 q).2), (fun q => by first | omega | (exfalso; omega))⟩
    | n + 5, hii => exact absurd hii (by simp)
/-! SAFETY of methods: printed by wip/safe (vc.py, decl.py) -/
/-! SAFETY: definitions and rules told -/
/-- what holds between sentences, but for the count of clauses -/
def WX (S : sS) : Prop := LEX S ∧ TX S ∧ DEF S ∧ RUL S ∧ CMD S ∧ AK S ∧ VAL S
theorem wx_of {S : sS} (h : WI S) : WX S := ⟨h.1, h.2.1, h.2.2.1, h.2.2.2.1, h.2.2.2.2.1, h.2.2.2.2.2.1, h.2.2.2.2.2.2.2⟩
theorem WX_g {l : List rec} {S T : sS} (hH : HI S) (h : FR l S T) (g : sG S T) (e1 : mdf l 1 3 = false) (e2 : dL l = true) (e3 : (kdis l kX && !(mdf l 20 1)) = true) (e5 : kdis l [(5, 6), (11, 14)] = true) (e6 : (kdis l [(248, 272)] && !(mdf l 246 2)) = true) (e7 : (kdis l [(5, 6), (19, 20), (883, 884), (885, 887)] && !(mdf l 882 3)) = true) (e8 : kdis l [(8, 9)] = true) (e9 : kdis l [(19, 20), (5, 6)] = true) (hW : WX S) : WX T := by
  obtain ⟨w1, w2, w3, w4, w5, w6, w8⟩ := hW
  have k5 := h.smk e5
  simp only [Bool.and_eq_true, Bool.not_eq_true'] at e6
  have k6 := h.smk e6.1
  have h24 : 0 ≤ Xi S 246 2 ∧ Xi S 246 2 ≤ 24 := hH.c _ _
  exact ⟨LEX_FR h e1 e2 w1, TX_FR h e3 w2, DEF_sG hH g (fun a _ => ⟨k5.x 11 rfl a, k5.x 12 rfl a, k5.x 13 rfl a⟩) (fun a h1 h2 => by rw [k5.x 5 rfl] at h2; omega) w3, RUL_sG hH g (fun i hi j => k6.x _ (inK_i (a := 248) (b := 272) (by decide) (by omega) (by omega)) j) (h.x 246 2 e6.2) w4, CMD_FR h e7 w5, AK_FR h e9 w6, VAL_fr h e8 (k5.x 5 rfl 4) w8⟩
theorem WI_df {l : List rec} {S T : sS} {n : Int} (hH : HI S) (h : FR l S T) (e3 : (kdis l kX && !(mdf l 20 1)) = true) (e4 : (kdis l kG && (!(mdf l 20 1) && (!(mdf l 246 8) && !(mdf l 246 5)))) = true) (e6 : (kdis l [(248, 272)] && !(mdf l 246 2)) = true) (e7 : (kdis l [(883, 884), (885, 887), (19, 20)] && !(mdf l 882 3)) = true) (e8 : kdis l [(8, 9)] = true) (hL : LEX T) (ho : ∀ j, j ≠ 3 → Xi T 5 j = Xi S 5 j) (h3 : Xi T 5 3 = Xi S 5 3 + 1) (hn : n = Xi S 5 3) (h11 : ∀ a : Nat, a ≠ n.toNat → Xi T 11 a = Xi S 11 a ∧ Xi T 12 a = Xi S 12 a ∧ Xi T 13 a = Xi S 13 a) (hf : Xi T 12 n.toNat = Xi S 246 5 - Xi S 899 6) (ht : Xi T 13 n.toNat = Xi S 899 6) (hb : 0 ≤ Xi S 899 6 ∧ Xi S 899 6 ≤ Xi S 246 5 ∧ Xi S 246 5 ≤ 600) (hk : ∀ i : Nat, (i : Int) < Xi S 899 6 → TSok S True ((Xi S 246 5 - Xi S 899 6).toNat + i)) (hcc : Xi S 246 5 ≤ 19 * Xi S 246 2 + 6 * (Xi S 5 3 + 1)) (hW : WX S) : WI T := by
  obtain ⟨w1, w2, w3, w4, w5, w6, w8⟩ := hW
  have h5 : ∀ j, Xi S 5 j ≤ Xi T 5 j := fun j => by
    by_cases e : j = 3
    · rw [e, h3]; omega
    · rw [ho j e]; exact Int.le_refl _
  have g := FR_sG hH h e4 (h5 3) (h5 8)
  simp only [Bool.and_eq_true, Bool.not_eq_true'] at e6 e7 e4
  have k6 := h.smk e6.1
  have k7 := h.smk e7.1
  have h24 : 0 ≤ Xi S 246 2 ∧ Xi S 246 2 ≤ 24 := hH.c _ _
  have h53 : 0 ≤ Xi S 5 3 ∧ Xi S 5 3 ≤ 24 := hH.c _ _
  have x5 := h.x 246 5 e4.2.2.2
  refine ⟨hL, TX_FR h e3 w2, fun a ha hc => ?_, RUL_sG hH g (fun i hi j => k6.x _ (inK_i (a := 248) (b := 272) (by decide) (by omega) (by omega)) j) (h.x 246 2 e6.2) w4, ?_, ?_, ?_, VAL_fr h e8 (ho 4 (by decide)) w8⟩
  · by_cases e : a = n.toNat
    · subst e
      rw [hf, ht, x5]
      exact ⟨⟨by omega, by omega, by omega⟩, fun i hi => TSok_sG hH g (by omega) (by omega) (hk i hi)⟩
    · obtain ⟨x, y, z⟩ := h11 a e
      rw [x] at hc
      rw [y, z, x5]
      obtain ⟨⟨b1, b2, b3⟩, b4⟩ := w3 a (by omega) hc
      exact ⟨⟨b1, b2, b3⟩, fun i hi => TSok_sG hH g (by omega) (by omega) (b4 i hi)⟩
  · intro i hi
    rw [h.x 882 3 e7.2] at hi
    rw [k7.x 883 rfl, k7.x 885 rfl, k7.x 886 rfl, k7.x 19 rfl, ho 8 (by decide)]
    exact w5 i hi
  · obtain ⟨a, b⟩ := w6
    refine ⟨by rw [ho 8 (by decide)]; exact a, ?_⟩
    simp only [k7.x 19 rfl]
    exact b
  · unfold CC
    rw [x5, h.x 246 2 e6.2, h3]
    exact hcc
theorem WI_ru {l : List rec} {S T : sS} {r : Nat} (hH : HI S) (h : FR l S T) (g : sG S T) (k : KRU S T r) (e1 : mdf l 1 3 = false) (e2 : dL l = true) (e3 : (kdis l kX && !(mdf l 20 1)) = true) (e5 : kdis l [(5, 6), (11, 14)] = true) (e7 : (kdis l [(5, 6), (19, 20), (883, 884), (885, 887)] && !(mdf l 882 3)) = true) (e8 : kdis l [(8, 9)] = true) (e9 : kdis l [(19, 20), (5, 6)] = true) (hr : (r : Int) = Xi S 246 2) (h2 : Xi T 246 2 = Xi S 246 2 + 1) (hc : Xi T 246 5 ≤ Xi S 246 5 + 19) (hu : RUL1 T r) (hW : WI S) : WI T := by
  obtain ⟨w1, w2, w3, w4, w5, w6, w7, w8⟩ := hW
  have k5 := h.smk e5
  have h24 : 0 ≤ Xi S 246 2 ∧ Xi S 246 2 ≤ 24 := hH.c _ _
  refine ⟨LEX_FR h e1 e2 w1, TX_FR h e3 w2, DEF_sG hH g (fun a _ => ⟨k5.x 11 rfl a, k5.x 12 rfl a, k5.x 13 rfl a⟩) (fun a h1 h2 => by rw [k5.x 5 rfl] at h2; omega) w3, fun i hi => ?_, CMD_FR h e7 w5, AK_FR h e9 w6, ?_, VAL_fr h e8 (k5.x 5 rfl 4) w8⟩
  · by_cases e : i = r
    · rw [e]; exact hu
    · exact RUL1_sG hH g (by omega) (fun j => k i j (by omega) e) (w4 i (by omega))
  · unfold CC at *
    rw [k5.x 5 rfl 3, h2]
    omega
def md_rr_keepTests : List rec := [(12, 13, 0, 100000), (13, 14, 0, 100000)]
abbrev Q_rr_keepTests (S : sS) (adj : Int) : pst := fun r S1 => HI S1 ∧ FR md_rr_keepTests S S1 ∧ (r = none ∧ (Xi S1 12 adj.toNat = Xi S 246 5 - Xi S 899 6 ∧ Xi S1 13 adj.toNat = Xi S 899 6) ∧ (∀ j : Nat, j ≠ adj.toNat → Xi S1 12 j = Xi S 12 j ∧ Xi S1 13 j = Xi S 13 j))
set_option maxRecDepth 100000 in
theorem t_rr_keepTests {S : sS} (hH : HI S) (adj : Int) (hadj : 0 ≤ adj ∧ adj ≤ 23) (d : Nat) : Mt lay0 (d + 1) m_rr_keepTests [.ref 899, iv adj] S (Q_rr_keepTests S adj) := by
  refine Mt_R rfl rfl ?_
  have hF : FR md_rr_keepTests S S := FR.rf
  have w1 : 0 ≤ Xi S 246 5 ∧ Xi S 246 5 ≤ 200000 := hH.c _ _
  have w2 : 0 ≤ Xi S 899 6 ∧ Xi S 899 6 ≤ 6 := hH.c _ _
  refine l_aload_n rfl rfl ?_
  refine l_gfr rfl rfl rfl rfl rfl (hH.r 899 1 1 rfl) ?_
  refine l_gfr rfl rfl rfl rfl rfl (hH.r 1 11 12 rfl) ?_
  refine l_iload_n rfl rfl ?_
  refine l_aload_n rfl rfl ?_
  refine l_gfr rfl rfl rfl rfl rfl (hH.r 899 3 246 rfl) ?_
  refine l_gfi rfl rfl rfl rfl rfl ?_
  refine l_aload_n rfl rfl ?_
  refine l_gfi rfl rfl rfl rfl rfl ?_
  refine l_isub rfl ?_
  refine l_iastore (n := 24) rfl rfl (by omega) (by omega) (by unfold rg; omega) ?_
  obtain ⟨U1, eU1⟩ : ∃ T : sS, T = uI S 12 ((adj).toNat) (Int32.ofInt ((Xi S 246 5) - (Xi S 899 6))) := ⟨_, rfl⟩
  rw [← eU1]
  have hHU1 : HI U1 := by rw [eU1]; exact HI_any hH (rfl)
  have hFU1 : FR md_rr_keepTests S U1 := by rw [eU1]; exact FR.wI hF (mdf_i (r := (12, 13, 0, 100000)) (List.mem_of_getElem? (i := 0) rfl) (inR_i (by omega) (by omega) (by omega) (by omega)))
  have w3 : Xi U1 12 ((adj).toNat) = ((Xi S 246 5) - (Xi S 899 6)) := by rw [eU1]; exact Xi_same (by unfold rg; omega)
  refine l_aload_n rfl rfl ?_
  refine l_gfr rfl rfl rfl rfl rfl (hHU1.r 899 1 1 rfl) ?_
  refine l_gfr rfl rfl rfl rfl rfl (hHU1.r 1 12 13 rfl) ?_
  refine l_iload_n rfl rfl ?_
  refine l_aload_n rfl rfl ?_
  refine l_gfi rfl rfl rfl rfl rfl ?_
  have w4 : (Xi U1 899 6) = (Xi S 899 6) := (show Xi U1 899 6 = Xi S 899 6 from by rw [eU1]; exact Xi_ne (by omega))
  rw [w4]
  refine l_iastore (n := 24) rfl rfl (by omega) (by omega) (by unfold rg; omega) ?_
  obtain ⟨U2, eU2⟩ : ∃ T : sS, T = uI U1 13 ((adj).toNat) (Int32.ofInt (Xi S 899 6)) := ⟨_, rfl⟩
  rw [← eU2]
  have hHU2 : HI U2 := by rw [eU2]; exact HI_w hHU1 (show 0 ≤ (Xi S 899 6) by omega) (show (Xi S 899 6) ≤ 6 by omega)
  have hFU2 : FR md_rr_keepTests S U2 := by rw [eU2]; exact FR.wI hFU1 (mdf_i (r := (13, 14, 0, 100000)) (List.mem_of_getElem? (i := 1) rfl) (inR_i (by omega) (by omega) (by omega) (by omega)))
  have w5 : Xi U2 13 ((adj).toNat) = (Xi S 899 6) := by rw [eU2]; exact Xi_same (by unfold rg; omega)
  refine l_return rfl rfl ?_
  exact ⟨hHU2, hFU2, rfl, (⟨by rw [eU2, Xi_ne (by omega), eU1]; exact Xi_same (by unfold rg; omega), by rw [eU2]; exact Xi_same (by unfold rg; omega)⟩), (fun j hj => ⟨by rw [eU2, Xi_ne (by omega), eU1, Xi_ne (by omega)], by rw [eU2, Xi_ne (by omega), eU1, Xi_ne (by omega)]⟩)⟩
def md_re_startDefinition__2 : List rec := [(876, 877, 8, 9), (876, 877, 9, 10), (891, 892, 9, 10), (892, 893, 0, 100000), (893, 894, 0, 100000), (895, 896, 3, 4), (895, 896, 4, 5)]
abbrev Q_re_startDefinition__2 (S : sS) : pst := fun r S1 => HI S1 ∧ FR md_re_startDefinition__2 S S1 ∧ (∃ z : Int, r = some (iv z) ∧ (0 ≤ z ∧ z ≤ 1) ∧ (z = 0 → Xi S1 876 8 ≠ 0) ∧ (z = 1 → Xi S1 5 3 < 24) ∧ (z = 1 → 0 ≤ Xi S1 895 4))
set_option maxRecDepth 100000 in
theorem t_re_startDefinition__2 {S : sS} (hH : HI S) (hL : LEX S) (hn0 : Xi S 891 9 = 0) (d : Nat) : Mt lay0 (d + 3) m_re_startDefinition [.ref 891] S (Q_re_startDefinition__2 S) := by
  refine Mt_R rfl rfl ?_
  have hF : FR md_re_startDefinition__2 S S := FR.rf
  have w1 : 0 ≤ Xi S 891 9 ∧ Xi S 891 9 ≤ 24 := hH.c _ _
  refine l_aload_n rfl rfl ?_
  refine l_gfr rfl rfl rfl rfl rfl (hH.r 891 0 876 rfl) ?_
  refine l_iconst rfl ?_
  have w3 : 0 ≤ Xi S 876 7 ∧ Xi S 876 7 ≤ 5125 := hH.c _ _
  refine l_callV rfl rfl rfl (t_to_runEnd hH 3 ⟨by omega, by omega⟩ _) ?_
  rintro _ _ ⟨rfl, z13, rfl, w13, w6, w7, w8, w9, w10, w11, w12⟩
  clear w8 w9 w10 w11
  show Rl _ _ _ _ _ [iv z13] _ _
  refine l_istore_n rfl rfl rfl ?_
  refine l_aload_n rfl rfl ?_
  refine l_gfr rfl rfl rfl rfl rfl (hH.r 891 4 895 rfl) ?_
  refine l_iconst rfl ?_
  refine l_iconst rfl ?_
  refine l_iload_n rfl rfl ?_
  refine l_callV rfl rfl rfl (t_me_find hH 0 3 z13 ⟨by omega, by omega⟩ ⟨by omega, by omega⟩ ⟨by omega, by omega⟩ (by first | assumption | exact (LEX_FR hF rfl rfl (by assumption : LEX S))) _) ?_
  rintro _ _ ⟨rfl, z20, rfl, w20, w17, w18, w19⟩
  have w21 : z20 ≠ -1 → _ := fun h => fb0 hH (w17 h)
  clear w18
  show Rl _ _ _ _ _ [iv z20] _ _
  refine l_istore_n rfl rfl rfl ?_
  refine l_aload_n rfl rfl ?_
  refine l_gfr rfl rfl rfl rfl rfl (hH.r 891 0 876 rfl) ?_
  refine l_iload_n rfl rfl ?_
  refine l_iconst rfl ?_
  refine l_iadd rfl ?_
  refine l_callV rfl rfl rfl (t_to_runEnd hH (z13 + 1) ⟨by omega, by omega⟩ _) ?_
  rintro _ _ ⟨rfl, z33, rfl, w33, w26, w27, w28, w29, w30, w31, w32⟩
  clear w28 w29 w30 w31
  show Rl _ _ _ _ _ [iv z33] _ _
  refine l_istore_n rfl rfl rfl ?_
  refine l_aload_n rfl rfl ?_
  refine l_gfr rfl rfl rfl rfl rfl (hH.r 891 4 895 rfl) ?_
  refine l_bipush rfl rfl ?_
  refine l_iload_n rfl rfl ?_
  have w36 : -1 ≤ Xi S 895 4 ∧ Xi S 895 4 ≤ 15 := hH.c _ _
  refine l_callV rfl rfl rfl (t_me_startSelf hH 54 z20 ⟨by omega, by omega⟩ ⟨by omega, by omega⟩ _) ?_
  rintro _ T1 ⟨hHT1, w39, rfl, w37⟩
  have hFT1 : FR md_re_startDefinition__2 S T1 := FR.tr hF w39 rfl
  show Rl _ _ _ _ _ [] _ _
  refine l_iload_n rfl rfl ?_
  refine l_iconst rfl ?_
  refine l_icmp_ne rfl rfl (by unfold rg; omega) (by unfold rg; omega) (fun w40 => ?_) (fun w41 => ?_)
  · refine l_aload_n rfl rfl ?_
    refine l_iload_n rfl rfl ?_
    refine l_iconst rfl ?_
    refine l_iadd rfl ?_
    refine l_iload_n rfl rfl ?_
    refine l_aload_n rfl rfl ?_
    refine l_gfr rfl rfl rfl rfl rfl (hHT1.r 891 2 1 rfl) ?_
    refine l_iconst rfl ?_
    have w42 : Xi T1 5 3 = Xi S 5 3 := (show Xi T1 5 3 = Xi S 5 3 from w39.x _ _ rfl)
    have w43 : 0 ≤ Xi S 5 3 ∧ Xi S 5 3 ≤ 24 := hH.c _ _
    refine l_callV rfl rfl rfl (t_vo_countOf hHT1 3 ⟨by omega, by omega⟩ _) ?_
    rintro _ _ ⟨rfl, z50, rfl, w50, w47, w48, w49⟩
    have w51 : z50 = Xi T1 5 3 ∧ 0 ≤ Xi T1 5 3 ∧ Xi T1 5 3 ≤ 24 := ⟨(w47 (by omega) (by omega)).1, hHT1.c 5 3⟩
    clear w47 w48 w49
    show Rl _ _ _ _ _ [iv z50, iv z33, iv (z13 + 1), .ref 891] _ _
    refine l_bipush rfl rfl ?_
    have w54 : Xi T1 891 9 = Xi S 891 9 := (show Xi T1 891 9 = Xi S 891 9 from w39.x _ _ rfl)
    refine l_callV rfl rfl rfl (t_re_takeNew hHT1 (z13 + 1) z33 z50 24 ⟨by omega, by omega⟩ ⟨by omega, by omega⟩ ⟨by omega, by omega⟩ ⟨by omega, by omega⟩ (by first | assumption | exact (LEX_FR hFT1 rfl rfl (by assumption : LEX S))) _) ?_
    rintro _ T2 ⟨hHT2, w63, z62, rfl, w62, w57, w58, w59, w60, w61⟩
    have hFT2 : FR md_re_startDefinition__2 S T2 := FR.tr hFT1 w63 rfl
    show Rl _ _ _ _ _ [iv z62] _ _
    refine l_ireturn rfl (retI_z (by omega)) ?_
    have w64 : Xi T2 5 3 = Xi S 5 3 := (show Xi T2 5 3 = Xi T1 5 3 from w63.x _ _ rfl).trans ((show Xi T1 5 3 = Xi S 5 3 from w39.x _ _ rfl))
    have w66 : 0 ≤ Xi T2 876 8 ∧ Xi T2 876 8 ≤ 9 := hHT2.c _ _
    have w68 : Xi T2 895 4 = Xi T1 895 4 := (show Xi T2 895 4 = Xi T1 895 4 from w63.x _ _ rfl)
    have w69 : -1 ≤ Xi T1 895 4 ∧ Xi T1 895 4 ≤ 15 := hHT1.c _ _
    exact ⟨hHT2, hFT2, _, rfl, ⟨by omega, by omega⟩, (by first | assumption | omega), (by omega), (by omega)⟩
  · refine l_aload_n rfl rfl ?_
    refine l_gfr rfl rfl rfl rfl rfl (hHT1.r 891 0 876 rfl) ?_
    refine l_iconst rfl ?_
    refine l_iconst rfl ?_
    refine l_callV rfl rfl rfl (t_to_wrong hHT1 4 3 ⟨by omega, by omega⟩ ⟨by omega, by omega⟩ _) ?_
    rintro _ T3 ⟨hHT3, w78, z77, rfl, w77, w75, w76⟩
    have hFT3 : FR md_re_startDefinition__2 S T3 := FR.tr hFT1 w78 rfl
    show Rl _ _ _ _ _ [iv z77] _ _
    refine l_ireturn rfl (retI_z (by omega)) ?_
    have w79 : Xi T3 5 3 = Xi S 5 3 := (show Xi T3 5 3 = Xi T1 5 3 from w78.x _ _ rfl).trans ((show Xi T1 5 3 = Xi S 5 3 from w39.x _ _ rfl))
    have w80 : 0 ≤ Xi S 5 3 ∧ Xi S 5 3 ≤ 24 := hH.c _ _
    have w81 : 0 ≤ Xi T3 876 8 ∧ Xi T3 876 8 ≤ 9 := hHT3.c _ _
    have w84 : Xi T3 895 4 = Xi T1 895 4 := (show Xi T3 895 4 = Xi T1 895 4 from w78.x _ _ rfl)
    have w85 : -1 ≤ Xi T1 895 4 ∧ Xi T1 895 4 ≤ 15 := hHT1.c _ _
    exact ⟨hHT3, hFT3, _, rfl, ⟨by omega, by omega⟩, (by first | assumption | omega), (by omega), (by omega)⟩
def md_re_endDefinition : List rec := [(1, 2, 3, 4), (2, 3, 0, 100000), (3, 4, 0, 100000), (4, 5, 0, 100000), (5, 6, 0, 100000), (10, 11, 0, 100000), (11, 12, 0, 100000), (12, 13, 0, 100000), (13, 14, 0, 100000)]
abbrev Q_re_endDefinition (S : sS) : pst := fun r S1 => HI S1 ∧ FR md_re_endDefinition S S1 ∧ (∃ z : Int, r = some (iv z) ∧ (0 ≤ z ∧ z ≤ 1) ∧ (WI S1) ∧ (z = 1))
set_option maxRecDepth 100000 in
theorem t_re_endDefinition {S : sS} (hH : HI S) (hX : WX S) (hc3 : Xi S 5 3 < 24) (hs : 0 ≤ Xi S 895 4) (hcc : Xi S 246 5 ≤ 19 * Xi S 246 2 + 6 * (Xi S 5 3 + 1)) (h6 : Xi S 899 6 ≤ Xi S 246 5 ∧ Xi S 246 5 ≤ 600) (ht : ∀ i : Nat, (i : Int) < Xi S 899 6 → TSok S True ((Xi S 246 5 - Xi S 899 6).toNat + i)) (d : Nat) : Mt lay0 (d + 4) m_re_endDefinition [.ref 891] S (Q_re_endDefinition S) := by
  refine Mt_R rfl rfl ?_
  have hF : FR md_re_endDefinition S S := FR.rf
  have w1 : 0 ≤ Xi S 246 2 ∧ Xi S 246 2 ≤ 24 := hH.c _ _
  have w2 : 0 ≤ Xi S 246 5 ∧ Xi S 246 5 ≤ 200000 := hH.c _ _
  have w3 : 0 ≤ Xi S 5 3 ∧ Xi S 5 3 ≤ 24 := hH.c _ _
  have w4 : -1 ≤ Xi S 895 4 ∧ Xi S 895 4 ≤ 15 := hH.c _ _
  have w5 : 0 ≤ Xi S 899 6 ∧ Xi S 899 6 ≤ 6 := hH.c _ _
  have hL := hX.1
  have h06 : 0 ≤ Xi S 899 6 ∧ Xi S 899 6 ≤ 6 := hH.c _ _
  refine l_aload_n rfl rfl ?_
  refine l_gfr rfl rfl rfl rfl rfl (hH.r 891 2 1 rfl) ?_
  refine l_iconst rfl ?_
  refine l_aload_n rfl rfl ?_
  refine l_gfr rfl rfl rfl rfl rfl (hH.r 891 0 876 rfl) ?_
  refine l_gfr rfl rfl rfl rfl rfl (hH.r 876 2 879 rfl) ?_
  refine l_aload_n rfl rfl ?_
  refine l_gfr rfl rfl rfl rfl rfl (hH.r 891 7 892 rfl) ?_
  refine l_iconst rfl ?_
  refine l_iaload (n := 24) rfl rfl (by omega) (by omega) (by unfold rg; omega) ?_
  have w6 : 0 ≤ (Xi S 892 ((0 : Int).toNat)) ∧ (Xi S 892 ((0 : Int).toNat)) ≤ 5130 := hH.c _ _
  have w7 : (Xi S 892 ((0 : Int).toNat)) = Xi S 892 0 := rfl
  refine l_aload_n rfl rfl ?_
  refine l_gfr rfl rfl rfl rfl rfl (hH.r 891 8 893 rfl) ?_
  refine l_iconst rfl ?_
  refine l_iaload (n := 24) rfl rfl (by omega) (by omega) (by unfold rg; omega) ?_
  have w8 : 0 ≤ (Xi S 893 ((0 : Int).toNat)) ∧ (Xi S 893 ((0 : Int).toNat)) ≤ 5130 := hH.c _ _
  refine l_callV rfl rfl rfl (t_vo_tellNew hH 3 879 5130 (Xi S 892 ((0 : Int).toNat)) (Xi S 893 ((0 : Int).toNat)) ⟨by omega, by omega⟩ rfl ⟨by omega, by omega⟩ ⟨by omega, by omega⟩ ⟨by omega, by omega⟩ (by first | assumption | exact (by first | assumption | exact (by assumption : WI S).1 : LEX S)) (show Xi S 5 3 + 1 ≤ 24 by first | omega | (have hz : Xi S 5 3 = Xi S 5 (3 : Int).toNat := rfl; omega)) (by first | assumption | omega) _) ?_
  rintro _ T1 ⟨hHT1, w19, z18, rfl, w18, w13, w14, w15, w16, w17⟩
  have hFT1 : FR md_re_endDefinition S T1 := FR.tr hF w19 rfl
  show Rl _ _ _ _ _ [iv z18] _ _
  have z24 : z18 = Xi S 5 3 := by have t := (by assumption : z18 = Xi S 5 (3 : Int).toNat); exact t
  have c24 : Xi T1 5 3 = Xi S 5 3 + 1 := by have t := (by assumption : Xi T1 5 (3 : Int).toNat = Xi S 5 (3 : Int).toNat + 1); exact t
  have o24 : ∀ j, j ≠ 3 → Xi T1 5 j = Xi S 5 j := by have t := (by assumption : ∀ j, j ≠ (3 : Int).toNat → Xi T1 5 j = Xi S 5 j); exact t
  have l24 : LEX T1 := by assumption
  have e24 : ∀ j, Xi T1 11 j = Xi S 11 j ∧ Xi T1 12 j = Xi S 12 j ∧ Xi T1 13 j = Xi S 13 j := fun j => ⟨((by assumption : FR md_vo_tellNew S T1).cx 11 rfl j).1, ((by assumption : FR md_vo_tellNew S T1).cx 12 rfl j).1, ((by assumption : FR md_vo_tellNew S T1).cx 13 rfl j).1⟩
  refine l_istore_n rfl rfl rfl ?_
  refine l_aload_n rfl rfl ?_
  refine l_gfr rfl rfl rfl rfl rfl (hHT1.r 891 2 1 rfl) ?_
  refine l_gfr rfl rfl rfl rfl rfl (hHT1.r 1 9 10 rfl) ?_
  refine l_iload_n rfl rfl ?_
  refine l_aload_n rfl rfl ?_
  refine l_gfr rfl rfl rfl rfl rfl (hHT1.r 891 4 895 rfl) ?_
  refine l_gfi rfl rfl rfl rfl rfl ?_
  have w20 : (Xi T1 895 4) = (Xi S 895 4) := (show Xi T1 895 4 = Xi S 895 4 from w19.x _ _ rfl)
  rw [w20]
  refine l_iastore (n := 24) rfl rfl (by omega) (by omega) (by unfold rg; omega) ?_
  obtain ⟨U2, eU2⟩ : ∃ T : sS, T = uI T1 10 ((z18).toNat) (Int32.ofInt (Xi S 895 4)) := ⟨_, rfl⟩
  rw [← eU2]
  have hHU2 : HI U2 := by rw [eU2]; exact HI_w hHT1 (show 0 ≤ (Xi S 895 4) by omega) (show (Xi S 895 4) ≤ 15 by omega)
  have hFU2 : FR md_re_endDefinition S U2 := by rw [eU2]; exact FR.wI hFT1 (mdf_i (r := (10, 11, 0, 100000)) (List.mem_of_getElem? (i := 5) rfl) (inR_i (by omega) (by omega) (by omega) (by omega)))
  have w21 : Xi U2 10 ((z18).toNat) = (Xi S 895 4) := by rw [eU2]; exact Xi_same (by unfold rg; omega)
  have q43 : ∀ k j, k ≠ 10 → Xi U2 k j = Xi T1 k j := fun k j hk => by rw [eU2, Xi_ne (by omega)]
  have l43 : LEX U2 := LEX_FR (FR_e eU2) rfl rfl l24
  refine l_aload_n rfl rfl ?_
  refine l_gfr rfl rfl rfl rfl rfl (hHU2.r 891 2 1 rfl) ?_
  refine l_gfr rfl rfl rfl rfl rfl (hHU2.r 1 10 11 rfl) ?_
  refine l_iload_n rfl rfl ?_
  refine l_iconst rfl ?_
  refine l_iastore (n := 24) rfl rfl (by omega) (by omega) (by unfold rg; omega) ?_
  obtain ⟨U3, eU3⟩ : ∃ T : sS, T = uI U2 11 ((z18).toNat) (Int32.ofInt (-1)) := ⟨_, rfl⟩
  rw [← eU3]
  have hHU3 : HI U3 := by rw [eU3]; exact HI_w hHU2 (show -1 ≤ (-1) by omega) (show (-1) ≤ 23 by omega)
  have hFU3 : FR md_re_endDefinition S U3 := by rw [eU3]; exact FR.wI hFU2 (mdf_i (r := (11, 12, 0, 100000)) (List.mem_of_getElem? (i := 6) rfl) (inR_i (by omega) (by omega) (by omega) (by omega)))
  have w22 : Xi U3 11 ((z18).toNat) = (-1) := by rw [eU3]; exact Xi_same (by unfold rg; omega)
  have q53 : ∀ k j, k ≠ 11 → Xi U3 k j = Xi U2 k j := fun k j hk => by rw [eU3, Xi_ne (by omega)]
  have r53 : ∀ j : Nat, j ≠ (z18).toNat → Xi U3 11 j = Xi U2 11 j := fun j hj => by rw [eU3, Xi_ne (by omega)]
  have l53 : LEX U3 := LEX_FR (FR_e eU3) rfl rfl l43
  refine l_aload_n rfl rfl ?_
  refine l_gfr rfl rfl rfl rfl rfl (hHU3.r 891 5 899 rfl) ?_
  refine l_iload_n rfl rfl ?_
  have w23 : Xi U3 246 5 = Xi S 246 5 := (show Xi U3 246 5 = Xi U2 246 5 from by rw [eU3]; exact Xi_ne (by omega)).trans ( (show Xi U2 246 5 = Xi T1 246 5 from by rw [eU2]; exact Xi_ne (by omega)).trans ((show Xi T1 246 5 = Xi S 246 5 from w19.x _ _ rfl)))
  have w27 : Xi U3 899 6 = Xi S 899 6 := (show Xi U3 899 6 = Xi U2 899 6 from by rw [eU3]; exact Xi_ne (by omega)).trans ( (show Xi U2 899 6 = Xi T1 899 6 from by rw [eU2]; exact Xi_ne (by omega)).trans ((show Xi T1 899 6 = Xi S 899 6 from w19.x _ _ rfl)))
  refine l_callV rfl rfl rfl (t_rr_keepTests hHU3 z18 ⟨by omega, by omega⟩ _) ?_
  rintro _ T4 ⟨hHT4, w32, rfl, w29, w30⟩
  have hFT4 : FR md_re_endDefinition S T4 := FR.tr hFU3 w32 rfl
  show Rl _ _ _ _ _ [] _ _
  have l59 : LEX T4 := LEX_FR (by assumption : FR md_rr_keepTests U3 T4) rfl rfl l53
  have q59 : ∀ j, Xi T4 5 j = Xi U3 5 j ∧ Xi T4 11 j = Xi U3 11 j := fun j => ⟨((by assumption : FR md_rr_keepTests U3 T4).cx 5 rfl j).1, ((by assumption : FR md_rr_keepTests U3 T4).cx 11 rfl j).1⟩
  have p59 : ∀ j, Xi T4 5 j = Xi T1 5 j := fun j => ((q59 j).1.trans (q53 5 j (by decide))).trans (q43 5 j (by decide))
  have a59 : Xi T4 12 (z18).toNat = Xi U3 246 5 - Xi U3 899 6 ∧ Xi T4 13 (z18).toNat = Xi U3 899 6 := by assumption
  have b59 : ∀ j : Nat, j ≠ (z18).toNat → Xi T4 12 j = Xi U3 12 j ∧ Xi T4 13 j = Xi U3 13 j := by assumption
  have k59 : ∀ j : Nat, j ≠ (z18).toNat → Xi T4 11 j = Xi S 11 j ∧ Xi T4 12 j = Xi S 12 j ∧ Xi T4 13 j = Xi S 13 j := fun j hj => ⟨((q59 j).2.trans (r53 j hj)).trans ((q43 11 j (by decide)).trans (e24 j).1), ((b59 j hj).1.trans (q53 12 j (by decide))).trans ((q43 12 j (by decide)).trans (e24 j).2.1), ((b59 j hj).2.trans (q53 13 j (by decide))).trans ((q43 13 j (by decide)).trans (e24 j).2.2)⟩
  have w59 : WI T4 := WI_df hH hFT4 rfl rfl rfl rfl rfl l59 (fun j hj => (p59 j).trans (o24 j hj)) ((p59 3).trans c24) z24 k59 (by omega) (by omega) (by omega) ht hcc hX
  refine l_iconst rfl ?_
  refine l_ireturn rfl rfl ?_
  exact ⟨hHT4, hFT4, _, rfl, ⟨by omega, by omega⟩, (w59), (by omega)⟩


