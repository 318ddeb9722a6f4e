/-! SAFETY of methods: printed by wip/safe (vc.py, decl.py) -/
def md_mo_nows : List rec := [(925, 926, 0, 100000), (930, 931, 0, 100000), (931, 932, 0, 100000), (932, 933, 0, 100000), (940, 941, 0, 100000)]
abbrev Q_mo_nows (S : sS) (q : Int) (noun : Int) : pst := fun r S1 => HI S1 ∧ FR md_mo_nows S S1 ∧ (r = none ∧ (TXM S1))
set_option maxRecDepth 100000 in
theorem t_mo_nows {S : sS} (hH : HI S) (q : Int) (noun : Int) (hq : 0 ≤ q ∧ q ≤ 2399) (hnoun : -1 ≤ noun ∧ noun ≤ 23) (hk : NQ S (0 ≤ noun) q.toNat) (h2 : noun < Xi S 904 19) (hX : TXM S) (d : Nat) : Mt lay0 (d + 2) m_mo_nows [.ref 904, iv q, iv noun] S (Q_mo_nows S q noun) := by
  refine Mt_R rfl rfl ?_
  have hF : FR md_mo_nows S S := FR.rf
  have w1 : 0 ≤ Xi S 904 19 ∧ Xi S 904 19 ≤ 24 := hH.c _ _
  have hc3 : 0 ≤ Xi S 904 23 ∧ Xi S 904 23 ≤ 24 := hH.c _ _
  have hc19 : 0 ≤ Xi S 904 19 ∧ Xi S 904 19 ≤ 24 := hH.c _ _
  have hc32 : 0 ≤ Xi S 904 32 ∧ Xi S 904 32 ≤ 12 := hH.c _ _
  have hk1 := hk.1
  have hk2 := hk.2.1
  have hpr : Xi S 969 q.toNat ≤ 2 → 0 ≤ Xi S 972 q.toNat ∧ Xi S 972 q.toNat < Xi S 904 32 := hk1.2.2.2.1
  have had : Xi S 969 q.toNat = 3 → (0 ≤ Xi S 973 q.toNat ∧ Xi S 973 q.toNat < Xi S 904 23) ∨ (100 ≤ Xi S 973 q.toNat ∧ Xi S 973 q.toNat % 100 < Xi S 904 32 ∧ Xi S 973 q.toNat ≤ 6411) := hk1.2.2.1
  have hct : Xi S 969 q.toNat = 3 → Xi S 973 q.toNat < 100 → Xi S 922 (Xi S 973 q.toNat).toNat ≠ -1 := hk.2.2
  have C46 : ∀ (n46 : Nat) (T1 : sS) (_ : HI T1) (_ : FR md_mo_nows S T1) (v3 : Int) (v4 : Int) (v5 : Int) (v6 : Int), (0 ≤ v3 ∧ v3 ≤ 23) → (0 ≤ v4 ∧ v4 ≤ 5) → (0 ≤ v5 ∧ v5 ≤ 23) → (0 ≤ v6 ∧ v6 ≤ 24) → (TXM T1) → n46 = (25 - v6).toNat → Rl lay0 (d + 1) m_mo_nows 46 [(0, .ref 904), (3, iv v3), (4, iv v4), (5, iv v5), (6, iv v6)] [] T1 (Q_mo_nows S q noun) := by
    intro n46
    induction n46 using Nat.strongRecOn with
    | ind n46 ih46 =>
      intro T1 hHT1 hFT1 v3 v4 v5 v6 w2 w3 w4 w5 hX46 hm46
      have w6 : Xi T1 904 19 = Xi S 904 19 := hFT1.x _ _ rfl
      refine l_iload rfl rfl ?_
      refine l_aload_n rfl rfl ?_
      refine l_gfi rfl rfl rfl rfl rfl ?_
      refine l_icmp_ge rfl rfl (by unfold rg; omega) (by unfold rg; omega) (fun w7 => ?_) (fun w8 => ?_)
      · refine l_aload_n rfl rfl ?_
        refine l_gfr rfl rfl rfl rfl rfl (hHT1.r 904 46 940 rfl) ?_
        refine l_sipush rfl rfl ?_
        refine l_iload rfl rfl ?_
        refine l_imul rfl ?_
        refine l_bipush rfl rfl ?_
        refine l_iload_n rfl rfl ?_
        refine l_imul rfl ?_
        refine l_iadd rfl ?_
        refine l_iload rfl rfl ?_
        refine l_iadd rfl ?_
        refine l_iconst rfl ?_
        refine l_bastoreZ1 (n := 3456) rfl rfl (by omega) (by omega) (by unfold rg; omega) ⟨by omega, by omega⟩ ?_
        obtain ⟨U2, eU2⟩ : ∃ T : sS, T = uI T1 940 (((((576 * v4) + (24 * v3)) + v5)).toNat) (Int32.ofInt 1) := ⟨_, rfl⟩
        rw [← eU2]
        have hHU2 : HI U2 := by rw [eU2]; exact HI_w hHT1 (show 0 ≤ 1 by omega) (show 1 ≤ 1 by omega)
        have hFU2 : FR md_mo_nows S U2 := by rw [eU2]; exact FR.wI hFT1 (mdf_i (r := (940, 941, 0, 100000)) (List.mem_of_getElem? (i := 4) rfl) (inR_i (by omega) (by omega) (by omega) (by omega)))
        have w9 : Xi U2 940 (((((576 * v4) + (24 * v3)) + v5)).toNat) = 1 := by rw [eU2]; exact Xi_same (by unfold rg; omega)
        refine l_goto rfl rfl ?_
        refine l_return rfl rfl ?_
        exact ⟨hHU2, hFU2, rfl, (by first | exact x416 | assumption | exact TXM_FR (FR_e eU2) rfl (by first | assumption | exact TXM_FR (FR_e ) rfl hX))⟩
      · refine l_aload_n rfl rfl ?_
        refine l_gfr rfl rfl rfl rfl rfl (hHT1.r 904 46 940 rfl) ?_
        refine l_sipush rfl rfl ?_
        refine l_iload rfl rfl ?_
        refine l_imul rfl ?_
        refine l_bipush rfl rfl ?_
        refine l_iload rfl rfl ?_
        refine l_imul rfl ?_
        refine l_iadd rfl ?_
        refine l_iload rfl rfl ?_
        refine l_iadd rfl ?_
        refine l_aload_n rfl rfl ?_
        refine l_gfr rfl rfl rfl rfl rfl (hHT1.r 904 46 940 rfl) ?_
        refine l_sipush rfl rfl ?_
        refine l_iload rfl rfl ?_
        refine l_imul rfl ?_
        refine l_bipush rfl rfl ?_
        refine l_iload rfl rfl ?_
        refine l_imul rfl ?_
        refine l_iadd rfl ?_
        refine l_iload rfl rfl ?_
        refine l_iadd rfl ?_
        refine l_baload (n := 3456) rfl rfl rfl (by decide) (by omega) (by omega) (by unfold rg; omega) ?_
        have w10 : 0 ≤ (Xi T1 940 (((((576 * v4) + (24 * v6)) + v5)).toNat)) ∧ (Xi T1 940 (((((576 * v4) + (24 * v6)) + v5)).toNat)) ≤ 1 := hHT1.c _ _
        refine l_if_eq rfl rfl (by unfold rg; omega) (fun w11 => ?_) (fun w12 => ?_)
        · refine l_iconst rfl ?_
          refine l_bastoreZ1 (n := 3456) rfl rfl (by omega) (by omega) (by unfold rg; omega) ⟨by omega, by omega⟩ ?_
          obtain ⟨U3, eU3⟩ : ∃ T : sS, T = uI T1 940 (((((576 * v4) + (24 * v6)) + v5)).toNat) (Int32.ofInt 0) := ⟨_, rfl⟩
          rw [← eU3]
          have hHU3 : HI U3 := by rw [eU3]; exact HI_w hHT1 (show 0 ≤ 0 by omega) (show 0 ≤ 1 by omega)
          have hFU3 : FR md_mo_nows S U3 := by rw [eU3]; exact FR.wI hFT1 (mdf_i (r := (940, 941, 0, 100000)) (List.mem_of_getElem? (i := 4) rfl) (inR_i (by omega) (by omega) (by omega) (by omega)))
          have w13 : Xi U3 940 (((((576 * v4) + (24 * v6)) + v5)).toNat) = 0 := by rw [eU3]; exact Xi_same (by unfold rg; omega)
          refine l_aload_n rfl rfl ?_
          refine l_gfr rfl rfl rfl rfl rfl (hHU3.r 904 46 940 rfl) ?_
          refine l_sipush rfl rfl ?_
          refine l_iload rfl rfl ?_
          refine l_imul rfl ?_
          refine l_bipush rfl rfl ?_
          refine l_iload_n rfl rfl ?_
          refine l_imul rfl ?_
          refine l_iadd rfl ?_
          refine l_iload rfl rfl ?_
          refine l_iadd rfl ?_
          refine l_aload_n rfl rfl ?_
          refine l_gfr rfl rfl rfl rfl rfl (hHU3.r 904 46 940 rfl) ?_
          refine l_sipush rfl rfl ?_
          refine l_iload rfl rfl ?_
          refine l_imul rfl ?_
          refine l_bipush rfl rfl ?_
          refine l_iload_n rfl rfl ?_
          refine l_imul rfl ?_
          refine l_iadd rfl ?_
          refine l_iload rfl rfl ?_
          refine l_iadd rfl ?_
          refine l_baload (n := 3456) rfl rfl rfl (by decide) (by omega) (by omega) (by unfold rg; omega) ?_
          have w14 : 0 ≤ (Xi U3 940 (((((576 * v4) + (24 * v3)) + v6)).toNat)) ∧ (Xi U3 940 (((((576 * v4) + (24 * v3)) + v6)).toNat)) ≤ 1 := hHU3.c _ _
          refine l_if_eq rfl rfl (by unfold rg; omega) (fun w15 => ?_) (fun w16 => ?_)
          · refine l_iconst rfl ?_
            refine l_bastoreZ1 (n := 3456) rfl rfl (by omega) (by omega) (by unfold rg; omega) ⟨by omega, by omega⟩ ?_
            obtain ⟨U4, eU4⟩ : ∃ T : sS, T = uI U3 940 (((((576 * v4) + (24 * v3)) + v6)).toNat) (Int32.ofInt 0) := ⟨_, rfl⟩
            rw [← eU4]
            have hHU4 : HI U4 := by rw [eU4]; exact HI_w hHU3 (show 0 ≤ 0 by omega) (show 0 ≤ 1 by omega)
            have hFU4 : FR md_mo_nows S U4 := by rw [eU4]; exact FR.wI hFU3 (mdf_i (r := (940, 941, 0, 100000)) (List.mem_of_getElem? (i := 4) rfl) (inR_i (by omega) (by omega) (by omega) (by omega)))
            have w17 : Xi U4 940 (((((576 * v4) + (24 * v3)) + v6)).toNat) = 0 := by rw [eU4]; exact Xi_same (by unfold rg; omega)
            refine l_iinc rfl rfl rfl rfl ?_
            refine l_goto rfl rfl ?_
            exact Rl_weak (ih46 _ (by omega) U4 hHU4 hFU4 (v3) (v4) (v5) ((v6 + 1)) (by omega) (by omega) (by omega) (by omega) (by first | assumption | exact (TXM_FR (FR_e eU4) rfl (TXM_FR (FR_e eU3) rfl (by assumption : TXM T1)))) rfl) (And.intro rfl (And.intro rfl (And.intro rfl (And.intro rfl (And.intro rfl (True.intro))))))
          · refine l_aload_n rfl rfl ?_
            refine l_gfr rfl rfl rfl rfl rfl (hHU3.r 904 45 939 rfl) ?_
            refine l_iload rfl rfl ?_
            refine l_baload (n := 6) rfl rfl rfl (by decide) (by omega) (by omega) (by unfold rg; omega) ?_
            have w18 : 0 ≤ (Xi U3 939 ((v4).toNat)) ∧ (Xi U3 939 ((v4).toNat)) ≤ 1 := hHU3.c _ _
            refine l_if_eq rfl rfl (by unfold rg; omega) (fun w19 => ?_) (fun w20 => ?_)
            · refine l_iconst rfl ?_
              refine l_goto rfl rfl ?_
              refine l_bastoreZ1 (n := 3456) rfl rfl (by omega) (by omega) (by unfold rg; omega) ⟨by omega, by omega⟩ ?_
              obtain ⟨U5, eU5⟩ : ∃ T : sS, T = uI U3 940 (((((576 * v4) + (24 * v3)) + v6)).toNat) (Int32.ofInt 1) := ⟨_, rfl⟩
              rw [← eU5]
              have hHU5 : HI U5 := by rw [eU5]; exact HI_w hHU3 (show 0 ≤ 1 by omega) (show 1 ≤ 1 by omega)
              have hFU5 : FR md_mo_nows S U5 := by rw [eU5]; exact FR.wI hFU3 (mdf_i (r := (940, 941, 0, 100000)) (List.mem_of_getElem? (i := 4) rfl) (inR_i (by omega) (by omega) (by omega) (by omega)))
              have w21 : Xi U5 940 (((((576 * v4) + (24 * v3)) + v6)).toNat) = 1 := by rw [eU5]; exact Xi_same (by unfold rg; omega)
              refine l_iinc rfl rfl rfl rfl ?_
              refine l_goto rfl rfl ?_
              exact Rl_weak (ih46 _ (by omega) U5 hHU5 hFU5 (v3) (v4) (v5) ((v6 + 1)) (by omega) (by omega) (by omega) (by omega) (by first | assumption | exact (TXM_FR (FR_e eU5) rfl (TXM_FR (FR_e eU3) rfl (by assumption : TXM T1)))) rfl) (And.intro rfl (And.intro rfl (And.intro rfl (And.intro rfl (And.intro rfl (True.intro))))))
            · refine l_iload rfl rfl ?_
              refine l_iload rfl rfl ?_
              refine l_icmp_ne rfl rfl (by unfold rg; omega) (by unfold rg; omega) (fun w22 => ?_) (fun w23 => ?_)
              · refine l_iconst rfl ?_
                refine l_bastoreZ1 (n := 3456) rfl rfl (by omega) (by omega) (by unfold rg; omega) ⟨by omega, by omega⟩ ?_
                obtain ⟨U6, eU6⟩ : ∃ T : sS, T = uI U3 940 (((((576 * v4) + (24 * v3)) + v6)).toNat) (Int32.ofInt 0) := ⟨_, rfl⟩
                rw [← eU6]
                have hHU6 : HI U6 := by rw [eU6]; exact HI_w hHU3 (show 0 ≤ 0 by omega) (show 0 ≤ 1 by omega)
                have hFU6 : FR md_mo_nows S U6 := by rw [eU6]; exact FR.wI hFU3 (mdf_i (r := (940, 941, 0, 100000)) (List.mem_of_getElem? (i := 4) rfl) (inR_i (by omega) (by omega) (by omega) (by omega)))
                have w24 : Xi U6 940 (((((576 * v4) + (24 * v3)) + v6)).toNat) = 0 := by rw [eU6]; exact Xi_same (by unfold rg; omega)
                refine l_iinc rfl rfl rfl rfl ?_
                refine l_goto rfl rfl ?_
                exact Rl_weak (ih46 _ (by omega) U6 hHU6 hFU6 (v3) (v4) (v5) ((v6 + 1)) (by omega) (by omega) (by omega) (by omega) (by first | assumption | exact (TXM_FR (FR_e eU6) rfl (TXM_FR (FR_e eU3) rfl (by assumption : TXM T1)))) rfl) (And.intro rfl (And.intro rfl (And.intro rfl (And.intro rfl (And.intro rfl (True.intro))))))
              · refine l_iconst rfl ?_
                refine l_goto rfl rfl ?_
                refine l_bastoreZ1 (n := 3456) rfl rfl (by omega) (by omega) (by unfold rg; omega) ⟨by omega, by omega⟩ ?_
                obtain ⟨U7, eU7⟩ : ∃ T : sS, T = uI U3 940 (((((576 * v4) + (24 * v3)) + v6)).toNat) (Int32.ofInt 1) := ⟨_, rfl⟩
                rw [← eU7]
                have hHU7 : HI U7 := by rw [eU7]; exact HI_w hHU3 (show 0 ≤ 1 by omega) (show 1 ≤ 1 by omega)
                have hFU7 : FR md_mo_nows S U7 := by rw [eU7]; exact FR.wI hFU3 (mdf_i (r := (940, 941, 0, 100000)) (List.mem_of_getElem? (i := 4) rfl) (inR_i (by omega) (by omega) (by omega) (by omega)))
                have w25 : Xi U7 940 (((((576 * v4) + (24 * v3)) + v6)).toNat) = 1 := by rw [eU7]; exact Xi_same (by unfold rg; omega)
                refine l_iinc rfl rfl rfl rfl ?_
                refine l_goto rfl rfl ?_
                exact Rl_weak (ih46 _ (by omega) U7 hHU7 hFU7 (v3) (v4) (v5) ((v6 + 1)) (by omega) (by omega) (by omega) (by omega) (by first | assumption | exact (TXM_FR (FR_e eU7) rfl (TXM_FR (FR_e eU3) rfl (by assumption : TXM T1)))) rfl) (And.intro rfl (And.intro rfl (And.intro rfl (And.intro rfl (And.intro rfl (True.intro))))))
        · refine l_aload_n rfl rfl ?_
          refine l_gfr rfl rfl rfl rfl rfl (hHT1.r 904 44 938 rfl) ?_
          refine l_iload rfl rfl ?_
          refine l_baload (n := 6) rfl rfl rfl (by decide) (by omega) (by omega) (by unfold rg; omega) ?_
          have w26 : 0 ≤ (Xi T1 938 ((v4).toNat)) ∧ (Xi T1 938 ((v4).toNat)) ≤ 1 := hHT1.c _ _
          refine l_if_eq rfl rfl (by unfold rg; omega) (fun w27 => ?_) (fun w28 => ?_)
          · refine l_iconst rfl ?_
            refine l_goto rfl rfl ?_
            refine l_bastoreZ1 (n := 3456) rfl rfl (by omega) (by omega) (by unfold rg; omega) ⟨by omega, by omega⟩ ?_
            obtain ⟨U8, eU8⟩ : ∃ T : sS, T = uI T1 940 (((((576 * v4) + (24 * v6)) + v5)).toNat) (Int32.ofInt 1) := ⟨_, rfl⟩
            rw [← eU8]
            have hHU8 : HI U8 := by rw [eU8]; exact HI_w hHT1 (show 0 ≤ 1 by omega) (show 1 ≤ 1 by omega)
            have hFU8 : FR md_mo_nows S U8 := by rw [eU8]; exact FR.wI hFT1 (mdf_i (r := (940, 941, 0, 100000)) (List.mem_of_getElem? (i := 4) rfl) (inR_i (by omega) (by omega) (by omega) (by omega)))
            have w29 : Xi U8 940 (((((576 * v4) + (24 * v6)) + v5)).toNat) = 1 := by rw [eU8]; exact Xi_same (by unfold rg; omega)
            refine l_aload_n rfl rfl ?_
            refine l_gfr rfl rfl rfl rfl rfl (hHU8.r 904 46 940 rfl) ?_
            refine l_sipush rfl rfl ?_
            refine l_iload rfl rfl ?_
            refine l_imul rfl ?_
            refine l_bipush rfl rfl ?_
            refine l_iload_n rfl rfl ?_
            refine l_imul rfl ?_
            refine l_iadd rfl ?_
            refine l_iload rfl rfl ?_
            refine l_iadd rfl ?_
            refine l_aload_n rfl rfl ?_
            refine l_gfr rfl rfl rfl rfl rfl (hHU8.r 904 46 940 rfl) ?_
            refine l_sipush rfl rfl ?_
            refine l_iload rfl rfl ?_
            refine l_imul rfl ?_
            refine l_bipush rfl rfl ?_
            refine l_iload_n rfl rfl ?_
            refine l_imul rfl ?_
            refine l_iadd rfl ?_
            refine l_iload rfl rfl ?_
            refine l_iadd rfl ?_
            refine l_baload (n := 3456) rfl rfl rfl (by decide) (by omega) (by omega) (by unfold rg; omega) ?_
            have w30 : 0 ≤ (Xi U8 940 (((((576 * v4) + (24 * v3)) + v6)).toNat)) ∧ (Xi U8 940 (((((576 * v4) + (24 * v3)) + v6)).toNat)) ≤ 1 := hHU8.c _ _
            refine l_if_eq rfl rfl (by unfold rg; omega) (fun w31 => ?_) (fun w32 => ?_)
            · refine l_iconst rfl ?_
              refine l_bastoreZ1 (n := 3456) rfl rfl (by omega) (by omega) (by unfold rg; omega) ⟨by omega, by omega⟩ ?_
              obtain ⟨U9, eU9⟩ : ∃ T : sS, T = uI U8 940 (((((576 * v4) + (24 * v3)) + v6)).toNat) (Int32.ofInt 0) := ⟨_, rfl⟩
              rw [← eU9]
              have hHU9 : HI U9 := by rw [eU9]; exact HI_w hHU8 (show 0 ≤ 0 by omega) (show 0 ≤ 1 by omega)
              have hFU9 : FR md_mo_nows S U9 := by rw [eU9]; exact FR.wI hFU8 (mdf_i (r := (940, 941, 0, 100000)) (List.mem_of_getElem? (i := 4) rfl) (inR_i (by omega) (by omega) (by omega) (by omega)))
              have w33 : Xi U9 940 (((((576 * v4) + (24 * v3)) + v6)).toNat) = 0 := by rw [eU9]; exact Xi_same (by unfold rg; omega)
              refine l_iinc rfl rfl rfl rfl ?_
              refine l_goto rfl rfl ?_
              exact Rl_weak (ih46 _ (by omega) U9 hHU9 hFU9 (v3) (v4) (v5) ((v6 + 1)) (by omega) (by omega) (by omega) (by omega) (by first | assumption | exact (TXM_FR (FR_e eU9) rfl (TXM_FR (FR_e eU8) rfl (by assumption : TXM T1)))) rfl) (And.intro rfl (And.intro rfl (And.intro rfl (And.intro rfl (And.intro rfl (True.intro))))))
            · refine l_aload_n rfl rfl ?_
              refine l_gfr rfl rfl rfl rfl rfl (hHU8.r 904 45 939 rfl) ?_
              refine l_iload rfl rfl ?_
              refine l_baload (n := 6) rfl rfl rfl (by decide) (by omega) (by omega) (by unfold rg; omega) ?_
              have w34 : 0 ≤ (Xi U8 939 ((v4).toNat)) ∧ (Xi U8 939 ((v4).toNat)) ≤ 1 := hHU8.c _ _
              refine l_if_eq rfl rfl (by unfold rg; omega) (fun w35 => ?_) (fun w36 => ?_)
              · refine l_iconst rfl ?_
                refine l_goto rfl rfl ?_
                refine l_bastoreZ1 (n := 3456) rfl rfl (by omega) (by omega) (by unfold rg; omega) ⟨by omega, by omega⟩ ?_
                obtain ⟨U10, eU10⟩ : ∃ T : sS, T = uI U8 940 (((((576 * v4) + (24 * v3)) + v6)).toNat) (Int32.ofInt 1) := ⟨_, rfl⟩
                rw [← eU10]
                have hHU10 : HI U10 := by rw [eU10]; exact HI_w hHU8 (show 0 ≤ 1 by omega) (show 1 ≤ 1 by omega)
                have hFU10 : FR md_mo_nows S U10 := by rw [eU10]; exact FR.wI hFU8 (mdf_i (r := (940, 941, 0, 100000)) (List.mem_of_getElem? (i := 4) rfl) (inR_i (by omega) (by omega) (by omega) (by omega)))
                have w37 : Xi U10 940 (((((576 * v4) + (24 * v3)) + v6)).toNat) = 1 := by rw [eU10]; exact Xi_same (by unfold rg; omega)
                refine l_iinc rfl rfl rfl rfl ?_
                refine l_goto rfl rfl ?_
                exact Rl_weak (ih46 _ (by omega) U10 hHU10 hFU10 (v3) (v4) (v5) ((v6 + 1)) (by omega) (by omega) (by omega) (by omega) (by first | assumption | exact (TXM_FR (FR_e eU10) rfl (TXM_FR (FR_e eU8) rfl (by assumption : TXM T1)))) rfl) (And.intro rfl (And.intro rfl (And.intro rfl (And.intro rfl (And.intro rfl (True.intro))))))
              · refine l_iload rfl rfl ?_
                refine l_iload rfl rfl ?_
                refine l_icmp_ne rfl rfl (by unfold rg; omega) (by unfold rg; omega) (fun w38 => ?_) (fun w39 => ?_)
                · refine l_iconst rfl ?_
                  refine l_bastoreZ1 (n := 3456) rfl rfl (by omega) (by omega) (by unfold rg; omega) ⟨by omega, by omega⟩ ?_
                  obtain ⟨U11, eU11⟩ : ∃ T : sS, T = uI U8 940 (((((576 * v4) + (24 * v3)) + v6)).toNat) (Int32.ofInt 0) := ⟨_, rfl⟩
                  rw [← eU11]
                  have hHU11 : HI U11 := by rw [eU11]; exact HI_w hHU8 (show 0 ≤ 0 by omega) (show 0 ≤ 1 by omega)
                  have hFU11 : FR md_mo_nows S U11 := by rw [eU11]; exact FR.wI hFU8 (mdf_i (r := (940, 941, 0, 100000)) (List.mem_of_getElem? (i := 4) rfl) (inR_i (by omega) (by omega) (by omega) (by omega)))
                  have w40 : Xi U11 940 (((((576 * v4) + (24 * v3)) + v6)).toNat) = 0 := by rw [eU11]; exact Xi_same (by unfold rg; omega)
                  refine l_iinc rfl rfl rfl rfl ?_
                  refine l_goto rfl rfl ?_
                  exact Rl_weak (ih46 _ (by omega) U11 hHU11 hFU11 (v3) (v4) (v5) ((v6 + 1)) (by omega) (by omega) (by omega) (by omega) (by first | assumption | exact (TXM_FR (FR_e eU11) rfl (TXM_FR (FR_e eU8) rfl (by assumption : TXM T1)))) rfl) (And.intro rfl (And.intro rfl (And.intro rfl (And.intro rfl (And.intro rfl (True.intro))))))
                · refine l_iconst rfl ?_
                  refine l_goto rfl rfl ?_
                  refine l_bastoreZ1 (n := 3456) rfl rfl (by omega) (by omega) (by unfold rg; omega) ⟨by omega, by omega⟩ ?_
                  obtain ⟨U12, eU12⟩ : ∃ T : sS, T = uI U8 940 (((((576 * v4) + (24 * v3)) + v6)).toNat) (Int32.ofInt 1) := ⟨_, rfl⟩
                  rw [← eU12]
                  have hHU12 : HI U12 := by rw [eU12]; exact HI_w hHU8 (show 0 ≤ 1 by omega) (show 1 ≤ 1 by omega)
                  have hFU12 : FR md_mo_nows S U12 := by rw [eU12]; exact FR.wI hFU8 (mdf_i (r := (940, 941, 0, 100000)) (List.mem_of_getElem? (i := 4) rfl) (inR_i (by omega) (by omega) (by omega) (by omega)))
                  have w41 : Xi U12 940 (((((576 * v4) + (24 * v3)) + v6)).toNat) = 1 := by rw [eU12]; exact Xi_same (by unfold rg; omega)
                  refine l_iinc rfl rfl rfl rfl ?_
                  refine l_goto rfl rfl ?_
                  exact Rl_weak (ih46 _ (by omega) U12 hHU12 hFU12 (v3) (v4) (v5) ((v6 + 1)) (by omega) (by omega) (by omega) (by omega) (by first | assumption | exact (TXM_FR (FR_e eU12) rfl (TXM_FR (FR_e eU8) rfl (by assumption : TXM T1)))) rfl) (And.intro rfl (And.intro rfl (And.intro rfl (And.intro rfl (And.intro rfl (True.intro))))))
          · refine l_iload rfl rfl ?_
            refine l_iload_n rfl rfl ?_
            refine l_icmp_ne rfl rfl (by unfold rg; omega) (by unfold rg; omega) (fun w42 => ?_) (fun w43 => ?_)
            · refine l_iconst rfl ?_
              refine l_bastoreZ1 (n := 3456) rfl rfl (by omega) (by omega) (by unfold rg; omega) ⟨by omega, by omega⟩ ?_
              obtain ⟨U13, eU13⟩ : ∃ T : sS, T = uI T1 940 (((((576 * v4) + (24 * v6)) + v5)).toNat) (Int32.ofInt 0) := ⟨_, rfl⟩
              rw [← eU13]
              have hHU13 : HI U13 := by rw [eU13]; exact HI_w hHT1 (show 0 ≤ 0 by omega) (show 0 ≤ 1 by omega)
              have hFU13 : FR md_mo_nows S U13 := by rw [eU13]; exact FR.wI hFT1 (mdf_i (r := (940, 941, 0, 100000)) (List.mem_of_getElem? (i := 4) rfl) (inR_i (by omega) (by omega) (by omega) (by omega)))
              have w44 : Xi U13 940 (((((576 * v4) + (24 * v6)) + v5)).toNat) = 0 := by rw [eU13]; exact Xi_same (by unfold rg; omega)
              refine l_aload_n rfl rfl ?_
              refine l_gfr rfl rfl rfl rfl rfl (hHU13.r 904 46 940 rfl) ?_
              refine l_sipush rfl rfl ?_
              refine l_iload rfl rfl ?_
              refine l_imul rfl ?_
              refine l_bipush rfl rfl ?_
              refine l_iload_n rfl rfl ?_
              refine l_imul rfl ?_
              refine l_iadd rfl ?_
              refine l_iload rfl rfl ?_
              refine l_iadd rfl ?_
              refine l_aload_n rfl rfl ?_
              refine l_gfr rfl rfl rfl rfl rfl (hHU13.r 904 46 940 rfl) ?_
              refine l_sipush rfl rfl ?_
              refine l_iload rfl rfl ?_
              refine l_imul rfl ?_
              refine l_bipush rfl rfl ?_
              refine l_iload_n rfl rfl ?_
              refine l_imul rfl ?_
              refine l_iadd rfl ?_
              refine l_iload rfl rfl ?_
              refine l_iadd rfl ?_
              refine l_baload (n := 3456) rfl rfl rfl (by decide) (by omega) (by omega) (by unfold rg; omega) ?_
              have w45 : 0 ≤ (Xi U13 940 (((((576 * v4) + (24 * v3)) + v6)).toNat)) ∧ (Xi U13 940 (((((576 * v4) + (24 * v3)) + v6)).toNat)) ≤ 1 := hHU13.c _ _
              refine l_if_eq rfl rfl (by unfold rg; omega) (fun w46 => ?_) (fun w47 => ?_)
              · refine l_iconst rfl ?_
                refine l_bastoreZ1 (n := 3456) rfl rfl (by omega) (by omega) (by unfold rg; omega) ⟨by omega, by omega⟩ ?_
                obtain ⟨U14, eU14⟩ : ∃ T : sS, T = uI U13 940 (((((576 * v4) + (24 * v3)) + v6)).toNat) (Int32.ofInt 0) := ⟨_, rfl⟩
                rw [← eU14]
                have hHU14 : HI U14 := by rw [eU14]; exact HI_w hHU13 (show 0 ≤ 0 by omega) (show 0 ≤ 1 by omega)
                have hFU14 : FR md_mo_nows S U14 := by rw [eU14]; exact FR.wI hFU13 (mdf_i (r := (940, 941, 0, 100000)) (List.mem_of_getElem? (i := 4) rfl) (inR_i (by omega) (by omega) (by omega) (by omega)))
                have w48 : Xi U14 940 (((((576 * v4) + (24 * v3)) + v6)).toNat) = 0 := by rw [eU14]; exact Xi_same (by unfold rg; omega)
                refine l_iinc rfl rfl rfl rfl ?_
                refine l_goto rfl rfl ?_
                exact Rl_weak (ih46 _ (by omega) U14 hHU14 hFU14 (v3) (v4) (v5) ((v6 + 1)) (by omega) (by omega) (by omega) (by omega) (by first | assumption | exact (TXM_FR (FR_e eU14) rfl (TXM_FR (FR_e eU13) rfl (by assumption : TXM T1)))) rfl) (And.intro rfl (And.intro rfl (And.intro rfl (And.intro rfl (And.intro rfl (True.intro))))))
              · refine l_aload_n rfl rfl ?_
                refine l_gfr rfl rfl rfl rfl rfl (hHU13.r 904 45 939 rfl) ?_
                refine l_iload rfl rfl ?_
                refine l_baload (n := 6) rfl rfl rfl (by decide) (by omega) (by omega) (by unfold rg; omega) ?_
                have w49 : 0 ≤ (Xi U13 939 ((v4).toNat)) ∧ (Xi U13 939 ((v4).toNat)) ≤ 1 := hHU13.c _ _
                refine l_if_eq rfl rfl (by unfold rg; omega) (fun w50 => ?_) (fun w51 => ?_)
                · refine l_iconst rfl ?_
                  refine l_goto rfl rfl ?_
                  refine l_bastoreZ1 (n := 3456) rfl rfl (by omega) (by omega) (by unfold rg; omega) ⟨by omega, by omega⟩ ?_
                  obtain ⟨U15, eU15⟩ : ∃ T : sS, T = uI U13 940 (((((576 * v4) + (24 * v3)) + v6)).toNat) (Int32.ofInt 1) := ⟨_, rfl⟩
                  rw [← eU15]
                  have hHU15 : HI U15 := by rw [eU15]; exact HI_w hHU13 (show 0 ≤ 1 by omega) (show 1 ≤ 1 by omega)
                  have hFU15 : FR md_mo_nows S U15 := by rw [eU15]; exact FR.wI hFU13 (mdf_i (r := (940, 941, 0, 100000)) (List.mem_of_getElem? (i := 4) rfl) (inR_i (by omega) (by omega) (by omega) (by omega)))
                  have w52 : Xi U15 940 (((((576 * v4) + (24 * v3)) + v6)).toNat) = 1 := by rw [eU15]; exact Xi_same (by unfold rg; omega)
                  refine l_iinc rfl rfl rfl rfl ?_
                  refine l_goto rfl rfl ?_
                  exact Rl_weak (ih46 _ (by omega) U15 hHU15 hFU15 (v3) (v4) (v5) ((v6 + 1)) (by omega) (by omega) (by omega) (by omega) (by first | assumption | exact (TXM_FR (FR_e eU15) rfl (TXM_FR (FR_e eU13) rfl (by assumption : TXM T1)))) rfl) (And.intro rfl (And.intro rfl (And.intro rfl (And.intro rfl (And.intro rfl (True.intro))))))
                · refine l_iload rfl rfl ?_
                  refine l_iload rfl rfl ?_
                  refine l_icmp_ne rfl rfl (by unfold rg; omega) (by unfold rg; omega) (fun w53 => ?_) (fun w54 => ?_)
                  · refine l_iconst rfl ?_
                    refine l_bastoreZ1 (n := 3456) rfl rfl (by omega) (by omega) (by unfold rg; omega) ⟨by omega, by omega⟩ ?_
                    obtain ⟨U16, eU16⟩ : ∃ T : sS, T = uI U13 940 (((((576 * v4) + (24 * v3)) + v6)).toNat) (Int32.ofInt 0) := ⟨_, rfl⟩
                    rw [← eU16]
                    have hHU16 : HI U16 := by rw [eU16]; exact HI_w hHU13 (show 0 ≤ 0 by omega) (show 0 ≤ 1 by omega)
                    have hFU16 : FR md_mo_nows S U16 := by rw [eU16]; exact FR.wI hFU13 (mdf_i (r := (940, 941, 0, 100000)) (List.mem_of_getElem? (i := 4) rfl) (inR_i (by omega) (by omega) (by omega) (by omega)))
                    have w55 : Xi U16 940 (((((576 * v4) + (24 * v3)) + v6)).toNat) = 0 := by rw [eU16]; exact Xi_same (by unfold rg; omega)
                    refine l_iinc rfl rfl rfl rfl ?_
                    refine l_goto rfl rfl ?_
                    exact Rl_weak (ih46 _ (by omega) U16 hHU16 hFU16 (v3) (v4) (v5) ((v6 + 1)) (by omega) (by omega) (by omega) (by omega) (by first | assumption | exact (TXM_FR (FR_e eU16) rfl (TXM_FR (FR_e eU13) rfl (by assumption : TXM T1)))) rfl) (And.intro rfl (And.intro rfl (And.intro rfl (And.intro rfl (And.intro rfl (True.intro))))))
                  · refine l_iconst rfl ?_
                    refine l_goto rfl rfl ?_
                    refine l_bastoreZ1 (n := 3456) rfl rfl (by omega) (by omega) (by unfold rg; omega) ⟨by omega, by omega⟩ ?_
                    obtain ⟨U17, eU17⟩ : ∃ T : sS, T = uI U13 940 (((((576 * v4) + (24 * v3)) + v6)).toNat) (Int32.ofInt 1) := ⟨_, rfl⟩
                    rw [← eU17]
                    have hHU17 : HI U17 := by rw [eU17]; exact HI_w hHU13 (show 0 ≤ 1 by omega) (show 1 ≤ 1 by omega)
                    have hFU17 : FR md_mo_nows S U17 := by rw [eU17]; exact FR.wI hFU13 (mdf_i (r := (940, 941, 0, 100000)) (List.mem_of_getElem? (i := 4) rfl) (inR_i (by omega) (by omega) (by omega) (by omega)))
                    have w56 : Xi U17 940 (((((576 * v4) + (24 * v3)) + v6)).toNat) = 1 := by rw [eU17]; exact Xi_same (by unfold rg; omega)
                    refine l_iinc rfl rfl rfl rfl ?_
                    refine l_goto rfl rfl ?_
                    exact Rl_weak (ih46 _ (by omega) U17 hHU17 hFU17 (v3) (v4) (v5) ((v6 + 1)) (by omega) (by omega) (by omega) (by omega) (by first | assumption | exact (TXM_FR (FR_e eU17) rfl (TXM_FR (FR_e eU13) rfl (by assumption : TXM T1)))) rfl) (And.intro rfl (And.intro rfl (And.intro rfl (And.intro rfl (And.intro rfl (True.intro))))))
            · refine l_iconst rfl ?_
              refine l_goto rfl rfl ?_
              refine l_bastoreZ1 (n := 3456) rfl rfl (by omega) (by omega) (by unfold rg; omega) ⟨by omega, by omega⟩ ?_
              obtain ⟨U18, eU18⟩ : ∃ T : sS, T = uI T1 940 (((((576 * v4) + (24 * v6)) + v5)).toNat) (Int32.ofInt 1) := ⟨_, rfl⟩
              rw [← eU18]
              have hHU18 : HI U18 := by rw [eU18]; exact HI_w hHT1 (show 0 ≤ 1 by omega) (show 1 ≤ 1 by omega)
              have hFU18 : FR md_mo_nows S U18 := by rw [eU18]; exact FR.wI hFT1 (mdf_i (r := (940, 941, 0, 100000)) (List.mem_of_getElem? (i := 4) rfl) (inR_i (by omega) (by omega) (by omega) (by omega)))
              have w57 : Xi U18 940 (((((576 * v4) + (24 * v6)) + v5)).toNat) = 1 := by rw [eU18]; exact Xi_same (by unfold rg; omega)
              refine l_aload_n rfl rfl ?_
              refine l_gfr rfl rfl rfl rfl rfl (hHU18.r 904 46 940 rfl) ?_
              refine l_sipush rfl rfl ?_
              refine l_iload rfl rfl ?_
              refine l_imul rfl ?_
              refine l_bipush rfl rfl ?_
              refine l_iload_n rfl rfl ?_
              refine l_imul rfl ?_
              refine l_iadd rfl ?_
              refine l_iload rfl rfl ?_
              refine l_iadd rfl ?_
              refine l_aload_n rfl rfl ?_
              refine l_gfr rfl rfl rfl rfl rfl (hHU18.r 904 46 940 rfl) ?_
              refine l_sipush rfl rfl ?_
              refine l_iload rfl rfl ?_
              refine l_imul rfl ?_
              refine l_bipush rfl rfl ?_
              refine l_iload_n rfl rfl ?_
              refine l_imul rfl ?_
              refine l_iadd rfl ?_
              refine l_iload rfl rfl ?_
              refine l_iadd rfl ?_
              refine l_baload (n := 3456) rfl rfl rfl (by decide) (by omega) (by omega) (by unfold rg; omega) ?_
              have w58 : 0 ≤ (Xi U18 940 (((((576 * v4) + (24 * v3)) + v6)).toNat)) ∧ (Xi U18 940 (((((576 * v4) + (24 * v3)) + v6)).toNat)) ≤ 1 := hHU18.c _ _
              refine l_if_eq rfl rfl (by unfold rg; omega) (fun w59 => ?_) (fun w60 => ?_)
              · refine l_iconst rfl ?_
                refine l_bastoreZ1 (n := 3456) rfl rfl (by omega) (by omega) (by unfold rg; omega) ⟨by omega, by omega⟩ ?_
                obtain ⟨U19, eU19⟩ : ∃ T : sS, T = uI U18 940 (((((576 * v4) + (24 * v3)) + v6)).toNat) (Int32.ofInt 0) := ⟨_, rfl⟩
                rw [← eU19]
                have hHU19 : HI U19 := by rw [eU19]; exact HI_w hHU18 (show 0 ≤ 0 by omega) (show 0 ≤ 1 by omega)
                have hFU19 : FR md_mo_nows S U19 := by rw [eU19]; exact FR.wI hFU18 (mdf_i (r := (940, 941, 0, 100000)) (List.mem_of_getElem? (i := 4) rfl) (inR_i (by omega) (by omega) (by omega) (by omega)))
                have w61 : Xi U19 940 (((((576 * v4) + (24 * v3)) + v6)).toNat) = 0 := by rw [eU19]; exact Xi_same (by unfold rg; omega)
                refine l_iinc rfl rfl rfl rfl ?_
                refine l_goto rfl rfl ?_
                exact Rl_weak (ih46 _ (by omega) U19 hHU19 hFU19 (v3) (v4) (v5) ((v6 + 1)) (by omega) (by omega) (by omega) (by omega) (by first | assumption | exact (TXM_FR (FR_e eU19) rfl (TXM_FR (FR_e eU18) rfl (by assumption : TXM T1)))) rfl) (And.intro rfl (And.intro rfl (And.intro rfl (And.intro rfl (And.intro rfl (True.intro))))))
              · refine l_aload_n rfl rfl ?_
                refine l_gfr rfl rfl rfl rfl rfl (hHU18.r 904 45 939 rfl) ?_
                refine l_iload rfl rfl ?_
                refine l_baload (n := 6) rfl rfl rfl (by decide) (by omega) (by omega) (by unfold rg; omega) ?_
                have w62 : 0 ≤ (Xi U18 939 ((v4).toNat)) ∧ (Xi U18 939 ((v4).toNat)) ≤ 1 := hHU18.c _ _
                refine l_if_eq rfl rfl (by unfold rg; omega) (fun w63 => ?_) (fun w64 => ?_)
                · refine l_iconst rfl ?_
                  refine l_goto rfl rfl ?_
                  refine l_bastoreZ1 (n := 3456) rfl rfl (by omega) (by omega) (by unfold rg; omega) ⟨by omega, by omega⟩ ?_
                  obtain ⟨U20, eU20⟩ : ∃ T : sS, T = uI U18 940 (((((576 * v4) + (24 * v3)) + v6)).toNat) (Int32.ofInt 1) := ⟨_, rfl⟩
                  rw [← eU20]
                  have hHU20 : HI U20 := by rw [eU20]; exact HI_w hHU18 (show 0 ≤ 1 by omega) (show 1 ≤ 1 by omega)
                  have hFU20 : FR md_mo_nows S U20 := by rw [eU20]; exact FR.wI hFU18 (mdf_i (r := (940, 941, 0, 100000)) (List.mem_of_getElem? (i := 4) rfl) (inR_i (by omega) (by omega) (by omega) (by omega)))
                  have w65 : Xi U20 940 (((((576 * v4) + (24 * v3)) + v6)).toNat) = 1 := by rw [eU20]; exact Xi_same (by unfold rg; omega)
                  refine l_iinc rfl rfl rfl rfl ?_
                  refine l_goto rfl rfl ?_
                  exact Rl_weak (ih46 _ (by omega) U20 hHU20 hFU20 (v3) (v4) (v5) ((v6 + 1)) (by omega) (by omega) (by omega) (by omega) (by first | assumption | exact (TXM_FR (FR_e eU20) rfl (TXM_FR (FR_e eU18) rfl (by assumption : TXM T1)))) rfl) (And.intro rfl (And.intro rfl (And.intro rfl (And.intro rfl (And.intro rfl (True.intro))))))
                · refine l_iload rfl rfl ?_
                  refine l_iload rfl rfl ?_
                  refine l_icmp_ne rfl rfl (by unfold rg; omega) (by unfold rg; omega) (fun w66 => ?_) (fun w67 => ?_)
                  · refine l_iconst rfl ?_
                    refine l_bastoreZ1 (n := 3456) rfl rfl (by omega) (by omega) (by unfold rg; omega) ⟨by omega, by omega⟩ ?_
                    obtain ⟨U21, eU21⟩ : ∃ T : sS, T = uI U18 940 (((((576 * v4) + (24 * v3)) + v6)).toNat) (Int32.ofInt 0) := ⟨_, rfl⟩
                    rw [← eU21]
                    have hHU21 : HI U21 := by rw [eU21]; exact HI_w hHU18 (show 0 ≤ 0 by omega) (show 0 ≤ 1 by omega)
                    have hFU21 : FR md_mo_nows S U21 := by rw [eU21]; exact FR.wI hFU18 (mdf_i (r := (940, 941, 0, 100000)) (List.mem_of_getElem? (i := 4) rfl) (inR_i (by omega) (by omega) (by omega) (by omega)))
                    have w68 : Xi U21 940 (((((576 * v4) + (24 * v3)) + v6)).toNat) = 0 := by rw [eU21]; exact Xi_same (by unfold rg; omega)
                    refine l_iinc rfl rfl rfl rfl ?_
                    refine l_goto rfl rfl ?_
                    exact Rl_weak (ih46 _ (by omega) U21 hHU21 hFU21 (v3) (v4) (v5) ((v6 + 1)) (by omega) (by omega) (by omega) (by omega) (by first | assumption | exact (TXM_FR (FR_e eU21) rfl (TXM_FR (FR_e eU18) rfl (by assumption : TXM T1)))) rfl) (And.intro rfl (And.intro rfl (And.intro rfl (And.intro rfl (And.intro rfl (True.intro))))))
                  · refine l_iconst rfl ?_
                    refine l_goto rfl rfl ?_
                    refine l_bastoreZ1 (n := 3456) rfl rfl (by omega) (by omega) (by unfold rg; omega) ⟨by omega, by omega⟩ ?_
                    obtain ⟨U22, eU22⟩ : ∃ T : sS, T = uI U18 940 (((((576 * v4) + (24 * v3)) + v6)).toNat) (Int32.ofInt 1) := ⟨_, rfl⟩
                    rw [← eU22]
                    have hHU22 : HI U22 := by rw [eU22]; exact HI_w hHU18 (show 0 ≤ 1 by omega) (show 1 ≤ 1 by omega)
                    have hFU22 : FR md_mo_nows S U22 := by rw [eU22]; exact FR.wI hFU18 (mdf_i (r := (940, 941, 0, 100000)) (List.mem_of_getElem? (i := 4) rfl) (inR_i (by omega) (by omega) (by omega) (by omega)))
                    have w69 : Xi U22 940 (((((576 * v4) + (24 * v3)) + v6)).toNat) = 1 := by rw [eU22]; exact Xi_same (by unfold rg; omega)
                    refine l_iinc rfl rfl rfl rfl ?_
                    refine l_goto rfl rfl ?_
                    exact Rl_weak (ih46 _ (by omega) U22 hHU22 hFU22 (v3) (v4) (v5) ((v6 + 1)) (by omega) (by omega) (by omega) (by omega) (by first | assumption | exact (TXM_FR (FR_e eU22) rfl (TXM_FR (FR_e eU18) rfl (by assumption : TXM T1)))) rfl) (And.intro rfl (And.intro rfl (And.intro rfl (And.intro rfl (And.intro rfl (True.intro))))))
  refine l_aload_n rfl rfl ?_
  refine l_gfr rfl rfl rfl rfl rfl (hH.r 904 120 971 rfl) ?_
  refine l_iload_n rfl rfl ?_
  refine l_iaload (n := 2400) rfl rfl (by omega) (by omega) (by unfold rg; omega) ?_
  have w70 : -9 ≤ (Xi S 971 ((q).toNat)) ∧ (Xi S 971 ((q).toNat)) ≤ 23 := hH.c _ _
  refine l_iconst rfl ?_
  refine l_iload_n rfl rfl ?_
  refine l_callS rfl rfl (by decide) rfl (t_mo_thingIs hH (Xi S 971 ((q).toNat)) (-1) noun ⟨by omega, by omega⟩ ⟨by omega, by omega⟩ ⟨by omega, by omega⟩ _) ?_
  rintro _ _ ⟨rfl, z72, rfl, w72, w71⟩
  show Rl _ _ _ _ _ [iv z72] _ _
  have o8 : 0 ≤ z72 ∧ z72 < Xi S 904 19 := thk_i (it := -1) (noun := noun) hk1.1 (fun h => absurd h (fun f => f)) (fun h => h) (by omega) h2 (by assumption)
  refine l_istore_n rfl rfl rfl ?_
  refine l_aload_n rfl rfl ?_
  refine l_gfr rfl rfl rfl rfl rfl (hH.r 904 118 969 rfl) ?_
  refine l_iload_n rfl rfl ?_
  refine l_iaload (n := 2400) rfl rfl (by omega) (by omega) (by unfold rg; omega) ?_
  have w73 : 0 ≤ (Xi S 969 ((q).toNat)) ∧ (Xi S 969 ((q).toNat)) ≤ 5 := hH.c _ _
  refine l_iconst rfl ?_
  refine l_icmp_ne rfl rfl (by unfold rg; omega) (by unfold rg; omega) (fun w74 => ?_) (fun w75 => ?_)
  · refine l_aload_n rfl rfl ?_
    refine l_gfr rfl rfl rfl rfl rfl (hH.r 904 118 969 rfl) ?_
    refine l_iload_n rfl rfl ?_
    refine l_iaload (n := 2400) rfl rfl (by omega) (by omega) (by unfold rg; omega) ?_
    refine l_iconst rfl ?_
    refine l_icmp_ne rfl rfl (by unfold rg; omega) (by unfold rg; omega) (fun w76 => ?_) (fun w77 => ?_)
    · refine l_aload_n rfl rfl ?_
      refine l_gfr rfl rfl rfl rfl rfl (hH.r 904 118 969 rfl) ?_
      refine l_iload_n rfl rfl ?_
      refine l_iaload (n := 2400) rfl rfl (by omega) (by omega) (by unfold rg; omega) ?_
      refine l_iconst rfl ?_
      refine l_icmp_ne rfl rfl (by unfold rg; omega) (by unfold rg; omega) (fun w78 => ?_) (fun w79 => ?_)
      · refine l_aload_n rfl rfl ?_
        refine l_gfr rfl rfl rfl rfl rfl (hH.r 904 121 972 rfl) ?_
        refine l_iload_n rfl rfl ?_
        refine l_iaload (n := 2400) rfl rfl (by omega) (by omega) (by unfold rg; omega) ?_
        have w80 : -1 ≤ (Xi S 972 ((q).toNat)) ∧ (Xi S 972 ((q).toNat)) ≤ 11 := hH.c _ _
        refine l_istore rfl rfl rfl ?_
        refine l_aload_n rfl rfl ?_
        refine l_gfr rfl rfl rfl rfl rfl (hH.r 904 35 930 rfl) ?_
        refine l_bipush rfl rfl ?_
        refine l_iload_n rfl rfl ?_
        refine l_imul rfl ?_
        refine l_iload rfl rfl ?_
        refine l_iadd rfl ?_
        refine l_iconst rfl ?_
        refine l_bastoreZ1 (n := 288) rfl rfl (by omega) (by omega) (by unfold rg; omega) ⟨by omega, by omega⟩ ?_
        obtain ⟨U23, eU23⟩ : ∃ T : sS, T = uI S 930 ((((12 * z72) + (Xi S 972 ((q).toNat)))).toNat) (Int32.ofInt 1) := ⟨_, rfl⟩
        rw [← eU23]
        have hHU23 : HI U23 := by rw [eU23]; exact HI_w hH (show 0 ≤ 1 by omega) (show 1 ≤ 1 by omega)
        have hFU23 : FR md_mo_nows S U23 := by rw [eU23]; exact FR.wI hF (mdf_i (r := (930, 931, 0, 100000)) (List.mem_of_getElem? (i := 1) rfl) (inR_i (by omega) (by omega) (by omega) (by omega)))
        have w81 : Xi U23 930 ((((12 * z72) + (Xi S 972 ((q).toNat)))).toNat) = 1 := by rw [eU23]; exact Xi_same (by unfold rg; omega)
        refine l_aload_n rfl rfl ?_
        refine l_gfr rfl rfl rfl rfl rfl (hHU23.r 904 36 931 rfl) ?_
        refine l_bipush rfl rfl ?_
        refine l_iload_n rfl rfl ?_
        refine l_imul rfl ?_
        refine l_iload rfl rfl ?_
        refine l_iadd rfl ?_
        refine l_aload_n rfl rfl ?_
        refine l_gfr rfl rfl rfl rfl rfl (hHU23.r 904 118 969 rfl) ?_
        refine l_iload_n rfl rfl ?_
        refine l_iaload (n := 2400) rfl rfl (by omega) (by omega) (by unfold rg; omega) ?_
        have w82 : (Xi U23 969 ((q).toNat)) = (Xi S 969 ((q).toNat)) := (show Xi U23 969 ((q).toNat) = Xi S 969 ((q).toNat) from by rw [eU23]; exact Xi_ne (by omega))
        rw [w82]
        refine l_iconst rfl ?_
        refine l_icmp_ne rfl rfl (by unfold rg; omega) (by unfold rg; omega) (fun w83 => ?_) (fun w84 => ?_)
        · refine l_aload_n rfl rfl ?_
          refine l_gfr rfl rfl rfl rfl rfl (hHU23.r 904 122 973 rfl) ?_
          refine l_iload_n rfl rfl ?_
          refine l_iaload (n := 2400) rfl rfl (by omega) (by omega) (by unfold rg; omega) ?_
          have w85 : -2147483648 ≤ (Xi U23 973 ((q).toNat)) ∧ (Xi U23 973 ((q).toNat)) ≤ 2147483647 := Xi_rgI
          have e383 : (Xi U23 973 ((q).toNat)) = Xi S 973 q.toNat := by first | rfl | exact (hFU23.cx 973 rfl _).1
          refine l_iastore (n := 288) rfl rfl (by omega) (by omega) (by unfold rg; omega) ?_
          obtain ⟨U24, eU24⟩ : ∃ T : sS, T = uI U23 931 ((((12 * z72) + (Xi S 972 ((q).toNat)))).toNat) (Int32.ofInt (Xi U23 973 ((q).toNat))) := ⟨_, rfl⟩
          rw [← eU24]
          have hHU24 : HI U24 := by rw [eU24]; exact HI_any hHU23 (rfl)
          have hFU24 : FR md_mo_nows S U24 := by rw [eU24]; exact FR.wI hFU23 (mdf_i (r := (931, 932, 0, 100000)) (List.mem_of_getElem? (i := 2) rfl) (inR_i (by omega) (by omega) (by omega) (by omega)))
          have w86 : Xi U24 931 ((((12 * z72) + (Xi S 972 ((q).toNat)))).toNat) = (Xi U23 973 ((q).toNat)) := by rw [eU24]; exact Xi_same (by unfold rg; omega)
          refine l_aload_n rfl rfl ?_
          refine l_gfr rfl rfl rfl rfl rfl (hHU24.r 904 37 932 rfl) ?_
          refine l_bipush rfl rfl ?_
          refine l_iload_n rfl rfl ?_
          refine l_imul rfl ?_
          refine l_iload rfl rfl ?_
          refine l_iadd rfl ?_
          refine l_aload_n rfl rfl ?_
          refine l_gfr rfl rfl rfl rfl rfl (hHU24.r 904 118 969 rfl) ?_
          refine l_iload_n rfl rfl ?_
          refine l_iaload (n := 2400) rfl rfl (by omega) (by omega) (by unfold rg; omega) ?_
          have w87 : (Xi U24 969 ((q).toNat)) = (Xi S 969 ((q).toNat)) := (show Xi U24 969 ((q).toNat) = Xi U23 969 ((q).toNat) from by rw [eU24]; exact Xi_ne (by omega)).trans ((show Xi U23 969 ((q).toNat) = Xi S 969 ((q).toNat) from by rw [eU23]; exact Xi_ne (by omega)))
          rw [w87]
          refine l_iconst rfl ?_
          refine l_icmp_ne rfl rfl (by unfold rg; omega) (by unfold rg; omega) (fun w88 => ?_) (fun w89 => ?_)
          · refine l_aload_n rfl rfl ?_
            refine l_gfr rfl rfl rfl rfl rfl (hHU24.r 904 123 974 rfl) ?_
            refine l_iload_n rfl rfl ?_
            refine l_iaload (n := 2400) rfl rfl (by omega) (by omega) (by unfold rg; omega) ?_
            have w90 : -2147483648 ≤ (Xi U24 974 ((q).toNat)) ∧ (Xi U24 974 ((q).toNat)) ≤ 2147483647 := Xi_rgI
            have e415 : (Xi U24 974 ((q).toNat)) = Xi S 974 q.toNat := by first | rfl | exact (hFU24.cx 974 rfl _).1
            refine l_iastore (n := 288) rfl rfl (by omega) (by omega) (by unfold rg; omega) ?_
            obtain ⟨U25, eU25⟩ : ∃ T : sS, T = uI U24 932 ((((12 * z72) + (Xi S 972 ((q).toNat)))).toNat) (Int32.ofInt (Xi U24 974 ((q).toNat))) := ⟨_, rfl⟩
            rw [← eU25]
            have hHU25 : HI U25 := by rw [eU25]; exact HI_any hHU24 (rfl)
            have hFU25 : FR md_mo_nows S U25 := by rw [eU25]; exact FR.wI hFU24 (mdf_i (r := (932, 933, 0, 100000)) (List.mem_of_getElem? (i := 3) rfl) (inR_i (by omega) (by omega) (by omega) (by omega)))
            have w91 : Xi U25 932 ((((12 * z72) + (Xi S 972 ((q).toNat)))).toNat) = (Xi U24 974 ((q).toNat)) := by rw [eU25]; exact Xi_same (by unfold rg; omega)
            have x416 : TXM U25 := txm_w (o := z72) (p := (Xi S 972 ((q).toNat))) eU23 eU24 eU25 rfl (by omega) (by omega) (by omega) (by omega) (by unfold rg; omega) (by unfold rg; omega) (fun _ => by first | exact Or.inl (by omega) | exact okt_2 (hk1.2.2.2.2 (by omega)) (by omega) (by omega)) hX
            refine l_return rfl rfl ?_
            exact ⟨hHU25, hFU25, rfl, (by first | exact x416 | assumption | exact TXM_FR (FR_e eU25) rfl (by first | assumption | exact TXM_FR (FR_e eU24) rfl hX))⟩
          · refine l_iconst rfl ?_
            refine l_goto rfl rfl ?_
            refine l_iastore (n := 288) rfl rfl (by omega) (by omega) (by unfold rg; omega) ?_
            obtain ⟨U26, eU26⟩ : ∃ T : sS, T = uI U24 932 ((((12 * z72) + (Xi S 972 ((q).toNat)))).toNat) (Int32.ofInt 0) := ⟨_, rfl⟩
            rw [← eU26]
            have hHU26 : HI U26 := by rw [eU26]; exact HI_any hHU24 (rfl)
            have hFU26 : FR md_mo_nows S U26 := by rw [eU26]; exact FR.wI hFU24 (mdf_i (r := (932, 933, 0, 100000)) (List.mem_of_getElem? (i := 3) rfl) (inR_i (by omega) (by omega) (by omega) (by omega)))
            have w92 : Xi U26 932 ((((12 * z72) + (Xi S 972 ((q).toNat)))).toNat) = 0 := by rw [eU26]; exact Xi_same (by unfold rg; omega)
            have x416 : TXM U26 := txm_w (o := z72) (p := (Xi S 972 ((q).toNat))) eU23 eU24 eU26 rfl (by omega) (by omega) (by omega) (by omega) (by unfold rg; omega) (by unfold rg; omega) (fun _ => by first | exact Or.inl (by omega) | exact okt_2 (hk1.2.2.2.2 (by omega)) (by omega) (by omega)) hX
            refine l_return rfl rfl ?_
            exact ⟨hHU26, hFU26, rfl, (by first | exact x416 | assumption | exact TXM_FR (FR_e eU26) rfl (by first | assumption | exact TXM_FR (FR_e eU24) rfl hX))⟩
        · refine l_aload_n rfl rfl ?_
          refine l_gfr rfl rfl rfl rfl rfl (hHU23.r 904 122 973 rfl) ?_
          refine l_iload_n rfl rfl ?_
          refine l_iaload (n := 2400) rfl rfl (by omega) (by omega) (by unfold rg; omega) ?_
          have w93 : -2147483648 ≤ (Xi U23 973 ((q).toNat)) ∧ (Xi U23 973 ((q).toNat)) ≤ 2147483647 := Xi_rgI
          refine l_bipush rfl rfl ?_
          refine l_idivP rfl (by omega) (by omega) (by unfold rg; omega) (by unfold rg; omega) ?_
          refine l_iconst rfl ?_
          refine l_isub rfl ?_
          refine l_goto rfl rfl ?_
          refine l_iastore (n := 288) rfl rfl (by omega) (by omega) (by unfold rg; omega) ?_
          obtain ⟨U27, eU27⟩ : ∃ T : sS, T = uI U23 931 ((((12 * z72) + (Xi S 972 ((q).toNat)))).toNat) (Int32.ofInt (((Xi U23 973 ((q).toNat)) / 100) - 1)) := ⟨_, rfl⟩
          rw [← eU27]
          have hHU27 : HI U27 := by rw [eU27]; exact HI_any hHU23 (rfl)
          have hFU27 : FR md_mo_nows S U27 := by rw [eU27]; exact FR.wI hFU23 (mdf_i (r := (931, 932, 0, 100000)) (List.mem_of_getElem? (i := 2) rfl) (inR_i (by omega) (by omega) (by omega) (by omega)))
          have w95 : Xi U27 931 ((((12 * z72) + (Xi S 972 ((q).toNat)))).toNat) = (((Xi U23 973 ((q).toNat)) / 100) - 1) := by rw [eU27]; exact Xi_same (by unfold rg; omega)
          refine l_aload_n rfl rfl ?_
          refine l_gfr rfl rfl rfl rfl rfl (hHU27.r 904 37 932 rfl) ?_
          refine l_bipush rfl rfl ?_
          refine l_iload_n rfl rfl ?_
          refine l_imul rfl ?_
          refine l_iload rfl rfl ?_
          refine l_iadd rfl ?_
          refine l_aload_n rfl rfl ?_
          refine l_gfr rfl rfl rfl rfl rfl (hHU27.r 904 118 969 rfl) ?_
          refine l_iload_n rfl rfl ?_
          refine l_iaload (n := 2400) rfl rfl (by omega) (by omega) (by unfold rg; omega) ?_
          have w96 : (Xi U27 969 ((q).toNat)) = (Xi S 969 ((q).toNat)) := (show Xi U27 969 ((q).toNat) = Xi U23 969 ((q).toNat) from by rw [eU27]; exact Xi_ne (by omega)).trans ((show Xi U23 969 ((q).toNat) = Xi S 969 ((q).toNat) from by rw [eU23]; exact Xi_ne (by omega)))
          rw [w96]
          refine l_iconst rfl ?_
          refine l_icmp_ne rfl rfl (by unfold rg; omega) (by unfold rg; omega) (fun w97 => ?_) (fun w98 => ?_)
          · refine l_aload_n rfl rfl ?_
            refine l_gfr rfl rfl rfl rfl rfl (hHU27.r 904 123 974 rfl) ?_
            refine l_iload_n rfl rfl ?_
            refine l_iaload (n := 2400) rfl rfl (by omega) (by omega) (by unfold rg; omega) ?_
            have w99 : -2147483648 ≤ (Xi U27 974 ((q).toNat)) ∧ (Xi U27 974 ((q).toNat)) ≤ 2147483647 := Xi_rgI
            have e415 : (Xi U27 974 ((q).toNat)) = Xi S 974 q.toNat := by first | rfl | exact (hFU27.cx 974 rfl _).1
            refine l_iastore (n := 288) rfl rfl (by omega) (by omega) (by unfold rg; omega) ?_
            obtain ⟨U28, eU28⟩ : ∃ T : sS, T = uI U27 932 ((((12 * z72) + (Xi S 972 ((q).toNat)))).toNat) (Int32.ofInt (Xi U27 974 ((q).toNat))) := ⟨_, rfl⟩
            rw [← eU28]
            have hHU28 : HI U28 := by rw [eU28]; exact HI_any hHU27 (rfl)
            have hFU28 : FR md_mo_nows S U28 := by rw [eU28]; exact FR.wI hFU27 (mdf_i (r := (932, 933, 0, 100000)) (List.mem_of_getElem? (i := 3) rfl) (inR_i (by omega) (by omega) (by omega) (by omega)))
            have w100 : Xi U28 932 ((((12 * z72) + (Xi S 972 ((q).toNat)))).toNat) = (Xi U27 974 ((q).toNat)) := by rw [eU28]; exact Xi_same (by unfold rg; omega)
            have x416 : TXM U28 := txm_w (o := z72) (p := (Xi S 972 ((q).toNat))) eU23 eU27 eU28 rfl (by omega) (by omega) (by omega) (by omega) (by unfold rg; omega) (by unfold rg; omega) (fun _ => by first | exact Or.inl (by omega) | exact okt_2 (hk1.2.2.2.2 (by omega)) (by omega) (by omega)) hX
            refine l_return rfl rfl ?_
            exact ⟨hHU28, hFU28, rfl, (by first | exact x416 | assumption | exact TXM_FR (FR_e eU28) rfl (by first | assumption | exact TXM_FR (FR_e eU27) rfl hX))⟩
          · refine l_iconst rfl ?_
            refine l_goto rfl rfl ?_
            refine l_iastore (n := 288) rfl rfl (by omega) (by omega) (by unfold rg; omega) ?_
            obtain ⟨U29, eU29⟩ : ∃ T : sS, T = uI U27 932 ((((12 * z72) + (Xi S 972 ((q).toNat)))).toNat) (Int32.ofInt 0) := ⟨_, rfl⟩
            rw [← eU29]
            have hHU29 : HI U29 := by rw [eU29]; exact HI_any hHU27 (rfl)
            have hFU29 : FR md_mo_nows S U29 := by rw [eU29]; exact FR.wI hFU27 (mdf_i (r := (932, 933, 0, 100000)) (List.mem_of_getElem? (i := 3) rfl) (inR_i (by omega) (by omega) (by omega) (by omega)))
            have w101 : Xi U29 932 ((((12 * z72) + (Xi S 972 ((q).toNat)))).toNat) = 0 := by rw [eU29]; exact Xi_same (by unfold rg; omega)
            have x416 : TXM U29 := txm_w (o := z72) (p := (Xi S 972 ((q).toNat))) eU23 eU27 eU29 rfl (by omega) (by omega) (by omega) (by omega) (by unfold rg; omega) (by unfold rg; omega) (fun _ => by first | exact Or.inl (by omega) | exact okt_2 (hk1.2.2.2.2 (by omega)) (by omega) (by omega)) hX
            refine l_return rfl rfl ?_
            exact ⟨hHU29, hFU29, rfl, (by first | exact x416 | assumption | exact TXM_FR (FR_e eU29) rfl (by first | assumption | exact TXM_FR (FR_e eU27) rfl hX))⟩
      · refine l_aload_n rfl rfl ?_
        refine l_gfr rfl rfl rfl rfl rfl (hH.r 904 122 973 rfl) ?_
        refine l_iload_n rfl rfl ?_
        refine l_iaload (n := 2400) rfl rfl (by omega) (by omega) (by unfold rg; omega) ?_
        have w102 : -2147483648 ≤ (Xi S 973 ((q).toNat)) ∧ (Xi S 973 ((q).toNat)) ≤ 2147483647 := Xi_rgI
        refine l_bipush rfl rfl ?_
        refine l_iremA rfl (by omega) (by unfold rg; omega) (by unfold rg; omega) (fun c103 w103 w103b w103c => ?_)
        refine l_goto rfl rfl ?_
        refine l_istore rfl rfl rfl ?_
        refine l_aload_n rfl rfl ?_
        refine l_gfr rfl rfl rfl rfl rfl (hH.r 904 35 930 rfl) ?_
        refine l_bipush rfl rfl ?_
        refine l_iload_n rfl rfl ?_
        refine l_imul rfl ?_
        refine l_iload rfl rfl ?_
        refine l_iadd rfl ?_
        refine l_iconst rfl ?_
        refine l_bastoreZ1 (n := 288) rfl rfl (by omega) (by omega) (by unfold rg; omega) ⟨by omega, by omega⟩ ?_
        obtain ⟨U30, eU30⟩ : ∃ T : sS, T = uI S 930 ((((12 * z72) + c103)).toNat) (Int32.ofInt 1) := ⟨_, rfl⟩
        rw [← eU30]
        have hHU30 : HI U30 := by rw [eU30]; exact HI_w hH (show 0 ≤ 1 by omega) (show 1 ≤ 1 by omega)
        have hFU30 : FR md_mo_nows S U30 := by rw [eU30]; exact FR.wI hF (mdf_i (r := (930, 931, 0, 100000)) (List.mem_of_getElem? (i := 1) rfl) (inR_i (by omega) (by omega) (by omega) (by omega)))
        have w104 : Xi U30 930 ((((12 * z72) + c103)).toNat) = 1 := by rw [eU30]; exact Xi_same (by unfold rg; omega)
        refine l_aload_n rfl rfl ?_
        refine l_gfr rfl rfl rfl rfl rfl (hHU30.r 904 36 931 rfl) ?_
        refine l_bipush rfl rfl ?_
        refine l_iload_n rfl rfl ?_
        refine l_imul rfl ?_
        refine l_iload rfl rfl ?_
        refine l_iadd rfl ?_
        refine l_aload_n rfl rfl ?_
        refine l_gfr rfl rfl rfl rfl rfl (hHU30.r 904 118 969 rfl) ?_
        refine l_iload_n rfl rfl ?_
        refine l_iaload (n := 2400) rfl rfl (by omega) (by omega) (by unfold rg; omega) ?_
        have w105 : (Xi U30 969 ((q).toNat)) = (Xi S 969 ((q).toNat)) := (show Xi U30 969 ((q).toNat) = Xi S 969 ((q).toNat) from by rw [eU30]; exact Xi_ne (by omega))
        rw [w105]
        refine l_iconst rfl ?_
        refine l_icmp_ne rfl rfl (by unfold rg; omega) (by unfold rg; omega) (fun w106 => ?_) (fun w107 => ?_)
        · refine l_aload_n rfl rfl ?_
          refine l_gfr rfl rfl rfl rfl rfl (hHU30.r 904 122 973 rfl) ?_
          refine l_iload_n rfl rfl ?_
          refine l_iaload (n := 2400) rfl rfl (by omega) (by omega) (by unfold rg; omega) ?_
          have w108 : (Xi U30 973 ((q).toNat)) = (Xi S 973 ((q).toNat)) := (show Xi U30 973 ((q).toNat) = Xi S 973 ((q).toNat) from by rw [eU30]; exact Xi_ne (by omega))
          rw [w108]
          have e383 : (Xi S 973 ((q).toNat)) = Xi S 973 q.toNat := by first | rfl | exact (hFU30.cx 973 rfl _).1
          refine l_iastore (n := 288) rfl rfl (by omega) (by omega) (by unfold rg; omega) ?_
          obtain ⟨U31, eU31⟩ : ∃ T : sS, T = uI U30 931 ((((12 * z72) + c103)).toNat) (Int32.ofInt (Xi S 973 ((q).toNat))) := ⟨_, rfl⟩
          rw [← eU31]
          have hHU31 : HI U31 := by rw [eU31]; exact HI_any hHU30 (rfl)
          have hFU31 : FR md_mo_nows S U31 := by rw [eU31]; exact FR.wI hFU30 (mdf_i (r := (931, 932, 0, 100000)) (List.mem_of_getElem? (i := 2) rfl) (inR_i (by omega) (by omega) (by omega) (by omega)))
          have w109 : Xi U31 931 ((((12 * z72) + c103)).toNat) = (Xi S 973 ((q).toNat)) := by rw [eU31]; exact Xi_same (by unfold rg; omega)
          refine l_aload_n rfl rfl ?_
          refine l_gfr rfl rfl rfl rfl rfl (hHU31.r 904 37 932 rfl) ?_
          refine l_bipush rfl rfl ?_
          refine l_iload_n rfl rfl ?_
          refine l_imul rfl ?_
          refine l_iload rfl rfl ?_
          refine l_iadd rfl ?_
          refine l_aload_n rfl rfl ?_
          refine l_gfr rfl rfl rfl rfl rfl (hHU31.r 904 118 969 rfl) ?_
          refine l_iload_n rfl rfl ?_
          refine l_iaload (n := 2400) rfl rfl (by omega) (by omega) (by unfold rg; omega) ?_
          have w110 : (Xi U31 969 ((q).toNat)) = (Xi S 969 ((q).toNat)) := (show Xi U31 969 ((q).toNat) = Xi U30 969 ((q).toNat) from by rw [eU31]; exact Xi_ne (by omega)).trans ((show Xi U30 969 ((q).toNat) = Xi S 969 ((q).toNat) from by rw [eU30]; exact Xi_ne (by omega)))
          rw [w110]
          refine l_iconst rfl ?_
          refine l_icmp_ne rfl rfl (by unfold rg; omega) (by unfold rg; omega) (fun w111 => ?_) (fun w112 => ?_)
          · refine l_aload_n rfl rfl ?_
            refine l_gfr rfl rfl rfl rfl rfl (hHU31.r 904 123 974 rfl) ?_
            refine l_iload_n rfl rfl ?_
            refine l_iaload (n := 2400) rfl rfl (by omega) (by omega) (by unfold rg; omega) ?_
            have w113 : -2147483648 ≤ (Xi U31 974 ((q).toNat)) ∧ (Xi U31 974 ((q).toNat)) ≤ 2147483647 := Xi_rgI
            have e415 : (Xi U31 974 ((q).toNat)) = Xi S 974 q.toNat := by first | rfl | exact (hFU31.cx 974 rfl _).1
            refine l_iastore (n := 288) rfl rfl (by omega) (by omega) (by unfold rg; omega) ?_
            obtain ⟨U32, eU32⟩ : ∃ T : sS, T = uI U31 932 ((((12 * z72) + c103)).toNat) (Int32.ofInt (Xi U31 974 ((q).toNat))) := ⟨_, rfl⟩
            rw [← eU32]
            have hHU32 : HI U32 := by rw [eU32]; exact HI_any hHU31 (rfl)
            have hFU32 : FR md_mo_nows S U32 := by rw [eU32]; exact FR.wI hFU31 (mdf_i (r := (932, 933, 0, 100000)) (List.mem_of_getElem? (i := 3) rfl) (inR_i (by omega) (by omega) (by omega) (by omega)))
            have w114 : Xi U32 932 ((((12 * z72) + c103)).toNat) = (Xi U31 974 ((q).toNat)) := by rw [eU32]; exact Xi_same (by unfold rg; omega)
            have x416 : TXM U32 := txm_w (o := z72) (p := c103) eU30 eU31 eU32 rfl (by omega) (by omega) (by omega) (by omega) (by unfold rg; omega) (by unfold rg; omega) (fun _ => by first | exact Or.inl (by omega) | exact okt_2 (hk1.2.2.2.2 (by omega)) (by omega) (by omega)) hX
            refine l_return rfl rfl ?_
            exact ⟨hHU32, hFU32, rfl, (by first | exact x416 | assumption | exact TXM_FR (FR_e eU32) rfl (by first | assumption | exact TXM_FR (FR_e eU31) rfl hX))⟩
          · refine l_iconst rfl ?_
            refine l_goto rfl rfl ?_
            refine l_iastore (n := 288) rfl rfl (by omega) (by omega) (by unfold rg; omega) ?_
            obtain ⟨U33, eU33⟩ : ∃ T : sS, T = uI U31 932 ((((12 * z72) + c103)).toNat) (Int32.ofInt 0) := ⟨_, rfl⟩
            rw [← eU33]
            have hHU33 : HI U33 := by rw [eU33]; exact HI_any hHU31 (rfl)
            have hFU33 : FR md_mo_nows S U33 := by rw [eU33]; exact FR.wI hFU31 (mdf_i (r := (932, 933, 0, 100000)) (List.mem_of_getElem? (i := 3) rfl) (inR_i (by omega) (by omega) (by omega) (by omega)))
            have w115 : Xi U33 932 ((((12 * z72) + c103)).toNat) = 0 := by rw [eU33]; exact Xi_same (by unfold rg; omega)
            have x416 : TXM U33 := txm_w (o := z72) (p := c103) eU30 eU31 eU33 rfl (by omega) (by omega) (by omega) (by omega) (by unfold rg; omega) (by unfold rg; omega) (fun _ => by first | exact Or.inl (by omega) | exact okt_2 (hk1.2.2.2.2 (by omega)) (by omega) (by omega)) hX
            refine l_return rfl rfl ?_
            exact ⟨hHU33, hFU33, rfl, (by first | exact x416 | assumption | exact TXM_FR (FR_e eU33) rfl (by first | assumption | exact TXM_FR (FR_e eU31) rfl hX))⟩
        · refine l_aload_n rfl rfl ?_
          refine l_gfr rfl rfl rfl rfl rfl (hHU30.r 904 122 973 rfl) ?_
          refine l_iload_n rfl rfl ?_
          refine l_iaload (n := 2400) rfl rfl (by omega) (by omega) (by unfold rg; omega) ?_
          have w116 : (Xi U30 973 ((q).toNat)) = (Xi S 973 ((q).toNat)) := (show Xi U30 973 ((q).toNat) = Xi S 973 ((q).toNat) from by rw [eU30]; exact Xi_ne (by omega))
          rw [w116]
          refine l_bipush rfl rfl ?_
          refine l_idivP rfl (by omega) (by omega) (by unfold rg; omega) (by unfold rg; omega) ?_
          refine l_iconst rfl ?_
          refine l_isub rfl ?_
          refine l_goto rfl rfl ?_
          refine l_iastore (n := 288) rfl rfl (by omega) (by omega) (by unfold rg; omega) ?_
          obtain ⟨U34, eU34⟩ : ∃ T : sS, T = uI U30 931 ((((12 * z72) + c103)).toNat) (Int32.ofInt (((Xi S 973 ((q).toNat)) / 100) - 1)) := ⟨_, rfl⟩
          rw [← eU34]
          have hHU34 : HI U34 := by rw [eU34]; exact HI_any hHU30 (rfl)
          have hFU34 : FR md_mo_nows S U34 := by rw [eU34]; exact FR.wI hFU30 (mdf_i (r := (931, 932, 0, 100000)) (List.mem_of_getElem? (i := 2) rfl) (inR_i (by omega) (by omega) (by omega) (by omega)))
          have w118 : Xi U34 931 ((((12 * z72) + c103)).toNat) = (((Xi S 973 ((q).toNat)) / 100) - 1) := by rw [eU34]; exact Xi_same (by unfold rg; omega)
          refine l_aload_n rfl rfl ?_
          refine l_gfr rfl rfl rfl rfl rfl (hHU34.r 904 37 932 rfl) ?_
          refine l_bipush rfl rfl ?_
          refine l_iload_n rfl rfl ?_
          refine l_imul rfl ?_
          refine l_iload rfl rfl ?_
          refine l_iadd rfl ?_
          refine l_aload_n rfl rfl ?_
          refine l_gfr rfl rfl rfl rfl rfl (hHU34.r 904 118 969 rfl) ?_
          refine l_iload_n rfl rfl ?_
          refine l_iaload (n := 2400) rfl rfl (by omega) (by omega) (by unfold rg; omega) ?_
          have w119 : (Xi U34 969 ((q).toNat)) = (Xi S 969 ((q).toNat)) := (show Xi U34 969 ((q).toNat) = Xi U30 969 ((q).toNat) from by rw [eU34]; exact Xi_ne (by omega)).trans ((show Xi U30 969 ((q).toNat) = Xi S 969 ((q).toNat) from by rw [eU30]; exact Xi_ne (by omega)))
          rw [w119]
          refine l_iconst rfl ?_
          refine l_icmp_ne rfl rfl (by unfold rg; omega) (by unfold rg; omega) (fun w120 => ?_) (fun w121 => ?_)
          · refine l_aload_n rfl rfl ?_
            refine l_gfr rfl rfl rfl rfl rfl (hHU34.r 904 123 974 rfl) ?_
            refine l_iload_n rfl rfl ?_
            refine l_iaload (n := 2400) rfl rfl (by omega) (by omega) (by unfold rg; omega) ?_
            have w122 : -2147483648 ≤ (Xi U34 974 ((q).toNat)) ∧ (Xi U34 974 ((q).toNat)) ≤ 2147483647 := Xi_rgI
            have e415 : (Xi U34 974 ((q).toNat)) = Xi S 974 q.toNat := by first | rfl | exact (hFU34.cx 974 rfl _).1
            refine l_iastore (n := 288) rfl rfl (by omega) (by omega) (by unfold rg; omega) ?_
            obtain ⟨U35, eU35⟩ : ∃ T : sS, T = uI U34 932 ((((12 * z72) + c103)).toNat) (Int32.ofInt (Xi U34 974 ((q).toNat))) := ⟨_, rfl⟩
            rw [← eU35]
            have hHU35 : HI U35 := by rw [eU35]; exact HI_any hHU34 (rfl)
            have hFU35 : FR md_mo_nows S U35 := by rw [eU35]; exact FR.wI hFU34 (mdf_i (r := (932, 933, 0, 100000)) (List.mem_of_getElem? (i := 3) rfl) (inR_i (by omega) (by omega) (by omega) (by omega)))
            have w123 : Xi U35 932 ((((12 * z72) + c103)).toNat) = (Xi U34 974 ((q).toNat)) := by rw [eU35]; exact Xi_same (by unfold rg; omega)
            have x416 : TXM U35 := txm_w (o := z72) (p := c103) eU30 eU34 eU35 rfl (by omega) (by omega) (by omega) (by omega) (by unfold rg; omega) (by unfold rg; omega) (fun _ => by first | exact Or.inl (by omega) | exact okt_2 (hk1.2.2.2.2 (by omega)) (by omega) (by omega)) hX
            refine l_return rfl rfl ?_
            exact ⟨hHU35, hFU35, rfl, (by first | exact x416 | assumption | exact TXM_FR (FR_e eU35) rfl (by first | assumption | exact TXM_FR (FR_e eU34) rfl hX))⟩
          · refine l_iconst rfl ?_
            refine l_goto rfl rfl ?_
            refine l_iastore (n := 288) rfl rfl (by omega) (by omega) (by unfold rg; omega) ?_
            obtain ⟨U36, eU36⟩ : ∃ T : sS, T = uI U34 932 ((((12 * z72) + c103)).toNat) (Int32.ofInt 0) := ⟨_, rfl⟩
            rw [← eU36]
            have hHU36 : HI U36 := by rw [eU36]; exact HI_any hHU34 (rfl)
            have hFU36 : FR md_mo_nows S U36 := by rw [eU36]; exact FR.wI hFU34 (mdf_i (r := (932, 933, 0, 100000)) (List.mem_of_getElem? (i := 3) rfl) (inR_i (by omega) (by omega) (by omega) (by omega)))
            have w124 : Xi U36 932 ((((12 * z72) + c103)).toNat) = 0 := by rw [eU36]; exact Xi_same (by unfold rg; omega)
            have x416 : TXM U36 := txm_w (o := z72) (p := c103) eU30 eU34 eU36 rfl (by omega) (by omega) (by omega) (by omega) (by unfold rg; omega) (by unfold rg; omega) (fun _ => by first | exact Or.inl (by omega) | exact okt_2 (hk1.2.2.2.2 (by omega)) (by omega) (by omega)) hX
            refine l_return rfl rfl ?_
            exact ⟨hHU36, hFU36, rfl, (by first | exact x416 | assumption | exact TXM_FR (FR_e eU36) rfl (by first | assumption | exact TXM_FR (FR_e eU34) rfl hX))⟩
    · refine l_aload_n rfl rfl ?_
      refine l_gfr rfl rfl rfl rfl rfl (hH.r 904 122 973 rfl) ?_
      refine l_iload_n rfl rfl ?_
      refine l_iaload (n := 2400) rfl rfl (by omega) (by omega) (by unfold rg; omega) ?_
      have w125 : -2147483648 ≤ (Xi S 973 ((q).toNat)) ∧ (Xi S 973 ((q).toNat)) ≤ 2147483647 := Xi_rgI
      refine l_bipush rfl rfl ?_
      refine l_icmp_ge rfl rfl (by unfold rg; omega) (by unfold rg; omega) (fun w126 => ?_) (fun w127 => ?_)
      · refine l_aload_n rfl rfl ?_
        refine l_gfr rfl rfl rfl rfl rfl (hH.r 904 118 969 rfl) ?_
        refine l_iload_n rfl rfl ?_
        refine l_iaload (n := 2400) rfl rfl (by omega) (by omega) (by unfold rg; omega) ?_
        refine l_iconst rfl ?_
        refine l_icmp_ne rfl rfl (by unfold rg; omega) (by unfold rg; omega) (fun w128 => ?_) (fun w129 => ?_)
        · refine l_aload_n rfl rfl ?_
          refine l_gfr rfl rfl rfl rfl rfl (hH.r 904 121 972 rfl) ?_
          refine l_iload_n rfl rfl ?_
          refine l_iaload (n := 2400) rfl rfl (by omega) (by omega) (by unfold rg; omega) ?_
          have w130 : -1 ≤ (Xi S 972 ((q).toNat)) ∧ (Xi S 972 ((q).toNat)) ≤ 11 := hH.c _ _
          refine l_istore rfl rfl rfl ?_
          refine l_aload_n rfl rfl ?_
          refine l_gfr rfl rfl rfl rfl rfl (hH.r 904 35 930 rfl) ?_
          refine l_bipush rfl rfl ?_
          refine l_iload_n rfl rfl ?_
          refine l_imul rfl ?_
          refine l_iload rfl rfl ?_
          refine l_iadd rfl ?_
          refine l_iconst rfl ?_
          refine l_bastoreZ1 (n := 288) rfl rfl (by omega) (by omega) (by unfold rg; omega) ⟨by omega, by omega⟩ ?_
          obtain ⟨U37, eU37⟩ : ∃ T : sS, T = uI S 930 ((((12 * z72) + (Xi S 972 ((q).toNat)))).toNat) (Int32.ofInt 1) := ⟨_, rfl⟩
          rw [← eU37]
          have hHU37 : HI U37 := by rw [eU37]; exact HI_w hH (show 0 ≤ 1 by omega) (show 1 ≤ 1 by omega)
          have hFU37 : FR md_mo_nows S U37 := by rw [eU37]; exact FR.wI hF (mdf_i (r := (930, 931, 0, 100000)) (List.mem_of_getElem? (i := 1) rfl) (inR_i (by omega) (by omega) (by omega) (by omega)))
          have w131 : Xi U37 930 ((((12 * z72) + (Xi S 972 ((q).toNat)))).toNat) = 1 := by rw [eU37]; exact Xi_same (by unfold rg; omega)
          refine l_aload_n rfl rfl ?_
          refine l_gfr rfl rfl rfl rfl rfl (hHU37.r 904 36 931 rfl) ?_
          refine l_bipush rfl rfl ?_
          refine l_iload_n rfl rfl ?_
          refine l_imul rfl ?_
          refine l_iload rfl rfl ?_
          refine l_iadd rfl ?_
          refine l_aload_n rfl rfl ?_
          refine l_gfr rfl rfl rfl rfl rfl (hHU37.r 904 118 969 rfl) ?_
          refine l_iload_n rfl rfl ?_
          refine l_iaload (n := 2400) rfl rfl (by omega) (by omega) (by unfold rg; omega) ?_
          have w132 : (Xi U37 969 ((q).toNat)) = (Xi S 969 ((q).toNat)) := (show Xi U37 969 ((q).toNat) = Xi S 969 ((q).toNat) from by rw [eU37]; exact Xi_ne (by omega))
          rw [w132]
          refine l_iconst rfl ?_
          refine l_icmp_ne rfl rfl (by unfold rg; omega) (by unfold rg; omega) (fun w133 => ?_) (fun w134 => ?_)
          · refine l_aload_n rfl rfl ?_
            refine l_gfr rfl rfl rfl rfl rfl (hHU37.r 904 122 973 rfl) ?_
            refine l_iload_n rfl rfl ?_
            refine l_iaload (n := 2400) rfl rfl (by omega) (by omega) (by unfold rg; omega) ?_
            have w135 : (Xi U37 973 ((q).toNat)) = (Xi S 973 ((q).toNat)) := (show Xi U37 973 ((q).toNat) = Xi S 973 ((q).toNat) from by rw [eU37]; exact Xi_ne (by omega))
            rw [w135]
            have e383 : (Xi S 973 ((q).toNat)) = Xi S 973 q.toNat := by first | rfl | exact (hFU37.cx 973 rfl _).1
            refine l_iastore (n := 288) rfl rfl (by omega) (by omega) (by unfold rg; omega) ?_
            obtain ⟨U38, eU38⟩ : ∃ T : sS, T = uI U37 931 ((((12 * z72) + (Xi S 972 ((q).toNat)))).toNat) (Int32.ofInt (Xi S 973 ((q).toNat))) := ⟨_, rfl⟩
            rw [← eU38]
            have hHU38 : HI U38 := by rw [eU38]; exact HI_any hHU37 (rfl)
            have hFU38 : FR md_mo_nows S U38 := by rw [eU38]; exact FR.wI hFU37 (mdf_i (r := (931, 932, 0, 100000)) (List.mem_of_getElem? (i := 2) rfl) (inR_i (by omega) (by omega) (by omega) (by omega)))
            have w136 : Xi U38 931 ((((12 * z72) + (Xi S 972 ((q).toNat)))).toNat) = (Xi S 973 ((q).toNat)) := by rw [eU38]; exact Xi_same (by unfold rg; omega)
            refine l_aload_n rfl rfl ?_
            refine l_gfr rfl rfl rfl rfl rfl (hHU38.r 904 37 932 rfl) ?_
            refine l_bipush rfl rfl ?_
            refine l_iload_n rfl rfl ?_
            refine l_imul rfl ?_
            refine l_iload rfl rfl ?_
            refine l_iadd rfl ?_
            refine l_aload_n rfl rfl ?_
            refine l_gfr rfl rfl rfl rfl rfl (hHU38.r 904 118 969 rfl) ?_
            refine l_iload_n rfl rfl ?_
            refine l_iaload (n := 2400) rfl rfl (by omega) (by omega) (by unfold rg; omega) ?_
            have w137 : (Xi U38 969 ((q).toNat)) = (Xi S 969 ((q).toNat)) := (show Xi U38 969 ((q).toNat) = Xi U37 969 ((q).toNat) from by rw [eU38]; exact Xi_ne (by omega)).trans ((show Xi U37 969 ((q).toNat) = Xi S 969 ((q).toNat) from by rw [eU37]; exact Xi_ne (by omega)))
            rw [w137]
            refine l_iconst rfl ?_
            refine l_icmp_ne rfl rfl (by unfold rg; omega) (by unfold rg; omega) (fun w138 => ?_) (fun w139 => ?_)
            · refine l_aload_n rfl rfl ?_
              refine l_gfr rfl rfl rfl rfl rfl (hHU38.r 904 123 974 rfl) ?_
              refine l_iload_n rfl rfl ?_
              refine l_iaload (n := 2400) rfl rfl (by omega) (by omega) (by unfold rg; omega) ?_
              have w140 : -2147483648 ≤ (Xi U38 974 ((q).toNat)) ∧ (Xi U38 974 ((q).toNat)) ≤ 2147483647 := Xi_rgI
              have e415 : (Xi U38 974 ((q).toNat)) = Xi S 974 q.toNat := by first | rfl | exact (hFU38.cx 974 rfl _).1
              refine l_iastore (n := 288) rfl rfl (by omega) (by omega) (by unfold rg; omega) ?_
              obtain ⟨U39, eU39⟩ : ∃ T : sS, T = uI U38 932 ((((12 * z72) + (Xi S 972 ((q).toNat)))).toNat) (Int32.ofInt (Xi U38 974 ((q).toNat))) := ⟨_, rfl⟩
              rw [← eU39]
              have hHU39 : HI U39 := by rw [eU39]; exact HI_any hHU38 (rfl)
              have hFU39 : FR md_mo_nows S U39 := by rw [eU39]; exact FR.wI hFU38 (mdf_i (r := (932, 933, 0, 100000)) (List.mem_of_getElem? (i := 3) rfl) (inR_i (by omega) (by omega) (by omega) (by omega)))
              have w141 : Xi U39 932 ((((12 * z72) + (Xi S 972 ((q).toNat)))).toNat) = (Xi U38 974 ((q).toNat)) := by rw [eU39]; exact Xi_same (by unfold rg; omega)
              have x416 : TXM U39 := txm_w (o := z72) (p := (Xi S 972 ((q).toNat))) eU37 eU38 eU39 rfl (by omega) (by omega) (by omega) (by omega) (by unfold rg; omega) (by unfold rg; omega) (fun _ => by first | exact Or.inl (by omega) | exact okt_2 (hk1.2.2.2.2 (by omega)) (by omega) (by omega)) hX
              refine l_return rfl rfl ?_
              exact ⟨hHU39, hFU39, rfl, (by first | exact x416 | assumption | exact TXM_FR (FR_e eU39) rfl (by first | assumption | exact TXM_FR (FR_e eU38) rfl hX))⟩
            · refine l_iconst rfl ?_
              refine l_goto rfl rfl ?_
              refine l_iastore (n := 288) rfl rfl (by omega) (by omega) (by unfold rg; omega) ?_
              obtain ⟨U40, eU40⟩ : ∃ T : sS, T = uI U38 932 ((((12 * z72) + (Xi S 972 ((q).toNat)))).toNat) (Int32.ofInt 0) := ⟨_, rfl⟩
              rw [← eU40]
              have hHU40 : HI U40 := by rw [eU40]; exact HI_any hHU38 (rfl)
              have hFU40 : FR md_mo_nows S U40 := by rw [eU40]; exact FR.wI hFU38 (mdf_i (r := (932, 933, 0, 100000)) (List.mem_of_getElem? (i := 3) rfl) (inR_i (by omega) (by omega) (by omega) (by omega)))
              have w142 : Xi U40 932 ((((12 * z72) + (Xi S 972 ((q).toNat)))).toNat) = 0 := by rw [eU40]; exact Xi_same (by unfold rg; omega)
              have x416 : TXM U40 := txm_w (o := z72) (p := (Xi S 972 ((q).toNat))) eU37 eU38 eU40 rfl (by omega) (by omega) (by omega) (by omega) (by unfold rg; omega) (by unfold rg; omega) (fun _ => by first | exact Or.inl (by omega) | exact okt_2 (hk1.2.2.2.2 (by omega)) (by omega) (by omega)) hX
              refine l_return rfl rfl ?_
              exact ⟨hHU40, hFU40, rfl, (by first | exact x416 | assumption | exact TXM_FR (FR_e eU40) rfl (by first | assumption | exact TXM_FR (FR_e eU38) rfl hX))⟩
          · refine l_aload_n rfl rfl ?_
            refine l_gfr rfl rfl rfl rfl rfl (hHU37.r 904 122 973 rfl) ?_
            refine l_iload_n rfl rfl ?_
            refine l_iaload (n := 2400) rfl rfl (by omega) (by omega) (by unfold rg; omega) ?_
            have w143 : (Xi U37 973 ((q).toNat)) = (Xi S 973 ((q).toNat)) := (show Xi U37 973 ((q).toNat) = Xi S 973 ((q).toNat) from by rw [eU37]; exact Xi_ne (by omega))
            rw [w143]
            refine l_bipush rfl rfl ?_
            refine l_idivP rfl (by omega) (by omega) (by unfold rg; omega) (by unfold rg; omega) ?_
            refine l_iconst rfl ?_
            refine l_isub rfl ?_
            refine l_goto rfl rfl ?_
            refine l_iastore (n := 288) rfl rfl (by omega) (by omega) (by unfold rg; omega) ?_
            obtain ⟨U41, eU41⟩ : ∃ T : sS, T = uI U37 931 ((((12 * z72) + (Xi S 972 ((q).toNat)))).toNat) (Int32.ofInt (((Xi S 973 ((q).toNat)) / 100) - 1)) := ⟨_, rfl⟩
            rw [← eU41]
            have hHU41 : HI U41 := by rw [eU41]; exact HI_any hHU37 (rfl)
            have hFU41 : FR md_mo_nows S U41 := by rw [eU41]; exact FR.wI hFU37 (mdf_i (r := (931, 932, 0, 100000)) (List.mem_of_getElem? (i := 2) rfl) (inR_i (by omega) (by omega) (by omega) (by omega)))
            have w145 : Xi U41 931 ((((12 * z72) + (Xi S 972 ((q).toNat)))).toNat) = (((Xi S 973 ((q).toNat)) / 100) - 1) := by rw [eU41]; exact Xi_same (by unfold rg; omega)
            refine l_aload_n rfl rfl ?_
            refine l_gfr rfl rfl rfl rfl rfl (hHU41.r 904 37 932 rfl) ?_
            refine l_bipush rfl rfl ?_
            refine l_iload_n rfl rfl ?_
            refine l_imul rfl ?_
            refine l_iload rfl rfl ?_
            refine l_iadd rfl ?_
            refine l_aload_n rfl rfl ?_
            refine l_gfr rfl rfl rfl rfl rfl (hHU41.r 904 118 969 rfl) ?_
            refine l_iload_n rfl rfl ?_
            refine l_iaload (n := 2400) rfl rfl (by omega) (by omega) (by unfold rg; omega) ?_
            have w146 : (Xi U41 969 ((q).toNat)) = (Xi S 969 ((q).toNat)) := (show Xi U41 969 ((q).toNat) = Xi U37 969 ((q).toNat) from by rw [eU41]; exact Xi_ne (by omega)).trans ((show Xi U37 969 ((q).toNat) = Xi S 969 ((q).toNat) from by rw [eU37]; exact Xi_ne (by omega)))
            rw [w146]
            refine l_iconst rfl ?_
            refine l_icmp_ne rfl rfl (by unfold rg; omega) (by unfold rg; omega) (fun w147 => ?_) (fun w148 => ?_)
            · refine l_aload_n rfl rfl ?_
              refine l_gfr rfl rfl rfl rfl rfl (hHU41.r 904 123 974 rfl) ?_
              refine l_iload_n rfl rfl ?_
              refine l_iaload (n := 2400) rfl rfl (by omega) (by omega) (by unfold rg; omega) ?_
              have w149 : -2147483648 ≤ (Xi U41 974 ((q).toNat)) ∧ (Xi U41 974 ((q).toNat)) ≤ 2147483647 := Xi_rgI
              have e415 : (Xi U41 974 ((q).toNat)) = Xi S 974 q.toNat := by first | rfl | exact (hFU41.cx 974 rfl _).1
              refine l_iastore (n := 288) rfl rfl (by omega) (by omega) (by unfold rg; omega) ?_
              obtain ⟨U42, eU42⟩ : ∃ T : sS, T = uI U41 932 ((((12 * z72) + (Xi S 972 ((q).toNat)))).toNat) (Int32.ofInt (Xi U41 974 ((q).toNat))) := ⟨_, rfl⟩
              rw [← eU42]
              have hHU42 : HI U42 := by rw [eU42]; exact HI_any hHU41 (rfl)
              have hFU42 : FR md_mo_nows S U42 := by rw [eU42]; exact FR.wI hFU41 (mdf_i (r := (932, 933, 0, 100000)) (List.mem_of_getElem? (i := 3) rfl) (inR_i (by omega) (by omega) (by omega) (by omega)))
              have w150 : Xi U42 932 ((((12 * z72) + (Xi S 972 ((q).toNat)))).toNat) = (Xi U41 974 ((q).toNat)) := by rw [eU42]; exact Xi_same (by unfold rg; omega)
              have x416 : TXM U42 := txm_w (o := z72) (p := (Xi S 972 ((q).toNat))) eU37 eU41 eU42 rfl (by omega) (by omega) (by omega) (by omega) (by unfold rg; omega) (by unfold rg; omega) (fun _ => by first | exact Or.inl (by omega) | exact okt_2 (hk1.2.2.2.2 (by omega)) (by omega) (by omega)) hX
              refine l_return rfl rfl ?_
              exact ⟨hHU42, hFU42, rfl, (by first | exact x416 | assumption | exact TXM_FR (FR_e eU42) rfl (by first | assumption | exact TXM_FR (FR_e eU41) rfl hX))⟩
            · refine l_iconst rfl ?_
              refine l_goto rfl rfl ?_
              refine l_iastore (n := 288) rfl rfl (by omega) (by omega) (by unfold rg; omega) ?_
              obtain ⟨U43, eU43⟩ : ∃ T : sS, T = uI U41 932 ((((12 * z72) + (Xi S 972 ((q).toNat)))).toNat) (Int32.ofInt 0) := ⟨_, rfl⟩
              rw [← eU43]
              have hHU43 : HI U43 := by rw [eU43]; exact HI_any hHU41 (rfl)
              have hFU43 : FR md_mo_nows S U43 := by rw [eU43]; exact FR.wI hFU41 (mdf_i (r := (932, 933, 0, 100000)) (List.mem_of_getElem? (i := 3) rfl) (inR_i (by omega) (by omega) (by omega) (by omega)))
              have w151 : Xi U43 932 ((((12 * z72) + (Xi S 972 ((q).toNat)))).toNat) = 0 := by rw [eU43]; exact Xi_same (by unfold rg; omega)
              have x416 : TXM U43 := txm_w (o := z72) (p := (Xi S 972 ((q).toNat))) eU37 eU41 eU43 rfl (by omega) (by omega) (by omega) (by omega) (by unfold rg; omega) (by unfold rg; omega) (fun _ => by first | exact Or.inl (by omega) | exact okt_2 (hk1.2.2.2.2 (by omega)) (by omega) (by omega)) hX
              refine l_return rfl rfl ?_
              exact ⟨hHU43, hFU43, rfl, (by first | exact x416 | assumption | exact TXM_FR (FR_e eU43) rfl (by first | assumption | exact TXM_FR (FR_e eU41) rfl hX))⟩
        · refine l_aload_n rfl rfl ?_
          refine l_gfr rfl rfl rfl rfl rfl (hH.r 904 122 973 rfl) ?_
          refine l_iload_n rfl rfl ?_
          refine l_iaload (n := 2400) rfl rfl (by omega) (by omega) (by unfold rg; omega) ?_
          refine l_bipush rfl rfl ?_
          refine l_iremA rfl (by omega) (by unfold rg; omega) (by unfold rg; omega) (fun c152 w152 w152b w152c => ?_)
          refine l_goto rfl rfl ?_
          refine l_istore rfl rfl rfl ?_
          refine l_aload_n rfl rfl ?_
          refine l_gfr rfl rfl rfl rfl rfl (hH.r 904 35 930 rfl) ?_
          refine l_bipush rfl rfl ?_
          refine l_iload_n rfl rfl ?_
          refine l_imul rfl ?_
          refine l_iload rfl rfl ?_
          refine l_iadd rfl ?_
          refine l_iconst rfl ?_
          refine l_bastoreZ1 (n := 288) rfl rfl (by omega) (by omega) (by unfold rg; omega) ⟨by omega, by omega⟩ ?_
          obtain ⟨U44, eU44⟩ : ∃ T : sS, T = uI S 930 ((((12 * z72) + c152)).toNat) (Int32.ofInt 1) := ⟨_, rfl⟩
          rw [← eU44]
          have hHU44 : HI U44 := by rw [eU44]; exact HI_w hH (show 0 ≤ 1 by omega) (show 1 ≤ 1 by omega)
          have hFU44 : FR md_mo_nows S U44 := by rw [eU44]; exact FR.wI hF (mdf_i (r := (930, 931, 0, 100000)) (List.mem_of_getElem? (i := 1) rfl) (inR_i (by omega) (by omega) (by omega) (by omega)))
          have w153 : Xi U44 930 ((((12 * z72) + c152)).toNat) = 1 := by rw [eU44]; exact Xi_same (by unfold rg; omega)
          refine l_aload_n rfl rfl ?_
          refine l_gfr rfl rfl rfl rfl rfl (hHU44.r 904 36 931 rfl) ?_
          refine l_bipush rfl rfl ?_
          refine l_iload_n rfl rfl ?_
          refine l_imul rfl ?_
          refine l_iload rfl rfl ?_
          refine l_iadd rfl ?_
          refine l_aload_n rfl rfl ?_
          refine l_gfr rfl rfl rfl rfl rfl (hHU44.r 904 118 969 rfl) ?_
          refine l_iload_n rfl rfl ?_
          refine l_iaload (n := 2400) rfl rfl (by omega) (by omega) (by unfold rg; omega) ?_
          have w154 : (Xi U44 969 ((q).toNat)) = (Xi S 969 ((q).toNat)) := (show Xi U44 969 ((q).toNat) = Xi S 969 ((q).toNat) from by rw [eU44]; exact Xi_ne (by omega))
          rw [w154]
          refine l_iconst rfl ?_
          refine l_icmp_ne rfl rfl (by unfold rg; omega) (by unfold rg; omega) (fun w155 => ?_) (fun w156 => ?_)
          · refine l_aload_n rfl rfl ?_
            refine l_gfr rfl rfl rfl rfl rfl (hHU44.r 904 122 973 rfl) ?_
            refine l_iload_n rfl rfl ?_
            refine l_iaload (n := 2400) rfl rfl (by omega) (by omega) (by unfold rg; omega) ?_
            have w157 : (Xi U44 973 ((q).toNat)) = (Xi S 973 ((q).toNat)) := (show Xi U44 973 ((q).toNat) = Xi S 973 ((q).toNat) from by rw [eU44]; exact Xi_ne (by omega))
            rw [w157]
            have e383 : (Xi S 973 ((q).toNat)) = Xi S 973 q.toNat := by first | rfl | exact (hFU44.cx 973 rfl _).1
            refine l_iastore (n := 288) rfl rfl (by omega) (by omega) (by unfold rg; omega) ?_
            obtain ⟨U45, eU45⟩ : ∃ T : sS, T = uI U44 931 ((((12 * z72) + c152)).toNat) (Int32.ofInt (Xi S 973 ((q).toNat))) := ⟨_, rfl⟩
            rw [← eU45]
            have hHU45 : HI U45 := by rw [eU45]; exact HI_any hHU44 (rfl)
            have hFU45 : FR md_mo_nows S U45 := by rw [eU45]; exact FR.wI hFU44 (mdf_i (r := (931, 932, 0, 100000)) (List.mem_of_getElem? (i := 2) rfl) (inR_i (by omega) (by omega) (by omega) (by omega)))
            have w158 : Xi U45 931 ((((12 * z72) + c152)).toNat) = (Xi S 973 ((q).toNat)) := by rw [eU45]; exact Xi_same (by unfold rg; omega)
            refine l_aload_n rfl rfl ?_
            refine l_gfr rfl rfl rfl rfl rfl (hHU45.r 904 37 932 rfl) ?_
            refine l_bipush rfl rfl ?_
            refine l_iload_n rfl rfl ?_
            refine l_imul rfl ?_
            refine l_iload rfl rfl ?_
            refine l_iadd rfl ?_
            refine l_aload_n rfl rfl ?_
            refine l_gfr rfl rfl rfl rfl rfl (hHU45.r 904 118 969 rfl) ?_
            refine l_iload_n rfl rfl ?_
            refine l_iaload (n := 2400) rfl rfl (by omega) (by omega) (by unfold rg; omega) ?_
            have w159 : (Xi U45 969 ((q).toNat)) = (Xi S 969 ((q).toNat)) := (show Xi U45 969 ((q).toNat) = Xi U44 969 ((q).toNat) from by rw [eU45]; exact Xi_ne (by omega)).trans ((show Xi U44 969 ((q).toNat) = Xi S 969 ((q).toNat) from by rw [eU44]; exact Xi_ne (by omega)))
            rw [w159]
            refine l_iconst rfl ?_
            refine l_icmp_ne rfl rfl (by unfold rg; omega) (by unfold rg; omega) (fun w160 => ?_) (fun w161 => ?_)
            · refine l_aload_n rfl rfl ?_
              refine l_gfr rfl rfl rfl rfl rfl (hHU45.r 904 123 974 rfl) ?_
              refine l_iload_n rfl rfl ?_
              refine l_iaload (n := 2400) rfl rfl (by omega) (by omega) (by unfold rg; omega) ?_
              have w162 : -2147483648 ≤ (Xi U45 974 ((q).toNat)) ∧ (Xi U45 974 ((q).toNat)) ≤ 2147483647 := Xi_rgI
              have e415 : (Xi U45 974 ((q).toNat)) = Xi S 974 q.toNat := by first | rfl | exact (hFU45.cx 974 rfl _).1
              refine l_iastore (n := 288) rfl rfl (by omega) (by omega) (by unfold rg; omega) ?_
              obtain ⟨U46, eU46⟩ : ∃ T : sS, T = uI U45 932 ((((12 * z72) + c152)).toNat) (Int32.ofInt (Xi U45 974 ((q).toNat))) := ⟨_, rfl⟩
              rw [← eU46]
              have hHU46 : HI U46 := by rw [eU46]; exact HI_any hHU45 (rfl)
              have hFU46 : FR md_mo_nows S U46 := by rw [eU46]; exact FR.wI hFU45 (mdf_i (r := (932, 933, 0, 100000)) (List.mem_of_getElem? (i := 3) rfl) (inR_i (by omega) (by omega) (by omega) (by omega)))
              have w163 : Xi U46 932 ((((12 * z72) + c152)).toNat) = (Xi U45 974 ((q).toNat)) := by rw [eU46]; exact Xi_same (by unfold rg; omega)
              have x416 : TXM U46 := txm_w (o := z72) (p := c152) eU44 eU45 eU46 rfl (by omega) (by omega) (by omega) (by omega) (by unfold rg; omega) (by unfold rg; omega) (fun _ => by first | exact Or.inl (by omega) | exact okt_2 (hk1.2.2.2.2 (by omega)) (by omega) (by omega)) hX
              refine l_return rfl rfl ?_
              exact ⟨hHU46, hFU46, rfl, (by first | exact x416 | assumption | exact TXM_FR (FR_e eU46) rfl (by first | assumption | exact TXM_FR (FR_e eU45) rfl hX))⟩
            · refine l_iconst rfl ?_
              refine l_goto rfl rfl ?_
              refine l_iastore (n := 288) rfl rfl (by omega) (by omega) (by unfold rg; omega) ?_
              obtain ⟨U47, eU47⟩ : ∃ T : sS, T = uI U45 932 ((((12 * z72) + c152)).toNat) (Int32.ofInt 0) := ⟨_, rfl⟩
              rw [← eU47]
              have hHU47 : HI U47 := by rw [eU47]; exact HI_any hHU45 (rfl)
              have hFU47 : FR md_mo_nows S U47 := by rw [eU47]; exact FR.wI hFU45 (mdf_i (r := (932, 933, 0, 100000)) (List.mem_of_getElem? (i := 3) rfl) (inR_i (by omega) (by omega) (by omega) (by omega)))
              have w164 : Xi U47 932 ((((12 * z72) + c152)).toNat) = 0 := by rw [eU47]; exact Xi_same (by unfold rg; omega)
              have x416 : TXM U47 := txm_w (o := z72) (p := c152) eU44 eU45 eU47 rfl (by omega) (by omega) (by omega) (by omega) (by unfold rg; omega) (by unfold rg; omega) (fun _ => by first | exact Or.inl (by omega) | exact okt_2 (hk1.2.2.2.2 (by omega)) (by omega) (by omega)) hX
              refine l_return rfl rfl ?_
              exact ⟨hHU47, hFU47, rfl, (by first | exact x416 | assumption | exact TXM_FR (FR_e eU47) rfl (by first | assumption | exact TXM_FR (FR_e eU45) rfl hX))⟩
          · refine l_aload_n rfl rfl ?_
            refine l_gfr rfl rfl rfl rfl rfl (hHU44.r 904 122 973 rfl) ?_
            refine l_iload_n rfl rfl ?_
            refine l_iaload (n := 2400) rfl rfl (by omega) (by omega) (by unfold rg; omega) ?_
            have w165 : (Xi U44 973 ((q).toNat)) = (Xi S 973 ((q).toNat)) := (show Xi U44 973 ((q).toNat) = Xi S 973 ((q).toNat) from by rw [eU44]; exact Xi_ne (by omega))
            rw [w165]
            refine l_bipush rfl rfl ?_
            refine l_idivP rfl (by omega) (by omega) (by unfold rg; omega) (by unfold rg; omega) ?_
            refine l_iconst rfl ?_
            refine l_isub rfl ?_
            refine l_goto rfl rfl ?_
            refine l_iastore (n := 288) rfl rfl (by omega) (by omega) (by unfold rg; omega) ?_
            obtain ⟨U48, eU48⟩ : ∃ T : sS, T = uI U44 931 ((((12 * z72) + c152)).toNat) (Int32.ofInt (((Xi S 973 ((q).toNat)) / 100) - 1)) := ⟨_, rfl⟩
            rw [← eU48]
            have hHU48 : HI U48 := by rw [eU48]; exact HI_any hHU44 (rfl)
            have hFU48 : FR md_mo_nows S U48 := by rw [eU48]; exact FR.wI hFU44 (mdf_i (r := (931, 932, 0, 100000)) (List.mem_of_getElem? (i := 2) rfl) (inR_i (by omega) (by omega) (by omega) (by omega)))
            have w167 : Xi U48 931 ((((12 * z72) + c152)).toNat) = (((Xi S 973 ((q).toNat)) / 100) - 1) := by rw [eU48]; exact Xi_same (by unfold rg; omega)
            refine l_aload_n rfl rfl ?_
            refine l_gfr rfl rfl rfl rfl rfl (hHU48.r 904 37 932 rfl) ?_
            refine l_bipush rfl rfl ?_
            refine l_iload_n rfl rfl ?_
            refine l_imul rfl ?_
            refine l_iload rfl rfl ?_
            refine l_iadd rfl ?_
            refine l_aload_n rfl rfl ?_
            refine l_gfr rfl rfl rfl rfl rfl (hHU48.r 904 118 969 rfl) ?_
            refine l_iload_n rfl rfl ?_
            refine l_iaload (n := 2400) rfl rfl (by omega) (by omega) (by unfold rg; omega) ?_
            have w168 : (Xi U48 969 ((q).toNat)) = (Xi S 969 ((q).toNat)) := (show Xi U48 969 ((q).toNat) = Xi U44 969 ((q).toNat) from by rw [eU48]; exact Xi_ne (by omega)).trans ((show Xi U44 969 ((q).toNat) = Xi S 969 ((q).toNat) from by rw [eU44]; exact Xi_ne (by omega)))
            rw [w168]
            refine l_iconst rfl ?_
            refine l_icmp_ne rfl rfl (by unfold rg; omega) (by unfold rg; omega) (fun w169 => ?_) (fun w170 => ?_)
            · refine l_aload_n rfl rfl ?_
              refine l_gfr rfl rfl rfl rfl rfl (hHU48.r 904 123 974 rfl) ?_
              refine l_iload_n rfl rfl ?_
              refine l_iaload (n := 2400) rfl rfl (by omega) (by omega) (by unfold rg; omega) ?_
              have w171 : -2147483648 ≤ (Xi U48 974 ((q).toNat)) ∧ (Xi U48 974 ((q).toNat)) ≤ 2147483647 := Xi_rgI
              have e415 : (Xi U48 974 ((q).toNat)) = Xi S 974 q.toNat := by first | rfl | exact (hFU48.cx 974 rfl _).1
              refine l_iastore (n := 288) rfl rfl (by omega) (by omega) (by unfold rg; omega) ?_
              obtain ⟨U49, eU49⟩ : ∃ T : sS, T = uI U48 932 ((((12 * z72) + c152)).toNat) (Int32.ofInt (Xi U48 974 ((q).toNat))) := ⟨_, rfl⟩
              rw [← eU49]
              have hHU49 : HI U49 := by rw [eU49]; exact HI_any hHU48 (rfl)
              have hFU49 : FR md_mo_nows S U49 := by rw [eU49]; exact FR.wI hFU48 (mdf_i (r := (932, 933, 0, 100000)) (List.mem_of_getElem? (i := 3) rfl) (inR_i (by omega) (by omega) (by omega) (by omega)))
              have w172 : Xi U49 932 ((((12 * z72) + c152)).toNat) = (Xi U48 974 ((q).toNat)) := by rw [eU49]; exact Xi_same (by unfold rg; omega)
              have x416 : TXM U49 := txm_w (o := z72) (p := c152) eU44 eU48 eU49 rfl (by omega) (by omega) (by omega) (by omega) (by unfold rg; omega) (by unfold rg; omega) (fun _ => by first | exact Or.inl (by omega) | exact okt_2 (hk1.2.2.2.2 (by omega)) (by omega) (by omega)) hX
              refine l_return rfl rfl ?_
              exact ⟨hHU49, hFU49, rfl, (by first | exact x416 | assumption | exact TXM_FR (FR_e eU49) rfl (by first | assumption | exact TXM_FR (FR_e eU48) rfl hX))⟩
            · refine l_iconst rfl ?_
              refine l_goto rfl rfl ?_
              refine l_iastore (n := 288) rfl rfl (by omega) (by omega) (by unfold rg; omega) ?_
              obtain ⟨U50, eU50⟩ : ∃ T : sS, T = uI U48 932 ((((12 * z72) + c152)).toNat) (Int32.ofInt 0) := ⟨_, rfl⟩
              rw [← eU50]
              have hHU50 : HI U50 := by rw [eU50]; exact HI_any hHU48 (rfl)
              have hFU50 : FR md_mo_nows S U50 := by rw [eU50]; exact FR.wI hFU48 (mdf_i (r := (932, 933, 0, 100000)) (List.mem_of_getElem? (i := 3) rfl) (inR_i (by omega) (by omega) (by omega) (by omega)))
              have w173 : Xi U50 932 ((((12 * z72) + c152)).toNat) = 0 := by rw [eU50]; exact Xi_same (by unfold rg; omega)
              have x416 : TXM U50 := txm_w (o := z72) (p := c152) eU44 eU48 eU50 rfl (by omega) (by omega) (by omega) (by omega) (by unfold rg; omega) (by unfold rg; omega) (fun _ => by first | exact Or.inl (by omega) | exact okt_2 (hk1.2.2.2.2 (by omega)) (by omega) (by omega)) hX
              refine l_return rfl rfl ?_
              exact ⟨hHU50, hFU50, rfl, (by first | exact x416 | assumption | exact TXM_FR (FR_e eU50) rfl (by first | assumption | exact TXM_FR (FR_e eU48) rfl hX))⟩
      · refine l_aload_n rfl rfl ?_
        refine l_gfr rfl rfl rfl rfl rfl (hH.r 904 122 973 rfl) ?_
        refine l_iload_n rfl rfl ?_
        refine l_iaload (n := 2400) rfl rfl (by omega) (by omega) (by unfold rg; omega) ?_
        refine l_istore rfl rfl rfl ?_
        refine l_aload_n rfl rfl ?_
        refine l_gfr rfl rfl rfl rfl rfl (hH.r 904 28 925 rfl) ?_
        refine l_bipush rfl rfl ?_
        refine l_iload_n rfl rfl ?_
        refine l_imul rfl ?_
        refine l_iload rfl rfl ?_
        refine l_iadd rfl ?_
        refine l_aload_n rfl rfl ?_
        refine l_gfr rfl rfl rfl rfl rfl (hH.r 904 119 970 rfl) ?_
        refine l_iload_n rfl rfl ?_
        refine l_baload (n := 2400) rfl rfl rfl (by decide) (by omega) (by omega) (by unfold rg; omega) ?_
        have w174 : 0 ≤ (Xi S 970 ((q).toNat)) ∧ (Xi S 970 ((q).toNat)) ≤ 1 := hH.c _ _
        refine l_if_eq rfl rfl (by unfold rg; omega) (fun w175 => ?_) (fun w176 => ?_)
        · refine l_iconst rfl ?_
          refine l_iastore (n := 576) rfl rfl (by omega) (by omega) (by unfold rg; omega) ?_
          obtain ⟨U51, eU51⟩ : ∃ T : sS, T = uI S 925 ((((24 * z72) + (Xi S 973 ((q).toNat)))).toNat) (Int32.ofInt 1) := ⟨_, rfl⟩
          rw [← eU51]
          have hHU51 : HI U51 := by rw [eU51]; exact HI_w hH (show 0 ≤ 1 by omega) (show 1 ≤ 2 by omega)
          have hFU51 : FR md_mo_nows S U51 := by rw [eU51]; exact FR.wI hF (mdf_i (r := (925, 926, 0, 100000)) (List.mem_of_getElem? (i := 0) rfl) (inR_i (by omega) (by omega) (by omega) (by omega)))
          have w177 : Xi U51 925 ((((24 * z72) + (Xi S 973 ((q).toNat)))).toNat) = 1 := by rw [eU51]; exact Xi_same (by unfold rg; omega)
          refine l_aload_n rfl rfl ?_
          refine l_gfr rfl rfl rfl rfl rfl (hHU51.r 904 28 925 rfl) ?_
          refine l_bipush rfl rfl ?_
          refine l_iload_n rfl rfl ?_
          refine l_imul rfl ?_
          refine l_aload_n rfl rfl ?_
          refine l_gfr rfl rfl rfl rfl rfl (hHU51.r 904 25 922 rfl) ?_
          refine l_iload rfl rfl ?_
          refine l_iaload (n := 24) rfl rfl (by omega) (by omega) (by unfold rg; omega) ?_
          have w178 : -1 ≤ (Xi U51 922 (((Xi S 973 ((q).toNat))).toNat)) ∧ (Xi U51 922 (((Xi S 973 ((q).toNat))).toNat)) ≤ 23 := hHU51.c _ _
          have e280 : (Xi U51 922 (((Xi S 973 ((q).toNat))).toNat)) = Xi S 922 (Xi S 973 q.toNat).toNat := by first | rfl | exact (hFU51.cx 922 rfl _).1
          refine l_iadd rfl ?_
          refine l_aload_n rfl rfl ?_
          refine l_gfr rfl rfl rfl rfl rfl (hHU51.r 904 119 970 rfl) ?_
          refine l_iload_n rfl rfl ?_
          refine l_baload (n := 2400) rfl rfl rfl (by decide) (by omega) (by omega) (by unfold rg; omega) ?_
          have w179 : (Xi U51 970 ((q).toNat)) = (Xi S 970 ((q).toNat)) := (show Xi U51 970 ((q).toNat) = Xi S 970 ((q).toNat) from by rw [eU51]; exact Xi_ne (by omega))
          rw [w179]
          refine l_if_eq rfl rfl (by unfold rg; omega) (fun w180 => ?_) (fun w181 => ?_)
          · refine l_iconst rfl ?_
            refine l_iastore (n := 576) rfl rfl (by omega) (by omega) (by unfold rg; omega) ?_
            obtain ⟨U52, eU52⟩ : ∃ T : sS, T = uI U51 925 ((((24 * z72) + (Xi U51 922 (((Xi S 973 ((q).toNat))).toNat)))).toNat) (Int32.ofInt 2) := ⟨_, rfl⟩
            rw [← eU52]
            have hHU52 : HI U52 := by rw [eU52]; exact HI_w hHU51 (show 0 ≤ 2 by omega) (show 2 ≤ 2 by omega)
            have hFU52 : FR md_mo_nows S U52 := by rw [eU52]; exact FR.wI hFU51 (mdf_i (r := (925, 926, 0, 100000)) (List.mem_of_getElem? (i := 0) rfl) (inR_i (by omega) (by omega) (by omega) (by omega)))
            have w182 : Xi U52 925 ((((24 * z72) + (Xi U51 922 (((Xi S 973 ((q).toNat))).toNat)))).toNat) = 2 := by rw [eU52]; exact Xi_same (by unfold rg; omega)
            refine l_goto rfl rfl ?_
            refine l_return rfl rfl ?_
            exact ⟨hHU52, hFU52, rfl, (by first | exact x416 | assumption | exact TXM_FR (FR_e eU52) rfl (by first | assumption | exact TXM_FR (FR_e eU51) rfl hX))⟩
          · refine l_iconst rfl ?_
            refine l_goto rfl rfl ?_
            refine l_iastore (n := 576) rfl rfl (by omega) (by omega) (by unfold rg; omega) ?_
            obtain ⟨U53, eU53⟩ : ∃ T : sS, T = uI U51 925 ((((24 * z72) + (Xi U51 922 (((Xi S 973 ((q).toNat))).toNat)))).toNat) (Int32.ofInt 1) := ⟨_, rfl⟩
            rw [← eU53]
            have hHU53 : HI U53 := by rw [eU53]; exact HI_w hHU51 (show 0 ≤ 1 by omega) (show 1 ≤ 2 by omega)
            have hFU53 : FR md_mo_nows S U53 := by rw [eU53]; exact FR.wI hFU51 (mdf_i (r := (925, 926, 0, 100000)) (List.mem_of_getElem? (i := 0) rfl) (inR_i (by omega) (by omega) (by omega) (by omega)))
            have w183 : Xi U53 925 ((((24 * z72) + (Xi U51 922 (((Xi S 973 ((q).toNat))).toNat)))).toNat) = 1 := by rw [eU53]; exact Xi_same (by unfold rg; omega)
            refine l_goto rfl rfl ?_
            refine l_return rfl rfl ?_
            exact ⟨hHU53, hFU53, rfl, (by first | exact x416 | assumption | exact TXM_FR (FR_e eU53) rfl (by first | assumption | exact TXM_FR (FR_e eU51) rfl hX))⟩
        · refine l_iconst rfl ?_
          refine l_goto rfl rfl ?_
          refine l_iastore (n := 576) rfl rfl (by omega) (by omega) (by unfold rg; omega) ?_
          obtain ⟨U54, eU54⟩ : ∃ T : sS, T = uI S 925 ((((24 * z72) + (Xi S 973 ((q).toNat)))).toNat) (Int32.ofInt 2) := ⟨_, rfl⟩
          rw [← eU54]
          have hHU54 : HI U54 := by rw [eU54]; exact HI_w hH (show 0 ≤ 2 by omega) (show 2 ≤ 2 by omega)
          have hFU54 : FR md_mo_nows S U54 := by rw [eU54]; exact FR.wI hF (mdf_i (r := (925, 926, 0, 100000)) (List.mem_of_getElem? (i := 0) rfl) (inR_i (by omega) (by omega) (by omega) (by omega)))
          have w184 : Xi U54 925 ((((24 * z72) + (Xi S 973 ((q).toNat)))).toNat) = 2 := by rw [eU54]; exact Xi_same (by unfold rg; omega)
          refine l_aload_n rfl rfl ?_
          refine l_gfr rfl rfl rfl rfl rfl (hHU54.r 904 28 925 rfl) ?_
          refine l_bipush rfl rfl ?_
          refine l_iload_n rfl rfl ?_
          refine l_imul rfl ?_
          refine l_aload_n rfl rfl ?_
          refine l_gfr rfl rfl rfl rfl rfl (hHU54.r 904 25 922 rfl) ?_
          refine l_iload rfl rfl ?_
          refine l_iaload (n := 24) rfl rfl (by omega) (by omega) (by unfold rg; omega) ?_
          have w185 : -1 ≤ (Xi U54 922 (((Xi S 973 ((q).toNat))).toNat)) ∧ (Xi U54 922 (((Xi S 973 ((q).toNat))).toNat)) ≤ 23 := hHU54.c _ _
          have e280 : (Xi U54 922 (((Xi S 973 ((q).toNat))).toNat)) = Xi S 922 (Xi S 973 q.toNat).toNat := by first | rfl | exact (hFU54.cx 922 rfl _).1
          refine l_iadd rfl ?_
          refine l_aload_n rfl rfl ?_
          refine l_gfr rfl rfl rfl rfl rfl (hHU54.r 904 119 970 rfl) ?_
          refine l_iload_n rfl rfl ?_
          refine l_baload (n := 2400) rfl rfl rfl (by decide) (by omega) (by omega) (by unfold rg; omega) ?_
          have w186 : (Xi U54 970 ((q).toNat)) = (Xi S 970 ((q).toNat)) := (show Xi U54 970 ((q).toNat) = Xi S 970 ((q).toNat) from by rw [eU54]; exact Xi_ne (by omega))
          rw [w186]
          refine l_if_eq rfl rfl (by unfold rg; omega) (fun w187 => ?_) (fun w188 => ?_)
          · refine l_iconst rfl ?_
            refine l_iastore (n := 576) rfl rfl (by omega) (by omega) (by unfold rg; omega) ?_
            obtain ⟨U55, eU55⟩ : ∃ T : sS, T = uI U54 925 ((((24 * z72) + (Xi U54 922 (((Xi S 973 ((q).toNat))).toNat)))).toNat) (Int32.ofInt 2) := ⟨_, rfl⟩
            rw [← eU55]
            have hHU55 : HI U55 := by rw [eU55]; exact HI_w hHU54 (show 0 ≤ 2 by omega) (show 2 ≤ 2 by omega)
            have hFU55 : FR md_mo_nows S U55 := by rw [eU55]; exact FR.wI hFU54 (mdf_i (r := (925, 926, 0, 100000)) (List.mem_of_getElem? (i := 0) rfl) (inR_i (by omega) (by omega) (by omega) (by omega)))
            have w189 : Xi U55 925 ((((24 * z72) + (Xi U54 922 (((Xi S 973 ((q).toNat))).toNat)))).toNat) = 2 := by rw [eU55]; exact Xi_same (by unfold rg; omega)
            refine l_goto rfl rfl ?_
            refine l_return rfl rfl ?_
            exact ⟨hHU55, hFU55, rfl, (by first | exact x416 | assumption | exact TXM_FR (FR_e eU55) rfl (by first | assumption | exact TXM_FR (FR_e eU54) rfl hX))⟩
          · refine l_iconst rfl ?_
            refine l_goto rfl rfl ?_
            refine l_iastore (n := 576) rfl rfl (by omega) (by omega) (by unfold rg; omega) ?_
            obtain ⟨U56, eU56⟩ : ∃ T : sS, T = uI U54 925 ((((24 * z72) + (Xi U54 922 (((Xi S 973 ((q).toNat))).toNat)))).toNat) (Int32.ofInt 1) := ⟨_, rfl⟩
            rw [← eU56]
            have hHU56 : HI U56 := by rw [eU56]; exact HI_w hHU54 (show 0 ≤ 1 by omega) (show 1 ≤ 2 by omega)
            have hFU56 : FR md_mo_nows S U56 := by rw [eU56]; exact FR.wI hFU54 (mdf_i (r := (925, 926, 0, 100000)) (List.mem_of_getElem? (i := 0) rfl) (inR_i (by omega) (by omega) (by omega) (by omega)))
            have w190 : Xi U56 925 ((((24 * z72) + (Xi U54 922 (((Xi S 973 ((q).toNat))).toNat)))).toNat) = 1 := by rw [eU56]; exact Xi_same (by unfold rg; omega)
            refine l_goto rfl rfl ?_
            refine l_return rfl rfl ?_
            exact ⟨hHU56, hFU56, rfl, (by first | exact x416 | assumption | exact TXM_FR (FR_e eU56) rfl (by first | assumption | exact TXM_FR (FR_e eU54) rfl hX))⟩
  · refine l_aload_n rfl rfl ?_
    refine l_gfr rfl rfl rfl rfl rfl (hH.r 904 121 972 rfl) ?_
    refine l_iload_n rfl rfl ?_
    refine l_iaload (n := 2400) rfl rfl (by omega) (by omega) (by unfold rg; omega) ?_
    have w191 : -1 ≤ (Xi S 972 ((q).toNat)) ∧ (Xi S 972 ((q).toNat)) ≤ 11 := hH.c _ _
    refine l_istore rfl rfl rfl ?_
    refine l_aload_n rfl rfl ?_
    refine l_gfr rfl rfl rfl rfl rfl (hH.r 904 124 975 rfl) ?_
    refine l_iload_n rfl rfl ?_
    refine l_iaload (n := 2400) rfl rfl (by omega) (by omega) (by unfold rg; omega) ?_
    have w192 : -9 ≤ (Xi S 975 ((q).toNat)) ∧ (Xi S 975 ((q).toNat)) ≤ 23 := hH.c _ _
    refine l_iconst rfl ?_
    refine l_iload_n rfl rfl ?_
    refine l_callS rfl rfl (by decide) rfl (t_mo_thingIs hH (Xi S 975 ((q).toNat)) (-1) noun ⟨by omega, by omega⟩ ⟨by omega, by omega⟩ ⟨by omega, by omega⟩ _) ?_
    rintro _ _ ⟨rfl, z194, rfl, w194, w193⟩
    show Rl _ _ _ _ _ [iv z194] _ _
    have o38 : 0 ≤ z194 ∧ z194 < Xi S 904 19 := thk_i (it := -1) (noun := noun) (hk1.2.1 (by omega)).1 (fun h => absurd h (fun f => f)) (fun h => h) (by omega) h2 (by assumption)
    have p38 : 0 ≤ Xi S 972 q.toNat ∧ Xi S 972 q.toNat ≤ 5 := (hk1.2.1 (by omega)).2
    refine l_istore rfl rfl rfl ?_
    refine l_iconst rfl ?_
    refine l_istore rfl rfl rfl ?_
    exact Rl_weak (C46 _ S hH hF (z72) ((Xi S 972 ((q).toNat))) (z194) (0) (by omega) (by omega) (by omega) (by omega) (by first | assumption | exact (by assumption : TXM S)) rfl) (And.intro rfl (And.intro rfl (And.intro rfl (And.intro rfl (And.intro rfl (True.intro))))))
theorem wym_s {S U : sS} {n : Nat} {v : Int} (e : U = uI S 920 n (Int32.ofInt v)) (hv : v = Xi S 920 n) (hW : WYM S) : WYM U := fun o ho q => by
  rw [e, Xi_ne (by omega)] at q
  by_cases c : o = n
  · rw [c, e, hv, Xi_same Xi_rg, ← c]; exact hW o ho q
  · rw [e, Xi_ne (by omega)]; exact hW o ho q
theorem nm_b {l : List rec} {S T : sS} {r : Nat} (h : FR l S T) (e : kdis l [(979, 980), (942, 943)] = true) (hn : nM T r) : nM S r := by
  unfold nM at *
  rw [(h.smk e).x 979 rfl, (h.smk e).x 942 rfl] at hn
  exact hn
def md_mo_does_2 : List rec := [(904, 905, 154, 155), (904, 905, 156, 157), (919, 920, 0, 100000), (920, 921, 0, 100000), (993, 994, 0, 100000)]
abbrev Q_mo_does_2 (S : sS) (action : Int) (noun : Int) : pst := fun r S1 => HI S1 ∧ FR md_mo_does_2 S S1 ∧ (∃ z : Int, r = some (iv z) ∧ (0 ≤ z ∧ z ≤ 1) ∧ (WYM S1))
set_option maxRecDepth 100000 in
theorem t_mo_does_2 {S : sS} (hH : HI S) (action : Int) (noun : Int) (haction : 0 ≤ action ∧ action ≤ 11) (hnoun : -1 ≤ noun ∧ noun ≤ 23) (hn : 1 ≤ action → action ≤ 3 → 0 ≤ noun) (h2 : 1 ≤ action → action ≤ 3 → noun < Xi S 904 19) (hB : ABV S) (hX : TXM S) (hD : DEFM S) (hM : LXM S) (hW : WYM S) (h23 : 2 ≤ Xi S 904 23) (h32 : 1 ≤ Xi S 904 32) (d : Nat) : Mt lay0 (d + 26) m_mo_does_2 [.ref 904, iv action, iv noun] S (Q_mo_does_2 S action noun) := by
  refine Mt_R rfl rfl ?_
  have hF : FR md_mo_does_2 S S := FR.rf
  have w1 : 0 ≤ Xi S 904 19 ∧ Xi S 904 19 ≤ 24 := hH.c _ _
  have w2 : 0 ≤ Xi S 904 23 ∧ Xi S 904 23 ≤ 24 := hH.c _ _
  have w3 : 0 ≤ Xi S 904 32 ∧ Xi S 904 32 ≤ 12 := hH.c _ _
  have hc3 : 0 ≤ Xi S 904 23 ∧ Xi S 904 23 ≤ 24 := hH.c _ _
  have hc19 : 0 ≤ Xi S 904 19 ∧ Xi S 904 19 ≤ 24 := hH.c _ _
  have hc32 : 0 ≤ Xi S 904 32 ∧ Xi S 904 32 ≤ 12 := hH.c _ _
  refine l_iload_n rfl rfl ?_
  refine l_tsw rfl rfl rfl rfl (by unfold rg; omega) (fun w4 => ?_) (fun ii tt hii w4 => ?_)
  · refine l_iconst rfl ?_
    refine l_ireturn rfl rfl ?_
    exact ⟨hH, hF, _, rfl, ⟨by omega, by omega⟩, (by first | exact W78 | exact W114 | exact W196 | exact W126 | exact W40 | exact hW | assumption | exact WYM_FR hF rfl hW)⟩
  · match ii, hii with
    | 0, hii =>
      cases hii
      have w5 : action = 1 := by simpa using w4
      refine l_iload_n rfl rfl ?_
      refine l_if_eq rfl rfl (by unfold rg; omega) (fun w6 => ?_) (fun w7 => ?_)
      · refine l_iconst rfl ?_
        refine l_ireturn rfl rfl ?_
        exact ⟨hH, hF, _, rfl, ⟨by omega, by omega⟩, (by first | exact W78 | exact W114 | exact W196 | exact W126 | exact W40 | exact hW | assumption | exact WYM_FR hF rfl hW)⟩
      · refine l_aload_n rfl rfl ?_
        refine l_iload_n rfl rfl ?_
        refine l_iconst rfl ?_
        refine l_iconst rfl ?_
        have w8 : 0 ≤ Xi S 904 19 ∧ Xi S 904 19 ≤ 24 := hH.c _ _
        refine l_callV rfl rfl rfl (t_mo_holds hH noun 0 0 ⟨by omega, by omega⟩ ⟨by omega, by omega⟩ ⟨by omega, by omega⟩ (Or.inl (by omega)) (by first | assumption | exact (ABV_FR hF rfl (by assumption : ABV S))) (by first | assumption | exact (TXM_FR hF rfl (by assumption : TXM S))) (by first | assumption | exact (DEFM_FR hF rfl (by assumption : DEFM S))) (by omega) _) ?_
        rintro _ T1 ⟨hHT1, w10, z9, rfl, w9⟩
        have hFT1 : FR md_mo_does_2 S T1 := FR.tr hF w10 rfl
        show Rl _ _ _ _ _ [iv z9] _ _
        have W40 : WYM T1 := WYM_FR (by assumption : FR md_mo_holds S T1) rfl hW
        refine l_if_ne rfl rfl (by unfold rg; omega) (fun w11 => ?_) (fun w12 => ?_)
        · refine l_iconst rfl ?_
          refine l_ireturn rfl rfl ?_
          exact ⟨hHT1, hFT1, _, rfl, ⟨by omega, by omega⟩, (by first | exact W78 | exact W114 | exact W196 | exact W126 | exact W40 | exact hW | assumption | exact WYM_FR hFT1 rfl hW)⟩
        · refine l_aload_n rfl rfl ?_
          refine l_iload_n rfl rfl ?_
          refine l_callV rfl rfl rfl (t_mo_isHeld hHT1 noun ⟨by omega, by omega⟩ _) ?_
          rintro _ _ ⟨rfl, z13, rfl, w13⟩
          show Rl _ _ _ _ _ [iv z13] _ _
          refine l_if_ne rfl rfl (by unfold rg; omega) (fun w14 => ?_) (fun w15 => ?_)
          · refine l_iconst rfl ?_
            refine l_ireturn rfl rfl ?_
            exact ⟨hHT1, hFT1, _, rfl, ⟨by omega, by omega⟩, (by first | exact W78 | exact W114 | exact W196 | exact W126 | exact W40 | exact hW | assumption | exact WYM_FR hFT1 rfl hW)⟩
          · refine l_aload_n rfl rfl ?_
            refine l_iconst rfl ?_
            refine l_iload_n rfl rfl ?_
            refine l_callV rfl rfl rfl (t_mo_isWithin hHT1 0 noun ⟨by omega, by omega⟩ ⟨by omega, by omega⟩ _) ?_
            rintro _ _ ⟨rfl, z16, rfl, w16⟩
            show Rl _ _ _ _ _ [iv z16] _ _
            refine l_if_eq rfl rfl (by unfold rg; omega) (fun w17 => ?_) (fun w18 => ?_)
            · refine l_aload_n rfl rfl ?_
              refine l_gfr rfl rfl rfl rfl rfl (hHT1.r 904 21 919 rfl) ?_
              refine l_iload_n rfl rfl ?_
              refine l_iconst rfl ?_
              refine l_iastore (n := 24) rfl rfl (by omega) (by omega) (by unfold rg; omega) ?_
              obtain ⟨U2, eU2⟩ : ∃ T : sS, T = uI T1 919 ((noun).toNat) (Int32.ofInt 4) := ⟨_, rfl⟩
              rw [← eU2]
              have hHU2 : HI U2 := by rw [eU2]; exact HI_w hHT1 (show 0 ≤ 4 by omega) (show 4 ≤ 5 by omega)
              have hFU2 : FR md_mo_does_2 S U2 := by rw [eU2]; exact FR.wI hFT1 (mdf_i (r := (919, 920, 0, 100000)) (List.mem_of_getElem? (i := 2) rfl) (inR_i (by omega) (by omega) (by omega) (by omega)))
              have w19 : Xi U2 919 ((noun).toNat) = 4 := by rw [eU2]; exact Xi_same (by unfold rg; omega)
              refine l_aload_n rfl rfl ?_
              refine l_gfr rfl rfl rfl rfl rfl (hHU2.r 904 22 920 rfl) ?_
              refine l_iload_n rfl rfl ?_
              refine l_iconst rfl ?_
              refine l_iastore (n := 24) rfl rfl (by omega) (by omega) (by unfold rg; omega) ?_
              obtain ⟨U3, eU3⟩ : ∃ T : sS, T = uI U2 920 ((noun).toNat) (Int32.ofInt 0) := ⟨_, rfl⟩
              rw [← eU3]
              have hHU3 : HI U3 := by rw [eU3]; exact HI_w hHU2 (show -1 ≤ 0 by omega) (show 0 ≤ 23 by omega)
              have hFU3 : FR md_mo_does_2 S U3 := by rw [eU3]; exact FR.wI hFU2 (mdf_i (r := (920, 921, 0, 100000)) (List.mem_of_getElem? (i := 3) rfl) (inR_i (by omega) (by omega) (by omega) (by omega)))
              have w20 : Xi U3 920 ((noun).toNat) = 0 := by rw [eU3]; exact Xi_same (by unfold rg; omega)
              have W78 : WYM U3 := wym_w eU2 eU3 (fun _ => by rw [eU3, Xi_same (by unfold rg; omega)]; omega) W40
              refine l_iconst rfl ?_
              refine l_ireturn rfl rfl ?_
              exact ⟨hHU3, hFU3, _, rfl, ⟨by omega, by omega⟩, (by first | exact W78 | exact W114 | exact W196 | exact W126 | exact W40 | exact hW | assumption | exact WYM_FR hFU3 rfl hW)⟩
            · refine l_iconst rfl ?_
              refine l_ireturn rfl rfl ?_
              exact ⟨hHT1, hFT1, _, rfl, ⟨by omega, by omega⟩, (by first | exact W78 | exact W114 | exact W196 | exact W126 | exact W40 | exact hW | assumption | exact WYM_FR hFT1 rfl hW)⟩
    | 1, hii =>
      cases hii
      have w21 : action = 2 := by simpa using w4
      refine l_aload_n rfl rfl ?_
      refine l_iload_n rfl rfl ?_
      refine l_callV rfl rfl rfl (t_mo_isHeld hH noun ⟨by omega, by omega⟩ _) ?_
      rintro _ _ ⟨rfl, z22, rfl, w22⟩
      show Rl _ _ _ _ _ [iv z22] _ _
      refine l_if_ne rfl rfl (by unfold rg; omega) (fun w23 => ?_) (fun w24 => ?_)
      · refine l_aload_n rfl rfl ?_
        refine l_gfr rfl rfl rfl rfl rfl (hH.r 904 21 919 rfl) ?_
        refine l_iload_n rfl rfl ?_
        refine l_aload_n rfl rfl ?_
        refine l_gfr rfl rfl rfl rfl rfl (hH.r 904 21 919 rfl) ?_
        refine l_iconst rfl ?_
        refine l_iaload (n := 24) rfl rfl (by omega) (by omega) (by unfold rg; omega) ?_
        have w25 : 0 ≤ (Xi S 919 ((0 : Int).toNat)) ∧ (Xi S 919 ((0 : Int).toNat)) ≤ 5 := hH.c _ _
        have w26 : (Xi S 919 ((0 : Int).toNat)) = Xi S 919 0 := rfl
        refine l_iastore (n := 24) rfl rfl (by omega) (by omega) (by unfold rg; omega) ?_
        obtain ⟨U4, eU4⟩ : ∃ T : sS, T = uI S 919 ((noun).toNat) (Int32.ofInt (Xi S 919 ((0 : Int).toNat))) := ⟨_, rfl⟩
        rw [← eU4]
        have hHU4 : HI U4 := by rw [eU4]; exact HI_w hH (show 0 ≤ (Xi S 919 ((0 : Int).toNat)) by omega) (show (Xi S 919 ((0 : Int).toNat)) ≤ 5 by omega)
        have hFU4 : FR md_mo_does_2 S U4 := by rw [eU4]; exact FR.wI hF (mdf_i (r := (919, 920, 0, 100000)) (List.mem_of_getElem? (i := 2) rfl) (inR_i (by omega) (by omega) (by omega) (by omega)))
        have w27 : Xi U4 919 ((noun).toNat) = (Xi S 919 ((0 : Int).toNat)) := by rw [eU4]; exact Xi_same (by unfold rg; omega)
        refine l_aload_n rfl rfl ?_
        refine l_gfr rfl rfl rfl rfl rfl (hHU4.r 904 22 920 rfl) ?_
        refine l_iload_n rfl rfl ?_
        refine l_aload_n rfl rfl ?_
        refine l_gfr rfl rfl rfl rfl rfl (hHU4.r 904 22 920 rfl) ?_
        refine l_iconst rfl ?_
        refine l_iaload (n := 24) rfl rfl (by omega) (by omega) (by unfold rg; omega) ?_
        have w28 : -1 ≤ (Xi U4 920 ((0 : Int).toNat)) ∧ (Xi U4 920 ((0 : Int).toNat)) ≤ 23 := hHU4.c _ _
        have w29 : (Xi U4 920 ((0 : Int).toNat)) = Xi U4 920 0 := rfl
        refine l_iastore (n := 24) rfl rfl (by omega) (by omega) (by unfold rg; omega) ?_
        obtain ⟨U5, eU5⟩ : ∃ T : sS, T = uI U4 920 ((noun).toNat) (Int32.ofInt (Xi U4 920 ((0 : Int).toNat))) := ⟨_, rfl⟩
        rw [← eU5]
        have hHU5 : HI U5 := by rw [eU5]; exact HI_w hHU4 (show -1 ≤ (Xi U4 920 ((0 : Int).toNat)) by omega) (show (Xi U4 920 ((0 : Int).toNat)) ≤ 23 by omega)
        have hFU5 : FR md_mo_does_2 S U5 := by rw [eU5]; exact FR.wI hFU4 (mdf_i (r := (920, 921, 0, 100000)) (List.mem_of_getElem? (i := 3) rfl) (inR_i (by omega) (by omega) (by omega) (by omega)))
        have w30 : Xi U5 920 ((noun).toNat) = (Xi U4 920 ((0 : Int).toNat)) := by rw [eU5]; exact Xi_same (by unfold rg; omega)
        have W114 : WYM U5 := wym_w eU4 eU5 (fun q => by have t := hW 0 (by omega); have y : Xi U4 920 0 = Xi S 920 0 := (by rw [eU4, Xi_ne (by omega)]); rw [eU5, Xi_ne (by omega)] at q; omega) hW
        refine l_iconst rfl ?_
        refine l_ireturn rfl rfl ?_
        exact ⟨hHU5, hFU5, _, rfl, ⟨by omega, by omega⟩, (by first | exact W78 | exact W114 | exact W196 | exact W126 | exact W40 | exact hW | assumption | exact WYM_FR hFU5 rfl hW)⟩
      · refine l_iconst rfl ?_
        refine l_ireturn rfl rfl ?_
        exact ⟨hH, hF, _, rfl, ⟨by omega, by omega⟩, (by first | exact W78 | exact W114 | exact W196 | exact W126 | exact W40 | exact hW | assumption | exact WYM_FR hF rfl hW)⟩
    | 2, hii =>
      cases hii
      have w31 : action = 3 := by simpa using w4
      refine l_aload_n rfl rfl ?_
      refine l_iload_n rfl rfl ?_
      refine l_iconst rfl ?_
      have w32 : 0 ≤ Xi S 904 19 ∧ Xi S 904 19 ≤ 24 := hH.c _ _
      refine l_callV rfl rfl rfl (t_mo_putProperty hH noun 0 ⟨by omega, by omega⟩ ⟨by omega, by omega⟩ (by first | assumption | exact (ABV_FR hF rfl (by assumption : ABV S))) (by first | assumption | exact (TXM_FR hF rfl (by assumption : TXM S))) (by omega) _) ?_
      rintro _ T6 ⟨hHT6, w34, rfl⟩
      have hFT6 : FR md_mo_does_2 S T6 := FR.tr hF w34 rfl
      show Rl _ _ _ _ _ [] _ _
      have W120 : WYM T6 := WYM_FR (by assumption : FR md_mo_putProperty S T6) rfl hW
      refine l_aload_n rfl rfl ?_
      refine l_bipush rfl rfl ?_
      refine l_callV rfl rfl rfl (t_mo_put hHT6 10 ⟨by omega, by omega⟩ _) ?_
      rintro _ T7 ⟨hHT7, w36, rfl⟩
      have hFT7 : FR md_mo_does_2 S T7 := FR.tr hFT6 w36 rfl
      show Rl _ _ _ _ _ [] _ _
      have W126 : WYM T7 := WYM_FR (by assumption : FR md_mo_put T6 T7) rfl W120
      refine l_iconst rfl ?_
      refine l_ireturn rfl rfl ?_
      exact ⟨hHT7, hFT7, _, rfl, ⟨by omega, by omega⟩, (by first | exact W78 | exact W114 | exact W196 | exact W126 | exact W40 | exact hW | assumption | exact WYM_FR hFT7 rfl hW)⟩
    | 3, hii =>
      cases hii
      have w37 : action = 4 := by simpa using w4
      refine l_aload_n rfl rfl ?_
      refine l_gfr rfl rfl rfl rfl rfl (hH.r 904 21 919 rfl) ?_
      refine l_iconst rfl ?_
      refine l_iaload (n := 24) rfl rfl (by omega) (by omega) (by unfold rg; omega) ?_
      have w38 : 0 ≤ (Xi S 919 ((0 : Int).toNat)) ∧ (Xi S 919 ((0 : Int).toNat)) ≤ 5 := hH.c _ _
      have w39 : (Xi S 919 ((0 : Int).toNat)) = Xi S 919 0 := rfl
      refine l_iconst rfl ?_
      refine l_icmp_ne rfl rfl (by unfold rg; omega) (by unfold rg; omega) (fun w40 => ?_) (fun w41 => ?_)
      · refine l_iconst rfl ?_
        refine l_istore_n rfl rfl rfl ?_
        refine l_aload_n rfl rfl ?_
        refine l_gfr rfl rfl rfl rfl rfl (hH.r 904 22 920 rfl) ?_
        refine l_iconst rfl ?_
        refine l_iload_n rfl rfl ?_
        refine l_iconst rfl ?_
        refine l_icmp_ne rfl rfl (by unfold rg; omega) (by unfold rg; omega) (fun w42 => absurd w42 (by omega)) (fun w43 => ?_)
        · refine l_aload_n rfl rfl ?_
          refine l_gfr rfl rfl rfl rfl rfl (hH.r 904 22 920 rfl) ?_
          refine l_iconst rfl ?_
          refine l_iaload (n := 24) rfl rfl (by omega) (by omega) (by unfold rg; omega) ?_
          have w44 : -1 ≤ (Xi S 920 ((0 : Int).toNat)) ∧ (Xi S 920 ((0 : Int).toNat)) ≤ 23 := hH.c _ _
          have w45 : (Xi S 920 ((0 : Int).toNat)) = Xi S 920 0 := rfl
          refine l_goto rfl rfl ?_
          refine l_iastore (n := 24) rfl rfl (by omega) (by omega) (by unfold rg; omega) ?_
          obtain ⟨U8, eU8⟩ : ∃ T : sS, T = uI S 920 ((0 : Int).toNat) (Int32.ofInt (Xi S 920 ((0 : Int).toNat))) := ⟨_, rfl⟩
          rw [← eU8]
          have hHU8 : HI U8 := by rw [eU8]; exact HI_w hH (show -1 ≤ (Xi S 920 ((0 : Int).toNat)) by omega) (show (Xi S 920 ((0 : Int).toNat)) ≤ 23 by omega)
          have hFU8 : FR md_mo_does_2 S U8 := by rw [eU8]; exact FR.wI hF (mdf_i (r := (920, 921, 0, 100000)) (List.mem_of_getElem? (i := 3) rfl) (inR_i (by omega) (by omega) (by omega) (by omega)))
          have w46 : Xi U8 920 ((0 : Int).toNat) = (Xi S 920 ((0 : Int).toNat)) := by rw [eU8]; exact Xi_same (by unfold rg; omega)
          have W196 : WYM U8 := by first | exact wym_s eU8 rfl hW | exact wym_t eU8 (by omega) hW
          refine l_iload_n rfl rfl ?_
          refine l_iconst rfl ?_
          refine l_icmp_eq rfl rfl (by unfold rg; omega) (by unfold rg; omega) (fun w47 => ?_) (fun w48 => absurd w48 (by omega))
          · refine l_iconst rfl ?_
            refine l_ireturn rfl rfl ?_
            exact ⟨hHU8, hFU8, _, rfl, ⟨by omega, by omega⟩, (by first | exact W78 | exact W114 | exact W196 | exact W126 | exact W40 | exact hW | assumption | exact WYM_FR hFU8 rfl hW)⟩
      · refine l_aload_n rfl rfl ?_
        refine l_aload_n rfl rfl ?_
        refine l_gfr rfl rfl rfl rfl rfl (hH.r 904 20 918 rfl) ?_
        refine l_aload_n rfl rfl ?_
        refine l_gfr rfl rfl rfl rfl rfl (hH.r 904 22 920 rfl) ?_
        refine l_iconst rfl ?_
        refine l_iaload (n := 24) rfl rfl (by omega) (by omega) (by unfold rg; omega) ?_
        have w49 : -1 ≤ (Xi S 920 ((0 : Int).toNat)) ∧ (Xi S 920 ((0 : Int).toNat)) ≤ 23 := hH.c _ _
        have w50 : (Xi S 920 ((0 : Int).toNat)) = Xi S 920 0 := rfl
        have t151 : Xi S 919 0 ≠ 0 → 0 ≤ Xi S 920 0 := hW 0 (by omega)
        refine l_iaload (n := 24) rfl rfl (by omega) (by omega) (by unfold rg; omega) ?_
        have w51 : 0 ≤ (Xi S 918 (((Xi S 920 ((0 : Int).toNat))).toNat)) ∧ (Xi S 918 (((Xi S 920 ((0 : Int).toNat))).toNat)) ≤ 15 := hH.c _ _
        refine l_iconst rfl ?_
        refine l_callV rfl rfl rfl (t_mo_isBelow hH (Xi S 918 (((Xi S 920 ((0 : Int).toNat))).toNat)) 1 ⟨by omega, by omega⟩ ⟨by omega, by omega⟩ (by first | assumption | exact (ABV_FR hF rfl (by assumption : ABV S))) _) ?_
        rintro _ _ ⟨rfl, z53, rfl, w53, w52⟩
        show Rl _ _ _ _ _ [iv z53] _ _
        refine l_if_eq rfl rfl (by unfold rg; omega) (fun w54 => ?_) (fun w55 => ?_)
        · refine l_iconst rfl ?_
          refine l_istore_n rfl rfl rfl ?_
          refine l_aload_n rfl rfl ?_
          refine l_gfr rfl rfl rfl rfl rfl (hH.r 904 22 920 rfl) ?_
          refine l_iconst rfl ?_
          refine l_iload_n rfl rfl ?_
          refine l_iconst rfl ?_
          refine l_icmp_ne rfl rfl (by unfold rg; omega) (by unfold rg; omega) (fun w56 => absurd w56 (by omega)) (fun w57 => ?_)
          · refine l_aload_n rfl rfl ?_
            refine l_gfr rfl rfl rfl rfl rfl (hH.r 904 22 920 rfl) ?_
            refine l_iconst rfl ?_
            refine l_iaload (n := 24) rfl rfl (by omega) (by omega) (by unfold rg; omega) ?_
            refine l_goto rfl rfl ?_
            refine l_iastore (n := 24) rfl rfl (by omega) (by omega) (by unfold rg; omega) ?_
            obtain ⟨U9, eU9⟩ : ∃ T : sS, T = uI S 920 ((0 : Int).toNat) (Int32.ofInt (Xi S 920 ((0 : Int).toNat))) := ⟨_, rfl⟩
            rw [← eU9]
            have hHU9 : HI U9 := by rw [eU9]; exact HI_w hH (show -1 ≤ (Xi S 920 ((0 : Int).toNat)) by omega) (show (Xi S 920 ((0 : Int).toNat)) ≤ 23 by omega)
            have hFU9 : FR md_mo_does_2 S U9 := by rw [eU9]; exact FR.wI hF (mdf_i (r := (920, 921, 0, 100000)) (List.mem_of_getElem? (i := 3) rfl) (inR_i (by omega) (by omega) (by omega) (by omega)))
            have w58 : Xi U9 920 ((0 : Int).toNat) = (Xi S 920 ((0 : Int).toNat)) := by rw [eU9]; exact Xi_same (by unfold rg; omega)
            have W196 : WYM U9 := by first | exact wym_s eU9 rfl hW | exact wym_t eU9 (by omega) hW
            refine l_iload_n rfl rfl ?_
            refine l_iconst rfl ?_
            refine l_icmp_eq rfl rfl (by unfold rg; omega) (by unfold rg; omega) (fun w59 => ?_) (fun w60 => absurd w60 (by omega))
            · refine l_iconst rfl ?_
              refine l_ireturn rfl rfl ?_
              exact ⟨hHU9, hFU9, _, rfl, ⟨by omega, by omega⟩, (by first | exact W78 | exact W114 | exact W196 | exact W126 | exact W40 | exact hW | assumption | exact WYM_FR hFU9 rfl hW)⟩
        · refine l_aload_n rfl rfl ?_
          refine l_aload_n rfl rfl ?_
          refine l_gfr rfl rfl rfl rfl rfl (hH.r 904 22 920 rfl) ?_
          refine l_iconst rfl ?_
          refine l_iaload (n := 24) rfl rfl (by omega) (by omega) (by unfold rg; omega) ?_
          refine l_iload_n rfl rfl ?_
          refine l_callV rfl rfl rfl (t_mo_leadsTo hH (Xi S 920 ((0 : Int).toNat)) noun ⟨by omega, by omega⟩ ⟨by omega, by omega⟩ _) ?_
          rintro _ _ ⟨rfl, z61, rfl, w61⟩
          show Rl _ _ _ _ _ [iv z61] _ _
          refine l_goto rfl rfl ?_
          refine l_istore_n rfl rfl rfl ?_
          refine l_aload_n rfl rfl ?_
          refine l_gfr rfl rfl rfl rfl rfl (hH.r 904 22 920 rfl) ?_
          refine l_iconst rfl ?_
          refine l_iload_n rfl rfl ?_
          refine l_iconst rfl ?_
          refine l_icmp_ne rfl rfl (by unfold rg; omega) (by unfold rg; omega) (fun w62 => ?_) (fun w63 => ?_)
          · refine l_iload_n rfl rfl ?_
            refine l_iastore (n := 24) rfl rfl (by omega) (by omega) (by unfold rg; omega) ?_
            obtain ⟨U10, eU10⟩ : ∃ T : sS, T = uI S 920 ((0 : Int).toNat) (Int32.ofInt z61) := ⟨_, rfl⟩
            rw [← eU10]
            have hHU10 : HI U10 := by rw [eU10]; exact HI_w hH (show -1 ≤ z61 by omega) (show z61 ≤ 23 by omega)
            have hFU10 : FR md_mo_does_2 S U10 := by rw [eU10]; exact FR.wI hF (mdf_i (r := (920, 921, 0, 100000)) (List.mem_of_getElem? (i := 3) rfl) (inR_i (by omega) (by omega) (by omega) (by omega)))
            have w64 : Xi U10 920 ((0 : Int).toNat) = z61 := by rw [eU10]; exact Xi_same (by unfold rg; omega)
            have W196 : WYM U10 := by first | exact wym_s eU10 rfl hW | exact wym_t eU10 (by omega) hW
            refine l_iload_n rfl rfl ?_
            refine l_iconst rfl ?_
            refine l_icmp_eq rfl rfl (by unfold rg; omega) (by unfold rg; omega) (fun w65 => ?_) (fun w66 => ?_)
            · refine l_iconst rfl ?_
              refine l_ireturn rfl rfl ?_
              exact ⟨hHU10, hFU10, _, rfl, ⟨by omega, by omega⟩, (by first | exact W78 | exact W114 | exact W196 | exact W126 | exact W40 | exact hW | assumption | exact WYM_FR hFU10 rfl hW)⟩
            · refine l_iconst rfl ?_
              refine l_goto rfl rfl ?_
              refine l_ireturn rfl rfl ?_
              exact ⟨hHU10, hFU10, _, rfl, ⟨by omega, by omega⟩, (by first | exact W78 | exact W114 | exact W196 | exact W126 | exact W40 | exact hW | assumption | exact WYM_FR hFU10 rfl hW)⟩
          · refine l_aload_n rfl rfl ?_
            refine l_gfr rfl rfl rfl rfl rfl (hH.r 904 22 920 rfl) ?_
            refine l_iconst rfl ?_
            refine l_iaload (n := 24) rfl rfl (by omega) (by omega) (by unfold rg; omega) ?_
            refine l_goto rfl rfl ?_
            refine l_iastore (n := 24) rfl rfl (by omega) (by omega) (by unfold rg; omega) ?_
            obtain ⟨U11, eU11⟩ : ∃ T : sS, T = uI S 920 ((0 : Int).toNat) (Int32.ofInt (Xi S 920 ((0 : Int).toNat))) := ⟨_, rfl⟩
            rw [← eU11]
            have hHU11 : HI U11 := by rw [eU11]; exact HI_w hH (show -1 ≤ (Xi S 920 ((0 : Int).toNat)) by omega) (show (Xi S 920 ((0 : Int).toNat)) ≤ 23 by omega)
            have hFU11 : FR md_mo_does_2 S U11 := by rw [eU11]; exact FR.wI hF (mdf_i (r := (920, 921, 0, 100000)) (List.mem_of_getElem? (i := 3) rfl) (inR_i (by omega) (by omega) (by omega) (by omega)))
            have w67 : Xi U11 920 ((0 : Int).toNat) = (Xi S 920 ((0 : Int).toNat)) := by rw [eU11]; exact Xi_same (by unfold rg; omega)
            have W196 : WYM U11 := by first | exact wym_s eU11 rfl hW | exact wym_t eU11 (by omega) hW
            refine l_iload_n rfl rfl ?_
            refine l_iconst rfl ?_
            refine l_icmp_eq rfl rfl (by unfold rg; omega) (by unfold rg; omega) (fun w68 => ?_) (fun w69 => ?_)
            · refine l_iconst rfl ?_
              refine l_ireturn rfl rfl ?_
              exact ⟨hHU11, hFU11, _, rfl, ⟨by omega, by omega⟩, (by first | exact W78 | exact W114 | exact W196 | exact W126 | exact W40 | exact hW | assumption | exact WYM_FR hFU11 rfl hW)⟩
            · refine l_iconst rfl ?_
              refine l_goto rfl rfl ?_
              refine l_ireturn rfl rfl ?_
              exact ⟨hHU11, hFU11, _, rfl, ⟨by omega, by omega⟩, (by first | exact W78 | exact W114 | exact W196 | exact W126 | exact W40 | exact hW | assumption | exact WYM_FR hFU11 rfl hW)⟩
    | n + 4, hii => exact absurd hii (by simp)

