/-! SAFETY of methods: printed by wip/safe (vc.py, decl.py) -/
theorem txm_o {S T : sS} {kind : Int} (hX : TXM S) (h0 : 0 ≤ Xi S 904 19) (hc : Xi T 904 19 = Xi S 904 19 + 1) (k : ∀ j : Nat, (j : Int) < Xi S 904 19 → Xi T 918 j = Xi S 918 j) (e : Xi T 918 (Xi S 904 19).toNat = kind) (hk : kind < Xi S 904 16) (o : ∀ j : Nat, (j : Int) < 12 * Xi S 904 19 → Xi T 930 j = Xi S 930 j) (z : ∀ p : Int, 0 ≤ p → p < 12 → Xi T 930 (12 * Xi S 904 19 + p).toNat = 0) (e28 : ∀ j, Xi T 928 j = Xi S 928 j) (e31 : ∀ j, Xi T 931 j = Xi S 931 j) (e32 : ∀ j, Xi T 932 j = Xi S 932 j) (e33 : ∀ j, Xi T 933 j = Xi S 933 j) (e34 : ∀ j, Xi T 934 j = Xi S 934 j) (e35 : ∀ j, Xi T 935 j = Xi S 935 j) (e16 : Xi T 904 16 = Xi S 904 16) (ep : Xi T 904 32 = Xi S 904 32) : TXM T := by
  refine ⟨fun a h1 h2 => ?_, fun a b h1 h2 h3 h4 h5 => ?_, fun a b h1 h2 h3 h4 h5 => ?_⟩
  · rw [e16]
    rcases (by omega : a < Xi S 904 19 ∨ a = Xi S 904 19) with q | q
    · rw [k a.toNat (by omega)]; exact hX.1 a h1 q
    · rw [q, e]; exact hk
  · rw [ep, e28, e31, e32]
    rcases (by omega : a < Xi S 904 19 ∨ a = Xi S 904 19) with q | q
    · rw [o (12 * a + b).toNat (by omega)] at h5; exact hX.2.1 a b h1 q h3 h4 h5
    · rw [q, z b h3 h4] at h5; exact absurd rfl h5
  · rw [ep, e28, e34, e35]
    rw [e16] at h2
    rw [e33] at h5
    exact hX.2.2 a b h1 h2 h3 h4 h5
def md_mo_addObject : List rec := [(904, 905, 19, 20), (918, 919, 0, 100000), (919, 920, 0, 100000), (920, 921, 0, 100000), (925, 926, 0, 100000), (930, 931, 0, 100000)]
abbrev Q_mo_addObject (S : sS) (kind : Int) : pst := fun r S1 => HI S1 ∧ FR md_mo_addObject S S1 ∧ (∃ z : Int, r = some (iv z) ∧ (0 ≤ z ∧ z ≤ 23) ∧ (z = Xi S 904 19) ∧ (Xi S1 904 19 = Xi S 904 19 + 1) ∧ (Xi S1 918 (Xi S 904 19).toNat = kind ∧ Xi S1 919 (Xi S 904 19).toNat = 0) ∧ (∀ j : Nat, (j : Int) < Xi S 904 19 → Xi S1 918 j = Xi S 918 j ∧ Xi S1 919 j = Xi S 919 j ∧ Xi S1 920 j = Xi S 920 j) ∧ (TXM S1) ∧ (WYM S1))
set_option maxRecDepth 100000 in
theorem t_mo_addObject {S : sS} (hH : HI S) (kind : Int) (hkind : 0 ≤ kind ∧ kind ≤ 15) (h : Xi S 904 19 ≤ 23) (hk : kind < Xi S 904 16) (hX : TXM S) (hW : WYM S) (d : Nat) : Mt lay0 (d + 1) m_mo_addObject [.ref 904, iv kind] S (Q_mo_addObject S kind) := by
  refine Mt_R rfl rfl ?_
  have hF : FR md_mo_addObject S S := FR.rf
  have w1 : 0 ≤ Xi S 904 16 ∧ Xi S 904 16 ≤ 16 := hH.c _ _
  have w2 : 0 ≤ Xi S 904 19 ∧ Xi S 904 19 ≤ 24 := hH.c _ _
  have hc19 : 0 ≤ Xi S 904 19 ∧ Xi S 904 19 ≤ 24 := hH.c _ _
  have C32 : ∀ (n32 : Nat) (T1 : sS) (_ : HI T1) (_ : FR md_mo_addObject S T1) (v2 : Int), (0 ≤ v2 ∧ v2 ≤ 24) → (Xi T1 904 19 = Xi S 904 19) → (∀ j : Nat, (j : Int) < Xi S 904 19 → Xi T1 918 j = Xi S 918 j ∧ Xi T1 919 j = Xi S 919 j ∧ Xi T1 920 j = Xi S 920 j) → (Xi T1 918 (Xi S 904 19).toNat = kind ∧ Xi T1 919 (Xi S 904 19).toNat = 0) → (∀ j : Nat, (j : Int) < 12 * Xi S 904 19 → Xi T1 930 j = Xi S 930 j) → (WYM T1) → n32 = (25 - v2).toNat → Rl lay0 (d + 0) m_mo_addObject 32 [(0, .ref 904), (2, iv v2)] [] T1 (Q_mo_addObject S kind) := by
    intro n32
    induction n32 using Nat.strongRecOn with
    | ind n32 ih32 =>
      intro T1 hHT1 hFT1 v2 w3 w4 K32 E32 O32 W32 hm32
      have w5 : Xi T1 904 16 = Xi S 904 16 := hFT1.x _ _ rfl
      have w6 : 0 ≤ Xi T1 904 19 ∧ Xi T1 904 19 ≤ 24 := hHT1.c _ _
      have C61 : ∀ (n61 : Nat) (T2 : sS) (_ : HI T2) (_ : FR md_mo_addObject S T2) (v2 : Int), (0 ≤ v2 ∧ v2 ≤ 12) → (Xi T2 904 19 = Xi S 904 19) → (∀ j : Nat, (j : Int) < Xi S 904 19 → Xi T2 918 j = Xi S 918 j ∧ Xi T2 919 j = Xi S 919 j ∧ Xi T2 920 j = Xi S 920 j) → (Xi T2 918 (Xi S 904 19).toNat = kind ∧ Xi T2 919 (Xi S 904 19).toNat = 0) → (∀ j : Nat, (j : Int) < 12 * Xi S 904 19 → Xi T2 930 j = Xi S 930 j) → (WYM T2) → (∀ p : Int, 0 ≤ p → p < v2 → Xi T2 930 (12 * Xi S 904 19 + p).toNat = 0) → n61 = (13 - v2).toNat → Rl lay0 (d + 0) m_mo_addObject 61 [(0, .ref 904), (2, iv v2)] [] T2 (Q_mo_addObject S kind) := by
        intro n61
        induction n61 using Nat.strongRecOn with
        | ind n61 ih61 =>
          intro T2 hHT2 hFT2 v2 w7 w8 K61 E61 O61 W61 Z61 hm61
          have w9 : Xi T2 904 16 = Xi S 904 16 := hFT2.x _ _ rfl
          have w10 : 0 ≤ Xi T2 904 19 ∧ Xi T2 904 19 ≤ 24 := hHT2.c _ _
          refine l_iload_n rfl rfl ?_
          refine l_bipush rfl rfl ?_
          refine l_icmp_ge rfl rfl (by unfold rg; omega) (by unfold rg; omega) (fun w11 => ?_) (fun w12 => ?_)
          · refine l_aload_n rfl rfl ?_
            refine l_dup rfl rfl ?_
            refine l_gfi rfl rfl rfl rfl rfl ?_
            refine l_iconst rfl ?_
            refine l_iadd rfl ?_
            refine l_pfi rfl rfl rfl rfl ?_
            obtain ⟨U3, eU3⟩ : ∃ T : sS, T = uI T2 904 19 (Int32.ofInt ((Xi T2 904 19) + 1)) := ⟨_, rfl⟩
            rw [← eU3]
            have hHU3 : HI U3 := by rw [eU3]; exact HI_w hHT2 (show 0 ≤ ((Xi T2 904 19) + 1) by omega) (show ((Xi T2 904 19) + 1) ≤ 24 by omega)
            have hFU3 : FR md_mo_addObject S U3 := by rw [eU3]; exact FR.wI hFT2 (mdf_i (r := (904, 905, 19, 20)) (List.mem_of_getElem? (i := 0) rfl) (inR_i (by omega) (by omega) (by omega) (by omega)))
            have w13 : Xi U3 904 19 = ((Xi T2 904 19) + 1) := by rw [eU3]; exact Xi_same (by unfold rg; omega)
            have k95 : ∀ j : Nat, (j : Int) < Xi S 904 19 → Xi U3 918 j = Xi S 918 j ∧ Xi U3 919 j = Xi S 919 j ∧ Xi U3 920 j = Xi S 920 j := fun j hj => by rw [eU3, Xi_ne (by omega), Xi_ne (by omega), Xi_ne (by omega)]; exact K61 j hj
            have e95 : Xi U3 918 (Xi S 904 19).toNat = kind ∧ Xi U3 919 (Xi S 904 19).toNat = 0 := ⟨by rw [eU3, Xi_ne (by omega)]; exact E61.1, by rw [eU3, Xi_ne (by omega)]; exact E61.2⟩
            have W95 : WYM U3 := WYM_FR (FR_e eU3) rfl W61
            have x95 : TXM U3 := txm_o (kind := kind) hX (by omega) (by omega) (fun j hj => (k95 j hj).1) e95.1 hk (fun j hj => by rw [eU3, Xi_ne (by omega)]; exact O61 j hj) (fun p a b => by rw [eU3, Xi_ne (by omega)]; exact Z61 p a (by omega)) (fun j => (hFU3.cx 928 rfl j).1) (fun j => (hFU3.cx 931 rfl j).1) (fun j => (hFU3.cx 932 rfl j).1) (fun j => (hFU3.cx 933 rfl j).1) (fun j => (hFU3.cx 934 rfl j).1) (fun j => (hFU3.cx 935 rfl j).1) (hFU3.x 904 16 rfl) (hFU3.x 904 32 rfl)
            refine l_aload_n rfl rfl ?_
            refine l_gfi rfl rfl rfl rfl rfl ?_
            refine l_iconst rfl ?_
            refine l_isub rfl ?_
            refine l_ireturn rfl rfl ?_
            have w14 : 0 ≤ Xi U3 904 19 ∧ Xi U3 904 19 ≤ 24 := hHU3.c _ _
            exact ⟨hHU3, hFU3, _, rfl, ⟨by omega, by omega⟩, (by omega), (by omega), (e95), (k95), (x95), (W95)⟩
          · refine l_aload_n rfl rfl ?_
            refine l_gfr rfl rfl rfl rfl rfl (hHT2.r 904 35 930 rfl) ?_
            refine l_bipush rfl rfl ?_
            refine l_aload_n rfl rfl ?_
            refine l_gfi rfl rfl rfl rfl rfl ?_
            refine l_imul rfl ?_
            refine l_iload_n rfl rfl ?_
            refine l_iadd rfl ?_
            refine l_iconst rfl ?_
            refine l_bastoreZ1 (n := 288) rfl rfl (by omega) (by omega) (by unfold rg; omega) ⟨by omega, by omega⟩ ?_
            obtain ⟨U4, eU4⟩ : ∃ T : sS, T = uI T2 930 ((((12 * (Xi T2 904 19)) + v2)).toNat) (Int32.ofInt 0) := ⟨_, rfl⟩
            rw [← eU4]
            have hHU4 : HI U4 := by rw [eU4]; exact HI_w hHT2 (show 0 ≤ 0 by omega) (show 0 ≤ 1 by omega)
            have hFU4 : FR md_mo_addObject S U4 := by rw [eU4]; exact FR.wI hFT2 (mdf_i (r := (930, 931, 0, 100000)) (List.mem_of_getElem? (i := 5) rfl) (inR_i (by omega) (by omega) (by omega) (by omega)))
            have w15 : Xi U4 930 ((((12 * (Xi T2 904 19)) + v2)).toNat) = 0 := by rw [eU4]; exact Xi_same (by unfold rg; omega)
            have k81 : ∀ j : Nat, (j : Int) < Xi S 904 19 → Xi U4 918 j = Xi S 918 j ∧ Xi U4 919 j = Xi S 919 j ∧ Xi U4 920 j = Xi S 920 j := fun j hj => by rw [eU4, Xi_ne (by omega), Xi_ne (by omega), Xi_ne (by omega)]; exact K61 j hj
            have e81 : Xi U4 918 (Xi S 904 19).toNat = kind ∧ Xi U4 919 (Xi S 904 19).toNat = 0 := ⟨by rw [eU4, Xi_ne (by omega)]; exact E61.1, by rw [eU4, Xi_ne (by omega)]; exact E61.2⟩
            have t81 : ∀ j : Nat, (j : Int) < 12 * Xi S 904 19 → Xi U4 930 j = Xi S 930 j := fun j hj => by rw [eU4, Xi_ne (by omega)]; exact O61 j hj
            have z81 : ∀ p : Int, 0 ≤ p → p < v2 + 1 → Xi U4 930 (12 * Xi S 904 19 + p).toNat = 0 := fun p a b => (by by_cases g : p = v2; (rw [g, show (12 * Xi S 904 19 + v2).toNat = (12 * Xi T2 904 19 + v2).toNat by omega]; assumption); (rw [eU4, Xi_ne (by omega)]; exact Z61 p a (by omega)))
            refine l_iinc rfl rfl rfl rfl ?_
            refine l_goto rfl rfl ?_
            have w16 : Xi U4 904 19 = Xi T2 904 19 := (show Xi U4 904 19 = Xi T2 904 19 from by rw [eU4]; exact Xi_ne (by omega))
            have w17 : 0 ≤ Xi T2 904 19 ∧ Xi T2 904 19 ≤ 24 := hHT2.c _ _
            exact Rl_weak (ih61 _ (by omega) U4 hHU4 hFU4 ((v2 + 1)) (by omega) (by omega) (by first | exact k81 | exact K32) (by first | exact e81 | exact E32) (by first | exact t81 | exact O32) (by first | exact WYM_FR (FR_e eU4) rfl W61 | exact W32) (by first | exact z81 | exact fun p a b => absurd b (by omega)) rfl) (And.intro rfl (And.intro rfl (True.intro)))
      refine l_iload_n rfl rfl ?_
      refine l_bipush rfl rfl ?_
      refine l_icmp_ge rfl rfl (by unfold rg; omega) (by unfold rg; omega) (fun w18 => ?_) (fun w19 => ?_)
      · refine l_iconst rfl ?_
        refine l_istore_n rfl rfl rfl ?_
        have w20 : 0 ≤ Xi T1 904 19 ∧ Xi T1 904 19 ≤ 24 := hHT1.c _ _
        exact Rl_weak (C61 _ T1 hHT1 hFT1 (0) (by omega) (by omega) (by first | exact k81 | exact K32) (by first | exact e81 | exact E32) (by first | exact t81 | exact O32) (by first | exact WYM_FR (FR_e rfl) rfl W61 | exact W32) (by first | exact z81 | exact fun p a b => absurd b (by omega)) rfl) (And.intro rfl (And.intro rfl (True.intro)))
      · refine l_aload_n rfl rfl ?_
        refine l_gfr rfl rfl rfl rfl rfl (hHT1.r 904 28 925 rfl) ?_
        refine l_bipush rfl rfl ?_
        refine l_aload_n rfl rfl ?_
        refine l_gfi rfl rfl rfl rfl rfl ?_
        refine l_imul rfl ?_
        refine l_iload_n rfl rfl ?_
        refine l_iadd rfl ?_
        refine l_iconst rfl ?_
        refine l_iastore (n := 576) rfl rfl (by omega) (by omega) (by unfold rg; omega) ?_
        obtain ⟨U5, eU5⟩ : ∃ T : sS, T = uI T1 925 ((((24 * (Xi T1 904 19)) + v2)).toNat) (Int32.ofInt 0) := ⟨_, rfl⟩
        rw [← eU5]
        have hHU5 : HI U5 := by rw [eU5]; exact HI_w hHT1 (show 0 ≤ 0 by omega) (show 0 ≤ 2 by omega)
        have hFU5 : FR md_mo_addObject S U5 := by rw [eU5]; exact FR.wI hFT1 (mdf_i (r := (925, 926, 0, 100000)) (List.mem_of_getElem? (i := 4) rfl) (inR_i (by omega) (by omega) (by omega) (by omega)))
        have w21 : Xi U5 925 ((((24 * (Xi T1 904 19)) + v2)).toNat) = 0 := by rw [eU5]; exact Xi_same (by unfold rg; omega)
        have k52 : ∀ j : Nat, (j : Int) < Xi S 904 19 → Xi U5 918 j = Xi S 918 j ∧ Xi U5 919 j = Xi S 919 j ∧ Xi U5 920 j = Xi S 920 j := fun j hj => by rw [eU5, Xi_ne (by omega), Xi_ne (by omega), Xi_ne (by omega)]; exact K32 j hj
        have e52 : Xi U5 918 (Xi S 904 19).toNat = kind ∧ Xi U5 919 (Xi S 904 19).toNat = 0 := ⟨by rw [eU5, Xi_ne (by omega)]; exact E32.1, by rw [eU5, Xi_ne (by omega)]; exact E32.2⟩
        have t52 : ∀ j : Nat, (j : Int) < 12 * Xi S 904 19 → Xi U5 930 j = Xi S 930 j := fun j hj => by rw [eU5, Xi_ne (by omega)]; exact O32 j hj
        refine l_iinc rfl rfl rfl rfl ?_
        refine l_goto rfl rfl ?_
        have w22 : Xi U5 904 19 = Xi T1 904 19 := (show Xi U5 904 19 = Xi T1 904 19 from by rw [eU5]; exact Xi_ne (by omega))
        have w23 : 0 ≤ Xi T1 904 19 ∧ Xi T1 904 19 ≤ 24 := hHT1.c _ _
        exact Rl_weak (ih32 _ (by omega) U5 hHU5 hFU5 ((v2 + 1)) (by omega) (by omega) (by first | exact k52 | exact k29) (by first | exact e52 | exact e29) (by first | exact t52 | exact t29) (by first | exact WYM_FR (FR_e eU5) rfl W32 | exact W29) rfl) (And.intro rfl (And.intro rfl (True.intro)))
  refine l_aload_n rfl rfl ?_
  refine l_gfr rfl rfl rfl rfl rfl (hH.r 904 20 918 rfl) ?_
  refine l_aload_n rfl rfl ?_
  refine l_gfi rfl rfl rfl rfl rfl ?_
  refine l_iload_n rfl rfl ?_
  refine l_iastore (n := 24) rfl rfl (by omega) (by omega) (by unfold rg; omega) ?_
  obtain ⟨U6, eU6⟩ : ∃ T : sS, T = uI S 918 (((Xi S 904 19)).toNat) (Int32.ofInt kind) := ⟨_, rfl⟩
  rw [← eU6]
  have hHU6 : HI U6 := by rw [eU6]; exact HI_w hH (show 0 ≤ kind by omega) (show kind ≤ 15 by omega)
  have hFU6 : FR md_mo_addObject S U6 := by rw [eU6]; exact FR.wI hF (mdf_i (r := (918, 919, 0, 100000)) (List.mem_of_getElem? (i := 1) rfl) (inR_i (by omega) (by omega) (by omega) (by omega)))
  have w24 : Xi U6 918 (((Xi S 904 19)).toNat) = kind := by rw [eU6]; exact Xi_same (by unfold rg; omega)
  have k9 : ∀ j : Nat, (j : Int) < Xi S 904 19 → Xi U6 918 j = Xi S 918 j ∧ Xi U6 919 j = Xi S 919 j ∧ Xi U6 920 j = Xi S 920 j := fun j hj => by rw [eU6, Xi_ne (by omega), Xi_ne (by omega), Xi_ne (by omega)]; exact ⟨rfl, rfl, rfl⟩
  refine l_aload_n rfl rfl ?_
  refine l_gfr rfl rfl rfl rfl rfl (hHU6.r 904 21 919 rfl) ?_
  refine l_aload_n rfl rfl ?_
  refine l_gfi rfl rfl rfl rfl rfl ?_
  have w25 : (Xi U6 904 19) = (Xi S 904 19) := (show Xi U6 904 19 = Xi S 904 19 from by rw [eU6]; exact Xi_ne (by omega))
  rw [w25]
  refine l_iconst rfl ?_
  refine l_iastore (n := 24) rfl rfl (by omega) (by omega) (by unfold rg; omega) ?_
  obtain ⟨U7, eU7⟩ : ∃ T : sS, T = uI U6 919 (((Xi S 904 19)).toNat) (Int32.ofInt 0) := ⟨_, rfl⟩
  rw [← eU7]
  have hHU7 : HI U7 := by rw [eU7]; exact HI_w hHU6 (show 0 ≤ 0 by omega) (show 0 ≤ 5 by omega)
  have hFU7 : FR md_mo_addObject S U7 := by rw [eU7]; exact FR.wI hFU6 (mdf_i (r := (919, 920, 0, 100000)) (List.mem_of_getElem? (i := 2) rfl) (inR_i (by omega) (by omega) (by omega) (by omega)))
  have w26 : Xi U7 919 (((Xi S 904 19)).toNat) = 0 := by rw [eU7]; exact Xi_same (by unfold rg; omega)
  have k19 : ∀ j : Nat, (j : Int) < Xi S 904 19 → Xi U7 918 j = Xi S 918 j ∧ Xi U7 919 j = Xi S 919 j ∧ Xi U7 920 j = Xi S 920 j := fun j hj => by rw [eU7, Xi_ne (by omega), Xi_ne (by omega), Xi_ne (by omega)]; exact k9 j hj
  have e19 : Xi U7 918 (Xi S 904 19).toNat = kind := by rw [eU7, Xi_ne (by omega)]; assumption
  refine l_aload_n rfl rfl ?_
  refine l_gfr rfl rfl rfl rfl rfl (hHU7.r 904 22 920 rfl) ?_
  refine l_aload_n rfl rfl ?_
  refine l_gfi rfl rfl rfl rfl rfl ?_
  have w27 : (Xi U7 904 19) = (Xi S 904 19) := (show Xi U7 904 19 = Xi U6 904 19 from by rw [eU7]; exact Xi_ne (by omega)).trans ((show Xi U6 904 19 = Xi S 904 19 from by rw [eU6]; exact Xi_ne (by omega)))
  rw [w27]
  refine l_iconst rfl ?_
  refine l_iastore (n := 24) rfl rfl (by omega) (by omega) (by unfold rg; omega) ?_
  obtain ⟨U8, eU8⟩ : ∃ T : sS, T = uI U7 920 (((Xi S 904 19)).toNat) (Int32.ofInt (-1)) := ⟨_, rfl⟩
  rw [← eU8]
  have hHU8 : HI U8 := by rw [eU8]; exact HI_w hHU7 (show -1 ≤ (-1) by omega) (show (-1) ≤ 23 by omega)
  have hFU8 : FR md_mo_addObject S U8 := by rw [eU8]; exact FR.wI hFU7 (mdf_i (r := (920, 921, 0, 100000)) (List.mem_of_getElem? (i := 3) rfl) (inR_i (by omega) (by omega) (by omega) (by omega)))
  have w28 : Xi U8 920 (((Xi S 904 19)).toNat) = (-1) := by rw [eU8]; exact Xi_same (by unfold rg; omega)
  have k29 : ∀ j : Nat, (j : Int) < Xi S 904 19 → Xi U8 918 j = Xi S 918 j ∧ Xi U8 919 j = Xi S 919 j ∧ Xi U8 920 j = Xi S 920 j := fun j hj => by rw [eU8, Xi_ne (by omega), Xi_ne (by omega), Xi_ne (by omega)]; exact k19 j hj
  have e29 : Xi U8 918 (Xi S 904 19).toNat = kind ∧ Xi U8 919 (Xi S 904 19).toNat = 0 := ⟨by rw [eU8, Xi_ne (by omega)]; exact e19, by rw [eU8, Xi_ne (by omega)]; assumption⟩
  have t29 : ∀ j : Nat, (j : Int) < 12 * Xi S 904 19 → Xi U8 930 j = Xi S 930 j := fun j hj => by rw [eU8, Xi_ne (by omega), eU7, Xi_ne (by omega), eU6, Xi_ne (by omega)]
  have W29 : WYM U8 := fun o ho q => (by by_cases g : o = (Xi S 904 19).toNat; exact absurd (by rw [g]; exact e29.2) q; rw [show Xi U8 919 o = Xi S 919 o by rw [eU8, Xi_ne (by omega), eU7, Xi_ne (by omega), eU6, Xi_ne (by omega)]] at q; rw [eU8, Xi_ne (by omega), eU7, Xi_ne (by omega), eU6, Xi_ne (by omega)]; exact hW o ho q)
  refine l_iconst rfl ?_
  refine l_istore_n rfl rfl rfl ?_
  have w29 : Xi U8 904 19 = Xi S 904 19 := (show Xi U8 904 19 = Xi U7 904 19 from by rw [eU8]; exact Xi_ne (by omega)).trans ( (show Xi U7 904 19 = Xi U6 904 19 from by rw [eU7]; exact Xi_ne (by omega)).trans ((show Xi U6 904 19 = Xi S 904 19 from by rw [eU6]; exact Xi_ne (by omega))))
  have w30 : 0 ≤ Xi S 904 19 ∧ Xi S 904 19 ≤ 24 := hH.c _ _
  exact Rl_weak (C32 _ U8 hHU8 hFU8 (0) (by omega) (by omega) (by first | exact k52 | exact k29) (by first | exact e52 | exact e29) (by first | exact t52 | exact t29) (by first | exact WYM_FR (FR_e eU8) rfl W32 | exact W29) rfl) (And.intro rfl (And.intro rfl (True.intro)))

